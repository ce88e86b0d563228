/-! what holds between calls, and that the calls keep it -/
theorem REL_sy {A B : ev_M} (h : REL A B) : REL B A := by
  obtain ⟨h1, h2, h3, h4, h5, h6, h7⟩ := h
  exact ⟨eqP_symm h1, eqP_symm h2, h3.symm, h4.symm, fun i hi => (h5 i (by omega)).symm, fun q hq => ⟨(h6 q hq).1.symm, (h6 q hq).2.1.symm, fun i hi => ((h6 q hq).2.2 i hi).symm⟩, fun i hi => (h7 i hi).symm⟩
def OKC (B : ev_M) : Prop := OKB B ∧ B 1 2 ≤ 9999 ∧ B 10 2 ≤ 9999 ∧ ∀ i : Int, 0 ≤ i ∧ i < B 34 1 → 0 ≤ B 35 i ∧ B 35 i ≤ 255
theorem OKC_rel {A B : ev_M} (h : REL A B) (H : OKC B) : OKC A := by
  obtain ⟨k1, k2, k3, k4⟩ := H
  have e2 : A 1 2 = B 1 2 := h.1.2.1
  have f2 : A 10 2 = B 10 2 := h.2.1.2.1
  refine ⟨OKB_rel h k1, by rw [e2]; exact k2, by rw [f2]; exact k3, fun i hi => ?_⟩
  rw [h.2.2.2.1] at hi
  rw [h.2.2.2.2.1 i hi]
  exact k4 i hi
/-- the class's cells against the model's: a kept plain counts once there is one -/
def RE (A B : ev_M) : Prop := eqP (wn A 1) (wn B 1) ∧ (B 0 7 = 1 → eqP (wn A 10) (wn B 10)) ∧ A 0 7 = B 0 7 ∧ A 34 1 = B 34 1 ∧ (∀ i : Int, 0 ≤ i ∧ i < B 34 1 → A 35 i = B 35 i) ∧ (∀ q : Nat, isS q → A q 1 = B q 1 ∧ A q 2 = B q 2 ∧ ∀ i : Int, 0 ≤ i ∧ i < 40 → A (q + 1) i = B (q + 1) i) ∧ (∀ i : Int, 0 ≤ i ∧ i < 7 → A 45 i = B 45 i)
theorem REL_RE {A B : ev_M} (h : REL A B) : RE A B := ⟨h.1, fun _ => h.2.1, h.2.2⟩
theorem RE_rf {A : ev_M} : RE A A := REL_RE REL_rf
theorem RE_tr {A B C : ev_M} (h : RE A B) (g : RE B C) : RE A C := by
  obtain ⟨h1, h2, h3, h4, h5, h6, h7⟩ := h
  obtain ⟨g1, g2, g3, g4, g5, g6, g7⟩ := g
  exact ⟨eqP_trans h1 g1, fun z => eqP_trans (h2 (by omega)) (g2 z), h3.trans g3, h4.trans g4, fun i hi => (h5 i (by omega)).trans (g5 i hi), fun q hq => ⟨(h6 q hq).1.trans (g6 q hq).1, (h6 q hq).2.1.trans (g6 q hq).2.1, fun i hi => ((h6 q hq).2.2 i hi).trans ((g6 q hq).2.2 i hi)⟩, fun i hi => (h7 i hi).trans (g7 i hi)⟩
/-- what holds of the class's cells -/
def OKA (B : ev_M) : Prop := (okP (wn B 1) ∧ (B 0 7 = 1 → okP (wn B 10)) ∧ (B 0 7 = 0 ∨ B 0 7 = 1) ∧ okT B ∧ okS B) ∧ B 1 2 ≤ 9999
theorem OKA_rel {A B : ev_M} (h : RE A B) (H : OKC B) : OKA A := by
  obtain ⟨h1, h2, h3, h4, h5, h6, h7⟩ := h
  obtain ⟨⟨k1, k2, k3, k4, k5⟩, k6, k7, k8⟩ := H
  have e2 : A 1 2 = B 1 2 := h1.2.1
  refine ⟨⟨eqP_ok h1 k1, fun z => eqP_ok (h2 (by omega)) k2, by rw [h3]; exact k3, ⟨by rw [h4]; exact k4.1, fun i hi => ?_⟩, fun q hq => ?_⟩, by rw [e2]; exact k6⟩
  · rw [h4] at hi
    rw [h5 i hi]
    exact k4.2 i hi
  · obtain ⟨a1, a2, a3⟩ := h6 q hq
    obtain ⟨s1, s2, s3⟩ := k5 q hq
    rw [a1, a2]
    exact ⟨s1, s2, fun i hi => by rw [a3 i hi]; exact s3 i hi⟩
section RLS
variable {A B : ev_M}
theorem rl1 (h : RE A B) : A 1 1 = B 1 1 := h.1.1
theorem rl2 (h : RE A B) : A 1 2 = B 1 2 := h.1.2.1
theorem rl3 (h : RE A B) : A 1 3 = B 1 3 := h.1.2.2.1
theorem rl8 (h : RE A B) : A 1 8 = B 1 8 := h.1.2.2.2.1
theorem rlw (h : RE A B) {c : Int} (hc : 0 ≤ c ∧ c < 48) : A 2 c = B 2 c := h.1.2.2.2.2.1 c hc
theorem rls (h : RE A B) {k : Int} (hk : 0 ≤ k ∧ k < B 1 3) : A 3 k = B 3 k ∧ A 4 k = B 4 k ∧ A 5 k = B 5 k ∧ A 6 k = B 6 k := h.1.2.2.2.2.2.1 k hk
theorem rll (h : RE A B) {l : Int} (hl : 0 ≤ l ∧ l < B 1 8) : A 7 l = B 7 l ∧ A 8 l = B 8 l ∧ A 9 l = B 9 l := h.1.2.2.2.2.2.2 l hl
theorem rlk (h : RE A B) : A 0 7 = B 0 7 := h.2.2.1
theorem rlt (h : RE A B) : A 34 1 = B 34 1 := h.2.2.2.1
theorem rlq (h : RE A B) {q : Nat} (hq : isS q) : A q 1 = B q 1 ∧ A q 2 = B q 2 ∧ ∀ i : Int, 0 ≤ i ∧ i < 40 → A (q + 1) i = B (q + 1) i := h.2.2.2.2.2.1 q hq
theorem rlf (h : RE A B) {i : Int} (hi : 0 ≤ i ∧ i < 7) : A 45 i = B 45 i := h.2.2.2.2.2.2 i hi
theorem okc1 (H : OKC B) : okP (wn B 1) := H.1.1
theorem okc10 (H : OKC B) : okP (wn B 10) := H.1.2.1
theorem okcn (H : OKC B) : (0 ≤ B 1 1 ∧ B 1 1 ≤ 20) ∧ (0 ≤ B 1 2 ∧ B 1 2 ≤ 9999) ∧ (0 ≤ B 1 3 ∧ B 1 3 ≤ 6) ∧ (0 ≤ B 1 8 ∧ B 1 8 ≤ 8) := ⟨H.1.1.1, ⟨H.1.1.2.1, H.2.1⟩, H.1.1.2.2.1, H.1.1.2.2.2.1⟩
/-- two answers that are alike -/
def GA (x y : Int × ev_M) : Prop := x.1 = y.1 ∧ RE x.2 y.2 ∧ OKC y.2
theorem GA_id (h : RE A B) (H : OKC B) {v w : Int} (e : v = w) : GA (v, A) (w, B) := ⟨e, h, H⟩
theorem wn_fnd {σ : ev_M} {i : Int} {p : Nat} (hp : p < 37) : wn (fnd σ i) p = wn σ p := wn_congr (fun j hj => mup_ne (by omega))
theorem fnd_ne {σ : ev_M} {i : Int} {a : Nat} (h : a ≠ 45) : fnd σ i a = σ a := mup_ne h
theorem RE_fnd {i : Int} (h : RE A B) (hi : 0 ≤ i ∧ i < 7) : RE (fnd A i) (fnd B i) := by
  obtain ⟨h1, h2, h3, h4, h5, h6, h7⟩ := h
  refine ⟨by rw [wn_fnd (by decide), wn_fnd (by decide)]; exact h1, fun z => by rw [wn_fnd (by decide), wn_fnd (by decide)]; exact h2 z, h3, h4, h5, fun q hq => ?_, fun x hx => ?_⟩
  · have hb : q ≤ 43 := by rcases hq with rfl | rfl | rfl | rfl <;> omega
    rw [fnd_ne (by omega), fnd_ne (by omega), fnd_ne (by omega), fnd_ne (by omega)]
    exact h6 q hq
  · unfold fnd
    rw [h7 i hi]
    unfold mup
    split
    · rfl
    · exact h7 x hx
theorem OKC_fr {B' : ev_M} (H : OKC B) (h : ∀ a : Nat, a < 19 ∨ (33 < a ∧ a < 45) → B' a = B a) : OKC B' := by
  have w1 : wn B' 1 = wn B 1 := wn_congr (fun j hj => h _ (by omega))
  have w10 : wn B' 10 = wn B 10 := wn_congr (fun j hj => h _ (by omega))
  obtain ⟨⟨k1, k2, k3, k4, k5⟩, k6, k7, k8⟩ := H
  refine ⟨⟨by rw [w1]; exact k1, by rw [w10]; exact k2, by rw [h 0 (by omega)]; exact k3, by unfold okT; rw [h 34 (by omega), h 35 (by omega)]; exact k4, fun q hq => ?_⟩, by rw [h 1 (by omega)]; exact k6, by rw [h 10 (by omega)]; exact k7, by rw [h 34 (by omega), h 35 (by omega)]; exact k8⟩
  have hb : 37 ≤ q ∧ q ≤ 43 := by rcases hq with rfl | rfl | rfl | rfl <;> omega
  rw [h q (by omega), h (q + 1) (by omega)]
  exact k5 q hq
theorem OKC_fnd (H : OKC B) {i : Int} : OKC (fnd B i) := OKC_fr H (fun a ha => fnd_ne (by omega))
theorem GA_fnd (h : RE A B) (H : OKC B) {v i : Int} (hi : 0 ≤ i ∧ i < 7) : GA (v, fnd A i) (v, fnd B i) := ⟨rfl, RE_fnd h hi, OKC_fnd H⟩
theorem RE_up {A' B' : ev_M} (h : RE A B) (hA : ∀ a : Nat, a = 0 ∨ 9 < a → A' a = A a) (hB : ∀ a : Nat, a = 0 ∨ 9 < a → B' a = B a) (e : eqP (wn A' 1) (wn B' 1)) : RE A' B' := by
  obtain ⟨h1, h2, h3, h4, h5, h6, h7⟩ := h
  refine ⟨e, ?_, ?_, ?_, ?_, fun q hq => ?_, ?_⟩
  · intro z
    rw [hB 0 (by omega)] at z
    rw [wn_congr (fun j hj => hA (10 + j) (by omega)), wn_congr (fun j hj => hB (10 + j) (by omega))]; exact h2 z
  · rw [hA 0 (by omega), hB 0 (by omega)]; exact h3
  · rw [hA 34 (by omega), hB 34 (by omega)]; exact h4
  · rw [hA 35 (by omega), hB 35 (by omega), hB 34 (by omega)]; exact h5
  · have hb : 37 ≤ q := by rcases hq with rfl | rfl | rfl | rfl <;> omega
    rw [hA q (by omega), hB q (by omega), hA (q + 1) (by omega), hB (q + 1) (by omega)]; exact h6 q hq
  · rw [hA 45 (by omega), hB 45 (by omega)]; exact h7
theorem OKC_up {B' : ev_M} (H : OKC B) (hB : ∀ a : Nat, a = 0 ∨ 9 < a → B' a = B a) (k : okP (wn B' 1)) (d : B' 1 2 ≤ 9999) : OKC B' := by
  obtain ⟨⟨k1, k2, k3, k4, k5⟩, k6, k7, k8⟩ := H
  refine ⟨⟨k, ?_, ?_, ?_, fun q hq => ?_⟩, d, ?_, ?_⟩
  · rw [wn_congr (fun j hj => hB (10 + j) (by omega))]; exact k2
  · rw [hB 0 (by omega)]; exact k3
  · unfold okT; rw [hB 34 (by omega), hB 35 (by omega)]; exact k4
  · have hb : 37 ≤ q := by rcases hq with rfl | rfl | rfl | rfl <;> omega
    rw [hB q (by omega), hB (q + 1) (by omega)]; exact k5 q hq
  · rw [hB 10 (by omega)]; exact k7
  · rw [hB 34 (by omega), hB 35 (by omega)]; exact k8
/-- a row of the plain changes at a place -/
theorem GA_mup (h : RE A B) (H : OKC B) {v w : Int} (e : v = w) {a j : Nat} {i x : Int} (ha : a = 1 + j) (hj : 1 ≤ j ∧ j < 9) (ok : okP (mup (wn B 1) j i x)) : GA (v, mup A a i x) (w, mup B a i x) := by
  subst ha
  have f : ∀ σ : ev_M, ∀ a : Nat, a = 0 ∨ 9 < a → mup σ (1 + j) i x a = σ a := fun σ a ha => mup_ne (by omega)
  refine ⟨e, RE_up h (f A) (f B) ?_, OKC_up H (f B) ?_ ?_⟩
  · rw [wn_mup hj.2, wn_mup hj.2]; exact eqP_mup h.1 hj.1
  · rw [wn_mup hj.2]; exact ok
  · show mup B (1 + j) i x 1 2 ≤ 9999
    rw [mup_ne (by omega)]; exact H.2.1
end RLS
theorem okP_mup1 {P : ev_M} {c v : Int} (H : okP P) (hv : 0 ≤ v ∧ v ≤ 99) : okP (mup P 1 c v) := by
  obtain ⟨h1, h2, h3, h4, h5, h6, h7⟩ := H
  refine ⟨h1, h2, h3, h4, fun x hx => ?_, h6, h7⟩
  by_cases e : x = c
  · subst e
    have z : mup P 1 x v 1 x = v := mup_at
    rw [z]; exact hv
  · have z : mup P 1 c v 1 x = P 1 x := mup_off e
    rw [z]; exact h5 x hx
/-- a call keeps it -/
def GO (f : ev_M → Int × ev_M) : Prop := (∀ (A : ev_M) (a : Nat), 46 ≤ a → (f A).2 a = A a) ∧ ∀ A B : ev_M, RE A B → OKC B → GA (f A) (f B)
theorem go_wheat {c v : Int} : GO (fun σ => sc_wheat σ c v) := by
  refine ⟨fun A a ha => ?_, fun A B h H => ?_⟩
  · show (sc_wheat A c v).2 a = A a
    unfold sc_wheat; split
    · exact mup_ne (by omega)
    · exact fnd_ne (by omega)
  · show GA (sc_wheat A c v) (sc_wheat B c v)
    unfold sc_wheat; split
    · rename_i z
      exact GA_mup h H (rlw h (by omega)) rfl (by omega) (okP_mup1 (okc1 H) z.2)
    · exact GA_fnd h H (by omega)
theorem go_crows {v : Int} : GO (fun σ => sc_crows σ v) := by
  refine ⟨fun A a ha => ?_, fun A B h H => ?_⟩
  · show (sc_crows A v).2 a = A a
    unfold sc_crows; split
    · exact mup_ne (by omega)
    · exact fnd_ne (by omega)
  · show GA (sc_crows A v) (sc_crows B v)
    unfold sc_crows; split
    · rename_i z
      have f : ∀ σ : ev_M, ∀ a : Nat, a = 0 ∨ 9 < a → mup σ 1 1 v a = σ a := fun σ a ha => mup_ne (by omega)
      have w : ∀ σ : ev_M, wn (mup σ 1 1 v) 1 = mup (wn σ 1) 0 1 v := fun σ => wn_mup (p := 1) (j := 0) (by decide)
      refine ⟨rl1 h, RE_up h (f A) (f B) ?_, OKC_up H (f B) ?_ ?_⟩
      · rw [w, w]; exact eqP_mup0 h.1
      · rw [w]; exact okP_mup0 (okc1 H) z
      · show mup B 1 1 v 1 2 ≤ 9999
        rw [mup_off (by decide)]; exact H.2.1
    · exact GA_fnd h H (by omega)
theorem go_turn {s k : Int} : GO (fun σ => sc_turn σ s k) := by
  refine ⟨fun A a ha => ?_, fun A B h H => ?_⟩
  · show (sc_turn A s k).2 a = A a
    unfold sc_turn; split
    · exact mup_ne (by omega)
    · exact fnd_ne (by omega)
  · show GA (sc_turn A s k) (sc_turn B s k)
    unfold sc_turn; rw [rl3 h]; split
    · rename_i z
      exact GA_mup h H (rls h (by omega)).1 rfl (by omega) (okP_mup2 (okc1 H) z.2)
    · exact GA_fnd h H (by omega)
theorem go_set {s w v : Int} : GO (fun σ => sc_set σ s w v) := by
  refine ⟨fun A a ha => ?_, fun A B h H => ?_⟩
  · show (sc_set A s w v).2 a = A a
    unfold sc_set; split
    · exact mup_ne (by omega)
    · split
      · exact mup_ne (by omega)
      · exact fnd_ne (by omega)
  · show GA (sc_set A s w v) (sc_set B s w v)
    unfold sc_set; rw [rl3 h]; split
    · rename_i z
      exact GA_mup h H (rls h (by omega)).2.1 rfl (by omega) (okP_mup3 (okc1 H) z.2.2)
    · split
      · rename_i z
        exact GA_mup h H (rls h (by omega)).2.2.1 rfl (by omega) (okP_mup4 (okc1 H) z.2.2)
      · exact GA_fnd h H (by omega)
theorem go_place {l w v : Int} : GO (fun σ => sc_place σ l w v) := by
  refine ⟨fun A a ha => ?_, fun A B h H => ?_⟩
  · show (sc_place A l w v).2 a = A a
    unfold sc_place; split
    · exact mup_ne (by omega)
    · split
      · exact mup_ne (by omega)
      · split
        · exact mup_ne (by omega)
        · exact fnd_ne (by omega)
  · show GA (sc_place A l w v) (sc_place B l w v)
    unfold sc_place; rw [rl3 h, rl8 h]; split
    · rename_i z
      exact GA_mup h H (rll h (by omega)).1 rfl (by omega) (okP_mup6 (okc1 H) (by omega))
    · split
      · rename_i z
        exact GA_mup h H (rll h (by omega)).2.1 rfl (by omega) (okP_mup7 (okc1 H) (show 0 ≤ v ∧ v < B 1 3 by omega))
      · split
        · rename_i z
          exact GA_mup h H (rll h (by omega)).2.2 rfl (by omega) (okP_mup8 (okc1 H) z.2.2)
        · exact GA_fnd h H (by omega)
theorem addS_fr {σ : ev_M} {k : Int} {a : Nat} (h : a = 0 ∨ 9 < a) : addS σ 1 k a = σ a := by
  unfold addS; rw [mup_ne (by omega), mup_ne (by omega), mup_ne (by omega), mup_ne (by omega), mup_ne (by omega)]
theorem addL_fr {σ : ev_M} {k c : Int} {a : Nat} (h : a = 0 ∨ 9 < a) : addL σ 1 k c a = σ a := by
  unfold addL; rw [mup_ne (by omega), mup_ne (by omega), mup_ne (by omega), mup_ne (by omega)]
theorem go_sitter {k : Int} : GO (fun σ => sc_sitter σ k) := by
  refine ⟨fun A a ha => ?_, fun A B h H => ?_⟩
  · show (sc_sitter A k).2 a = A a
    unfold sc_sitter; split
    · split
      · exact addS_fr (by omega)
      · exact fnd_ne (by omega)
    · exact fnd_ne (by omega)
  · show GA (sc_sitter A k) (sc_sitter B k)
    unfold sc_sitter; rw [rl3 h]; split
    · rename_i z
      split
      · rename_i z6
        refine ⟨rfl, RE_up h (fun a => addS_fr) (fun a => addS_fr) ?_, OKC_up H (fun a => addS_fr) ?_ ?_⟩
        · rw [wn_addS, wn_addS]; exact eqP_addS h.1
        · rw [wn_addS]; exact okP_addS (okc1 H) z z6
        · have e : addS B 1 k 1 2 = B 1 2 := by
            unfold addS; rw [mup_off (by decide), mup_ne (by decide), mup_ne (by decide), mup_ne (by decide), mup_ne (by decide)]
          show addS B 1 k 1 2 ≤ 9999
          rw [e]; exact H.2.1
      · exact GA_fnd h H (by omega)
    · exact GA_fnd h H (by omega)
theorem go_likeness {s c : Int} : GO (fun σ => sc_likeness σ s c) := by
  refine ⟨fun A a ha => ?_, fun A B h H => ?_⟩
  · show (sc_likeness A s c).2 a = A a
    unfold sc_likeness; split
    · split
      · exact addL_fr (by omega)
      · exact fnd_ne (by omega)
    · exact fnd_ne (by omega)
  · show GA (sc_likeness A s c) (sc_likeness B s c)
    unfold sc_likeness; rw [rl3 h, rl8 h]; split
    · rename_i z
      split
      · rename_i z6
        refine ⟨rfl, RE_up h (fun a => addL_fr) (fun a => addL_fr) ?_, OKC_up H (fun a => addL_fr) ?_ ?_⟩
        · rw [wn_addL, wn_addL]; exact eqP_addL h.1
        · rw [wn_addL]; exact okP_addL (okc1 H) (show 0 ≤ s ∧ s < B 1 3 by omega) (by omega) z6
        · have e : addL B 1 s c 1 2 = B 1 2 := by
            unfold addL; rw [mup_off (by decide), mup_ne (by decide), mup_ne (by decide), mup_ne (by decide)]
          show addL B 1 s c 1 2 ≤ 9999
          rw [e]; exact H.2.1
      · exact GA_fnd h H (by omega)
    · exact GA_fnd h H (by omega)
