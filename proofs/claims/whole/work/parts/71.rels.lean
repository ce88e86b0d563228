/-! sheets, images, the tape -/
section RS1
variable {A B A' B' : ev_M}
theorem RE_sh (h : RE A B) (hA : ∀ a : Nat, a < 37 ∨ 44 < a → A' a = A a) (hB : ∀ a : Nat, a < 37 ∨ 44 < a → B' a = B a) (e : ∀ q : Nat, isS q → A' q 1 = B' q 1 ∧ A' q 2 = B' q 2 ∧ ∀ i : Int, 0 ≤ i ∧ i < 40 → A' (q + 1) i = B' (q + 1) i) : RE A' B' := by
  obtain ⟨h1, h2, h3, h4, h5, h6, h7⟩ := h
  refine ⟨?_, ?_, ?_, ?_, ?_, e, ?_⟩
  · rw [wn_congr (fun j hj => hA (1 + j) (by omega)), wn_congr (fun j hj => hB (1 + j) (by omega))]; exact h1
  · intro z
    rw [hB 0 (by omega)] at z
    rw [wn_congr (fun j hj => hA (10 + j) (by omega)), wn_congr (fun j hj => hB (10 + j) (by omega))]; exact h2 z
  · rw [hA 0 (by omega), hB 0 (by omega)]; exact h3
  · rw [hA 34 (by omega), hB 34 (by omega)]; exact h4
  · rw [hA 35 (by omega), hB 35 (by omega), hB 34 (by omega)]; exact h5
  · rw [hA 45 (by omega), hB 45 (by omega)]; exact h7
theorem OKC_sh (H : OKC B) (hB : ∀ a : Nat, a < 37 ∨ 44 < a → B' a = B a) (k : okS B') : OKC B' := by
  obtain ⟨⟨k1, k2, k3, k4, k5⟩, k6, k7, k8⟩ := H
  refine ⟨⟨?_, ?_, ?_, ?_, k⟩, ?_, ?_, ?_⟩
  · rw [wn_congr (fun j hj => hB (1 + j) (by omega))]; exact k1
  · rw [wn_congr (fun j hj => hB (10 + j) (by omega))]; exact k2
  · rw [hB 0 (by omega)]; exact k3
  · unfold okT; rw [hB 34 (by omega), hB 35 (by omega)]; exact k4
  · rw [hB 1 (by omega)]; exact k6
  · rw [hB 10 (by omega)]; exact k7
  · rw [hB 34 (by omega), hB 35 (by omega)]; exact k8
theorem GA_i {v w : Int} (h : v = w ∧ RE A' B' ∧ OKC B') : GA (v, A') (w, B') := h
end RS1
theorem isS_bd {q : Nat} (h : isS q) : 37 ≤ q ∧ q ≤ 43 ∧ q % 2 = 1 := by rcases h with rfl | rfl | rfl | rfl <;> omega
theorem shM_ne {σ : ev_M} {q : Nat} {b n : Int} {a : Nat} (h1 : a ≠ q) (h2 : a ≠ q + 1) : shM σ q b n a = σ a := by
  funext j
  unfold shM mfl
  rw [if_neg (fun z => h2 z.1), mup_ne h1, mup_ne h1]
theorem shM_q {σ : ev_M} {q : Nat} {b n : Int} : shM σ q b n q 1 = b ∧ shM σ q b n q 2 = (if b = 0 then 0 else n) ∧ ∀ i : Int, 0 ≤ i ∧ i < 40 → shM σ q b n (q + 1) i = 0 := by
  unfold shM mfl
  refine ⟨?_, ?_, fun i hi => ?_⟩
  · rw [if_neg (by omega), mup_off (by decide), mup_at]
  · rw [if_neg (by omega), mup_at]
  · rw [if_pos ⟨rfl, by omega⟩]
theorem go_sheet {s bits n : Int} : GO (fun σ => sc_sheet σ s bits n) := by
  refine ⟨fun A a ha => ?_, fun A B h H => ?_⟩
  · show (sc_sheet A s bits n).2 a = A a
    unfold sc_sheet; split
    · exact fnd_ne (by omega)
    · split
      · exact fnd_ne (by omega)
      · split
        · exact fnd_ne (by omega)
        · rename_i z _ _
          have q := isS_bd (isS_rt (s := s) (by omega))
          exact shM_ne (by omega) (by omega)
  · show GA (sc_sheet A s bits n) (sc_sheet B s bits n)
    unfold sc_sheet; split
    · exact GA_fnd h H (by omega)
    · split
      · exact GA_fnd h H (by omega)
      · split
        · exact GA_fnd h H (by omega)
        · rename_i z zn zm
          have hS := isS_rt (s := s) (by omega)
          generalize ev_rt s.toNat = q at hS ⊢
          have qb := isS_bd hS
          have f : ∀ (σ : ev_M) (a : Nat), a < 37 ∨ 44 < a → shM σ q bits n a = σ a := fun σ a ha => shM_ne (by omega) (by omega)
          refine GA_i ⟨rfl, RE_sh h (f A) (f B) (fun p hp => ?_), OKC_sh H (f B) (fun p hp => ?_)⟩
          · by_cases e : p = q
            · subst e
              have x := shM_q (σ := A) (q := p) (b := bits) (n := n)
              have y := shM_q (σ := B) (q := p) (b := bits) (n := n)
              rw [x.1, x.2.1, y.1, y.2.1]
              exact ⟨rfl, rfl, fun i hi => by rw [x.2.2 i hi, y.2.2 i hi]⟩
            · have pb := isS_bd hp
              rw [shM_ne e (by omega), shM_ne e (by omega), shM_ne (a := p + 1) (by omega) (by omega), shM_ne (a := p + 1) (by omega) (by omega)]
              exact rlq h hp
          · by_cases e : p = q
            · subst e
              have y := shM_q (σ := B) (q := p) (b := bits) (n := n)
              rw [y.1, y.2.1]
              refine ⟨by omega, by split <;> omega, fun i hi => by rw [y.2.2 i hi]; omega⟩
            · have pb := isS_bd hp
              rw [shM_ne e (by omega), shM_ne (a := p + 1) (by omega) (by omega)]
              exact H.1.2.2.2.2 p hp
/-- one row of a sheet changes -/
theorem GA_row {A B A' B' : ev_M} {q : Nat} (h : RE A B) (H : OKC B) (hq : isS q) {v w : Int} (e : v = w) (hA : ∀ a : Nat, a ≠ q + 1 → A' a = A a) (hB : ∀ a : Nat, a ≠ q + 1 → B' a = B a) (r : ∀ i : Int, 0 ≤ i ∧ i < 40 → A' (q + 1) i = B' (q + 1) i ∧ (-9223372036854775808 ≤ B' (q + 1) i ∧ B' (q + 1) i < 9223372036854775808)) : GA (v, A') (w, B') := by
  have qb := isS_bd hq
  refine GA_i ⟨e, RE_sh h (fun a ha => hA a (by omega)) (fun a ha => hB a (by omega)) (fun p hp => ?_), OKC_sh H (fun a ha => hB a (by omega)) (fun p hp => ?_)⟩
  · have pb := isS_bd hp
    have x := rlq h hp
    show A' p 1 = B' p 1 ∧ A' p 2 = B' p 2 ∧ _
    rw [hA p (by omega), hB p (by omega)]
    refine ⟨x.1, x.2.1, fun i hi => ?_⟩
    by_cases z : p = q
    · subst z; exact (r i hi).1
    · rw [hA (p + 1) (by omega), hB (p + 1) (by omega)]; exact x.2.2 i hi
  · have pb := isS_bd hp
    have x := H.1.2.2.2.2 p hp
    rw [hB p (by omega)]
    refine ⟨x.1, x.2.1, fun i hi => ?_⟩
    by_cases z : p = q
    · subst z; exact (r i hi).2
    · rw [hB (p + 1) (by omega)]; exact x.2.2 i hi
theorem go_write {s i v : Int} (hv : (-9223372036854775808 ≤ v ∧ v < 9223372036854775808)) : GO (fun σ => sc_write σ s i v) := by
  refine ⟨fun A a ha => ?_, fun A B h H => ?_⟩
  · show (sc_write A s i v).2 a = A a
    unfold sc_write; split
    · exact fnd_ne (by omega)
    · rename_i z
      have q := isS_bd (isS_rt (s := s) (by omega))
      split
      · exact fnd_ne (by omega)
      · split
        · exact fnd_ne (by omega)
        · exact mup_ne (by omega)
  · show GA (sc_write A s i v) (sc_write B s i v)
    unfold sc_write; split
    · exact GA_fnd h H (by omega)
    · rename_i z
      have hS := isS_rt (s := s) (by omega)
      generalize ev_rt s.toNat = q at hS ⊢
      have x := rlq h hS
      have k := H.1.2.2.2.2 q hS
      rw [x.1, x.2.1]
      split
      · exact GA_fnd h H (by omega)
      · split
        · exact GA_fnd h H (by omega)
        · rename_i zi
          refine GA_row h H hS (x.2.2 i (by omega)) (fun a ha => mup_ne ha) (fun a ha => mup_ne ha) (fun j hj => ?_)
          unfold mup
          by_cases e : j = i
          · rw [if_pos ⟨rfl, e⟩, if_pos ⟨rfl, e⟩]; exact ⟨rfl, cutv_bd hv⟩
          · rw [if_neg (fun w => e w.2), if_neg (fun w => e w.2)]; exact ⟨x.2.2 j hj, k.2.2 j hj⟩
theorem go_copy {s f t g n : Int} : GO (fun σ => sc_copy σ s f t g n) := by
  refine ⟨fun A a ha => ?_, fun A B h H => ?_⟩
  · show (sc_copy A s f t g n).2 a = A a
    unfold sc_copy; split
    · exact fnd_ne (by omega)
    · rename_i z
      have q := isS_bd (isS_rt (s := t) (by omega))
      split
      · exact fnd_ne (by omega)
      · split
        · exact fnd_ne (by omega)
        · split
          · exact fnd_ne (by omega)
          · exact mcp_ne (by omega)
  · show GA (sc_copy A s f t g n) (sc_copy B s f t g n)
    unfold sc_copy; split
    · exact GA_fnd h H (by omega)
    · rename_i z
      have hS := isS_rt (s := s) (by omega)
      have hT := isS_rt (s := t) (by omega)
      generalize ev_rt s.toNat = q at hS ⊢
      generalize ev_rt t.toNat = p at hT ⊢
      have x := rlq h hS
      have y := rlq h hT
      have k := H.1.2.2.2.2 q hS
      have m := H.1.2.2.2.2 p hT
      rw [x.1, x.2.1, y.1, y.2.1]
      split
      · exact GA_fnd h H (by omega)
      · split
        · exact GA_fnd h H (by omega)
        · split
          · exact GA_fnd h H (by omega)
          · rename_i zi
            refine GA_row h H hT rfl (fun a ha => mcp_ne ha) (fun a ha => mcp_ne ha) (fun j hj => ?_)
            unfold mcp
            by_cases e : g ≤ j ∧ j < g + n
            · rw [if_pos ⟨rfl, e⟩, if_pos ⟨rfl, e⟩]
              exact ⟨x.2.2 _ (by omega), k.2.2 _ (by omega)⟩
            · rw [if_neg (fun w => e w.2), if_neg (fun w => e w.2)]; exact ⟨y.2.2 j hj, m.2.2 j hj⟩
theorem go_lays {s : Int} : GO (fun σ => sc_lays σ s) := by
  have ne : ∀ (σ : ev_M) (q : Nat) (i : Int) (a : Nat), a ≠ 2 → lyM σ q i a = σ a := fun σ q i a ha => by
    funext j; unfold lyM; rw [if_neg (fun z => ha z.1)]
  refine ⟨fun A a ha => ?_, fun A B h H => ?_⟩
  · show (sc_lays A s).2 a = A a
    unfold sc_lays; split
    · exact fnd_ne (by omega)
    · split
      · exact fnd_ne (by omega)
      · exact ne _ _ _ _ (by omega)
  · show GA (sc_lays A s) (sc_lays B s)
    unfold sc_lays; split
    · exact GA_fnd h H (by omega)
    · rename_i z
      have hS := isS_rt (s := s) (by omega)
      generalize ev_rt s.toNat = q at hS ⊢
      have x := rlq h hS
      have k := H.1.2.2.2.2 q hS
      rw [x.1, x.2.1]
      split
      · exact GA_fnd h H (by omega)
      · refine GA_i ⟨sm_congr (fun i hi => by unfold lyN; rw [x.2.2 i (by omega)]), RE_up h (fun a ha => ne _ _ _ _ (by omega)) (fun a ha => ne _ _ _ _ (by omega)) ?_, OKC_up H (fun a ha => ne _ _ _ _ (by omega)) ?_ ?_⟩
        · have E := h.1
          obtain ⟨e1, e2, e3, e4, e5, e6, e7⟩ := E
          refine ⟨?_, ?_, ?_, ?_, fun c hc => ?_, ?_, ?_⟩
          · rw [wn0, wn0, ne _ _ _ _ (by decide), ne _ _ _ _ (by decide)]; exact e1
          · rw [wn0, wn0, ne _ _ _ _ (by decide), ne _ _ _ _ (by decide)]; exact e2
          · rw [wn0, wn0, ne _ _ _ _ (by decide), ne _ _ _ _ (by decide)]; exact e3
          · rw [wn0, wn0, ne _ _ _ _ (by decide), ne _ _ _ _ (by decide)]; exact e4
          · show lyM A q (B q 2) 2 c = lyM B q (B q 2) 2 c
            unfold lyM
            by_cases w : c < B q 2
            · rw [x.2.2 c (by omega), rlw h hc]
            · rw [if_neg (by omega), if_neg (by omega)]; exact rlw h hc
          · rw [wn0, ne _ _ _ _ (by decide)]
            intro y hy
            rw [wn2, wn2, wn3, wn3, wn4, wn4, wn5, wn5, ne _ _ _ _ (by decide), ne _ _ _ _ (by decide), ne _ _ _ _ (by decide), ne _ _ _ _ (by decide), ne _ _ _ _ (by decide), ne _ _ _ _ (by decide), ne _ _ _ _ (by decide), ne _ _ _ _ (by decide)]
            exact e6 y hy
          · rw [wn0, ne _ _ _ _ (by decide)]
            intro y hy
            rw [wn6, wn6, wn7, wn7, wn8, wn8, ne _ _ _ _ (by decide), ne _ _ _ _ (by decide), ne _ _ _ _ (by decide), ne _ _ _ _ (by decide), ne _ _ _ _ (by decide), ne _ _ _ _ (by decide)]
            exact e7 y hy
        · obtain ⟨e1, e2, e3, e4, e5, e6, e7⟩ := okc1 H
          refine ⟨?_, ?_, ?_, ?_, fun c hc => ?_, ?_, ?_⟩
          · rw [wn0, ne _ _ _ _ (by decide)]; exact e1
          · rw [wn0, ne _ _ _ _ (by decide)]; exact e2
          · rw [wn0, ne _ _ _ _ (by decide)]; exact e3
          · rw [wn0, ne _ _ _ _ (by decide)]; exact e4
          · show 0 ≤ lyM B q (B q 2) 2 c ∧ lyM B q (B q 2) 2 c ≤ 99
            unfold lyM
            split
            · rename_i w; exact w.2.2
            · exact e5 c hc
          · rw [wn0, ne _ _ _ _ (by decide)]
            intro y hy
            rw [wn2, wn3, wn4, wn5, ne _ _ _ _ (by decide), ne _ _ _ _ (by decide), ne _ _ _ _ (by decide), ne _ _ _ _ (by decide)]
            exact e6 y hy
          · rw [wn0, wn0, ne _ _ _ _ (by decide)]
            intro y hy
            rw [wn6, wn7, wn8, ne _ _ _ _ (by decide), ne _ _ _ _ (by decide), ne _ _ _ _ (by decide)]
            exact e7 y hy
        · rw [ne _ _ _ _ (by decide)]; exact H.2.1
theorem go_book {s : Int} : GO (fun σ => sc_book σ s) := by
  have ne : ∀ (σ P : ev_M) (q : Nat) (i : Int) (a : Nat), a ≠ q + 1 → bkM σ P q i a = σ a := fun σ P q i a ha => by
    funext j; unfold bkM; rw [if_neg (fun z => ha z.1)]
  refine ⟨fun A a ha => ?_, fun A B h H => ?_⟩
  · show (sc_book A s).2 a = A a
    unfold sc_book; split
    · exact fnd_ne (by omega)
    · rename_i z
      have q := isS_bd (isS_rt (s := s) (by omega))
      split
      · exact fnd_ne (by omega)
      · exact ne _ _ _ _ _ (by omega)
  · show GA (sc_book A s) (sc_book B s)
    unfold sc_book; split
    · exact GA_fnd h H (by omega)
    · rename_i z
      have hS := isS_rt (s := s) (by omega)
      generalize ev_rt s.toNat = q at hS ⊢
      have x := rlq h hS
      have k := H.1.2.2.2.2 q hS
      rw [x.1, x.2.1]
      split
      · exact GA_fnd h H (by omega)
      · refine GA_row h H hS rfl (ne _ _ _ _) (ne _ _ _ _) (fun j hj => ?_)
        unfold bkM
        by_cases w : 0 ≤ j ∧ j < B q 2
        · rw [if_pos ⟨rfl, w⟩, if_pos ⟨rfl, w⟩, x.1, eqP_WT (eqP_dayN h.1 (okc1 H) _)]
          have wb := WT_bd (okP_dayN (pr := allp) (okc1 H) j.toNat)
          exact ⟨rfl, cutv_bd (by omega)⟩
        · rw [if_neg (fun y => w y.2), if_neg (fun y => w y.2)]; exact ⟨x.2.2 j hj, k.2.2 j hj⟩
theorem go_tear : GO (fun σ => sc_tear σ) := by
  refine ⟨fun A a ha => mup_ne (by omega), fun A B h H => ?_⟩
  obtain ⟨h1, h2, h3, h4, h5, h6, h7⟩ := h
  obtain ⟨⟨k1, k2, k3, k4, k5⟩, k6, k7, k8⟩ := H
  have w1 : ∀ σ : ev_M, wn (mup σ 0 7 0) 1 = wn σ 1 := fun σ => wn_congr (fun j hj => mup_ne (by omega))
  have w10 : ∀ σ : ev_M, wn (mup σ 0 7 0) 10 = wn σ 10 := fun σ => wn_congr (fun j hj => mup_ne (by omega))
  have ne : ∀ (σ : ev_M) (a : Nat), a ≠ 0 → mup σ 0 7 0 a = σ a := fun σ a ha => mup_ne ha
  refine GA_i ⟨h3, ⟨by show eqP (wn (mup A 0 7 0) 1) (wn (mup B 0 7 0) 1); rw [w1, w1]; exact h1, fun z => absurd (show mup B 0 7 0 0 7 = 1 from z) (by rw [mup_at]; decide), ?_, h4, h5, fun q hq => ?_, h7⟩, ⟨⟨by show okP (wn (mup B 0 7 0) 1); rw [w1]; exact k1, by show okP (wn (mup B 0 7 0) 10); rw [w10]; exact k2, ?_, k4, fun q hq => ?_⟩, k6, k7, k8⟩⟩
  · show mup A 0 7 0 0 7 = mup B 0 7 0 0 7
    rw [mup_at, mup_at]
  · have qb := isS_bd hq
    show mup A 0 7 0 q 1 = mup B 0 7 0 q 1 ∧ mup A 0 7 0 q 2 = mup B 0 7 0 q 2 ∧ ∀ i : Int, 0 ≤ i ∧ i < 40 → mup A 0 7 0 (q + 1) i = mup B 0 7 0 (q + 1) i
    rw [ne _ q (by omega), ne _ q (by omega), ne _ (q + 1) (by omega), ne _ (q + 1) (by omega)]
    exact h6 q hq
  · show mup B 0 7 0 0 7 = 0 ∨ mup B 0 7 0 0 7 = 1
    rw [mup_at]; exact Or.inl rfl
  · have qb := isS_bd hq
    show (mup B 0 7 0 q 1 = 0 ∨ mup B 0 7 0 q 1 = 8 ∨ mup B 0 7 0 q 1 = 16 ∨ mup B 0 7 0 q 1 = 64) ∧ (0 ≤ mup B 0 7 0 q 2 ∧ mup B 0 7 0 q 2 ≤ 40) ∧ ∀ i : Int, 0 ≤ i ∧ i < 40 → (-9223372036854775808 ≤ mup B 0 7 0 (q + 1) i ∧ mup B 0 7 0 (q + 1) i < 9223372036854775808)
    rw [ne _ q (by omega), ne _ (q + 1) (by omega)]
    exact k5 q hq
