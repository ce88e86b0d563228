/-! the tape, images, keep -/
section RT1
variable {A B A' B' : ev_M}
theorem RE_tp (h : RE A B) (hA : ∀ a : Nat, a ≠ 34 → a ≠ 35 → A' a = A a) (hB : ∀ a : Nat, a ≠ 34 → a ≠ 35 → B' a = B a) (l : A' 34 1 = B' 34 1) (e : ∀ i : Int, 0 ≤ i ∧ i < B' 34 1 → A' 35 i = B' 35 i) : RE A' B' := by
  obtain ⟨h1, h2, h3, h4, h5, h6, h7⟩ := h
  refine ⟨?_, ?_, ?_, l, e, fun q hq => ?_, ?_⟩
  · rw [wn_congr (fun j hj => hA (1 + j) (by omega) (by omega)), wn_congr (fun j hj => hB (1 + j) (by omega) (by omega))]; exact h1
  · intro z
    rw [hB 0 (by omega) (by omega)] at z
    rw [wn_congr (fun j hj => hA (10 + j) (by omega) (by omega)), wn_congr (fun j hj => hB (10 + j) (by omega) (by omega))]; exact h2 z
  · rw [hA 0 (by omega) (by omega), hB 0 (by omega) (by omega)]; exact h3
  · have qb := isS_bd hq
    rw [hA q (by omega) (by omega), hB q (by omega) (by omega), hA (q + 1) (by omega) (by omega), hB (q + 1) (by omega) (by omega)]; exact h6 q hq
  · rw [hA 45 (by omega) (by omega), hB 45 (by omega) (by omega)]; exact h7
theorem OKC_tp (H : OKC B) (hB : ∀ a : Nat, a ≠ 34 → a ≠ 35 → B' a = B a) (l : 0 ≤ B' 34 1 ∧ B' 34 1 ≤ 120) (e : ∀ i : Int, 0 ≤ i ∧ i < B' 34 1 → 0 ≤ B' 35 i ∧ B' 35 i ≤ 255) : OKC B' := by
  obtain ⟨⟨k1, k2, k3, k4, k5⟩, k6, k7, k8⟩ := H
  refine ⟨⟨?_, ?_, ?_, ⟨l, fun i hi => by have := e i hi; omega⟩, fun q hq => ?_⟩, ?_, ?_, e⟩
  · rw [wn_congr (fun j hj => hB (1 + j) (by omega) (by omega))]; exact k1
  · rw [wn_congr (fun j hj => hB (10 + j) (by omega) (by omega))]; exact k2
  · rw [hB 0 (by omega) (by omega)]; exact k3
  · have qb := isS_bd hq
    rw [hB q (by omega) (by omega), hB (q + 1) (by omega) (by omega)]; exact k5 q hq
  · rw [hB 1 (by omega) (by omega)]; exact k6
  · rw [hB 10 (by omega) (by omega)]; exact k7
theorem RE_im (h : RE A B) (hA : ∀ a : Nat, 0 < a → a < 10 ∨ 18 < a → A' a = A a) (hB : ∀ a : Nat, 0 < a → a < 10 ∨ 18 < a → B' a = B a) (e10 : eqP (wn A' 10) (wn B' 10)) (e7 : A' 0 7 = B' 0 7) : RE A' B' := by
  obtain ⟨h1, h2, h3, h4, h5, h6, h7⟩ := h
  refine ⟨?_, fun _ => e10, e7, ?_, ?_, fun q hq => ?_, ?_⟩
  · rw [wn_congr (fun j hj => hA (1 + j) (by omega) (by omega)), wn_congr (fun j hj => hB (1 + j) (by omega) (by omega))]; exact h1
  · rw [hA 34 (by omega) (by omega), hB 34 (by omega) (by omega)]; exact h4
  · rw [hA 35 (by omega) (by omega), hB 35 (by omega) (by omega), hB 34 (by omega) (by omega)]; exact h5
  · have qb := isS_bd hq
    rw [hA q (by omega) (by omega), hB q (by omega) (by omega), hA (q + 1) (by omega) (by omega), hB (q + 1) (by omega) (by omega)]; exact h6 q hq
  · rw [hA 45 (by omega) (by omega), hB 45 (by omega) (by omega)]; exact h7
theorem OKC_im (H : OKC B) (hB : ∀ a : Nat, 0 < a → a < 10 ∨ 18 < a → B' a = B a) (k10 : okP (wn B' 10)) (e7 : B' 0 7 = 0 ∨ B' 0 7 = 1) (d : B' 10 2 ≤ 9999) : OKC B' := by
  obtain ⟨⟨k1, k2, k3, k4, k5⟩, k6, k7, k8⟩ := H
  refine ⟨⟨?_, k10, e7, ?_, fun q hq => ?_⟩, ?_, d, ?_⟩
  · rw [wn_congr (fun j hj => hB (1 + j) (by omega) (by omega))]; exact k1
  · unfold okT; rw [hB 34 (by omega) (by omega), hB 35 (by omega) (by omega)]; exact k4
  · have qb := isS_bd hq
    rw [hB q (by omega) (by omega), hB (q + 1) (by omega) (by omega)]; exact k5 q hq
  · rw [hB 1 (by omega) (by omega)]; exact k6
  · rw [hB 34 (by omega) (by omega), hB 35 (by omega) (by omega)]; exact k8
end RT1
theorem go_wipe : GO (fun σ => sc_wipe σ) := by
  refine ⟨fun A a ha => mup_ne (by omega), fun A B h H => GA_i ⟨rlt h, RE_tp h (fun a h1 h2 => mup_ne h1) (fun a h1 h2 => mup_ne h1) ?_ (fun i hi => ?_), OKC_tp H (fun a h1 h2 => mup_ne h1) ?_ (fun i hi => ?_)⟩⟩
  · show mup A 34 1 0 34 1 = mup B 34 1 0 34 1
    rw [mup_at, mup_at]
  · have hi2 : 0 ≤ i ∧ i < mup B 34 1 0 34 1 := hi
    rw [mup_at] at hi2; omega
  · show 0 ≤ mup B 34 1 0 34 1 ∧ mup B 34 1 0 34 1 ≤ 120
    rw [mup_at]; omega
  · have hi2 : 0 ≤ i ∧ i < mup B 34 1 0 34 1 := hi
    rw [mup_at] at hi2; omega
theorem byt_b2 {x i : Int} : 0 ≤ byt x i ∧ byt x i ≤ 255 := by
  have h := pk_andIn (Int32.ofInt (Int32.ofInt x >>> (Int32.ofInt (8 * i) &&& 31)).toInt) (m := Int32.ofInt 255) 8 rfl (by decide)
  rw [vp_in_iff] at h
  unfold byt
  omega
theorem fdM_n2 {σ : ev_M} {x n : Int} {a : Nat} (h1 : a ≠ 34) (h2 : a ≠ 35) : ∀ j : Nat, fdM σ 35 34 1 x n j a = σ a
  | 0 => rfl
  | j + 1 => by
    unfold fdM
    rw [mup_ne h1, mup_ne h2]
    exact fdM_n2 h1 h2 j
theorem fdM_rel {A B : ev_M} {x n : Int} (h : RE A B) (H : OKC B) : ∀ (j : Nat) (i : Int), 0 ≤ i ∧ i < B 34 1 + j → fdM A 35 34 1 x n j 35 i = fdM B 35 34 1 x n j 35 i ∧ 0 ≤ fdM B 35 34 1 x n j 35 i ∧ fdM B 35 34 1 x n j 35 i ≤ 255
  | 0, i, hi => ⟨h.2.2.2.2.1 i (by omega), H.2.2.2 i (by omega)⟩
  | j + 1, i, hi => by
    unfold fdM
    rw [fdM_of (by decide), fdM_of (by decide), rlt h, mup_ne (k := 34) (a := 35) (by decide), mup_ne (k := 34) (a := 35) (by decide)]
    by_cases e : i = B 34 1 + j
    · subst e
      rw [mup_at, mup_at]
      exact ⟨rfl, byt_b2⟩
    · rw [mup_off e, mup_off e]
      exact fdM_rel h H j i (by omega)
theorem go_feed {x n : Int} : GO (fun σ => sc_feed σ x n) := by
  refine ⟨fun A a ha => ?_, fun A B h H => ?_⟩
  · show (sc_feed A x n).2 a = A a
    unfold sc_feed; split
    · exact fnd_ne (by omega)
    · split
      · exact fnd_ne (by omega)
      · exact fdM_n2 (by omega) (by omega) _
  · show GA (sc_feed A x n) (sc_feed B x n)
    have tb := H.1.2.2.2.1.1
    unfold sc_feed; rw [rlt h]; split
    · exact GA_fnd h H (by omega)
    · split
      · exact GA_fnd h H (by omega)
      · have f := fdM_rel (x := x) (n := n) h H n.toNat
        refine GA_i ⟨rfl, RE_tp h (fun a h1 h2 => fdM_n2 h1 h2 _) (fun a h1 h2 => fdM_n2 h1 h2 _) ?_ (fun i hi => ?_), OKC_tp H (fun a h1 h2 => fdM_n2 h1 h2 _) ?_ (fun i hi => ?_)⟩
        · show fdM A 35 34 1 x n n.toNat 34 1 = fdM B 35 34 1 x n n.toNat 34 1
          rw [fdM_of (by decide), fdM_of (by decide), rlt h]
        · have hi2 : 0 ≤ i ∧ i < fdM B 35 34 1 x n n.toNat 34 1 := hi
          rw [fdM_of (by decide)] at hi2
          exact (f i hi2).1
        · show 0 ≤ fdM B 35 34 1 x n n.toNat 34 1 ∧ fdM B 35 34 1 x n n.toNat 34 1 ≤ 120
          rw [fdM_of (by decide)]; omega
        · have hi2 : 0 ≤ i ∧ i < fdM B 35 34 1 x n n.toNat 34 1 := hi
          rw [fdM_of (by decide)] at hi2
          exact (f i hi2).2
theorem img_ne {σ : ev_M} {a : Nat} (h0 : 0 < a) (h : a < 10 ∨ 18 < a) : (sc_image σ).2 a = σ a := by
  show mup (setP σ 10 (wn σ 1)) 0 7 1 a = σ a
  rw [mup_ne (by omega), setP_ne (by omega)]
theorem img_10 {σ : ev_M} : eqP (wn (sc_image σ).2 10) (wn σ 1) := by
  show eqP (wn (mup (setP σ 10 (wn σ 1)) 0 7 1) 10) (wn σ 1)
  rw [wn_congr (σ := setP σ 10 (wn σ 1)) (fun j hj => mup_ne (by omega))]
  exact eqP_setP
theorem img_7 {σ : ev_M} : (sc_image σ).2 0 7 = 1 := by
  show mup (setP σ 10 (wn σ 1)) 0 7 1 0 7 = 1
  exact mup_at
theorem go_image : GO (fun σ => sc_image σ) := by
  refine ⟨fun A a ha => img_ne (by omega) (by omega), fun A B h H => ⟨rfl, RE_im h (fun a h0 ha => img_ne h0 ha) (fun a h0 ha => img_ne h0 ha) (eqP_trans img_10 (eqP_trans h.1 (eqP_symm img_10))) (by show (sc_image A).2 0 7 = (sc_image B).2 0 7; rw [img_7, img_7]), OKC_im H (fun a h0 ha => img_ne h0 ha) (eqP_ok img_10 (okc1 H)) (Or.inr img_7) ?_⟩⟩
  have e : (sc_image B).2 10 2 = B 1 2 := img_10.2.1
  show (sc_image B).2 10 2 ≤ 9999
  rw [e]; exact H.2.1
theorem go_undo : GO (fun σ => sc_undo σ) := by
  refine ⟨fun A a ha => ?_, fun A B h H => ?_⟩
  · show (sc_undo A).2 a = A a
    unfold sc_undo; split
    · exact fnd_ne (by omega)
    · exact setP_ne (by omega)
  · show GA (sc_undo A) (sc_undo B)
    unfold sc_undo; rw [rlk h]; split
    · exact GA_fnd h H (by omega)
    · rename_i z
      have e10 := h.2.1 (by have := H.1.2.2.1; omega)
      refine GA_i ⟨e10.2.2.1, RE_up h (fun a ha => setP_ne (by omega)) (fun a ha => setP_ne (by omega)) (eqP_trans eqP_setP (eqP_trans e10 (eqP_symm eqP_setP))), OKC_up H (fun a ha => setP_ne (by omega)) (eqP_ok eqP_setP (okc10 H)) ?_⟩
      have e : setP B 1 (wn B 10) 1 2 = B 10 2 := rfl
      show setP B 1 (wn B 10) 1 2 ≤ 9999
      rw [e]; exact H.2.2.1
noncomputable def kpv (g : Int → Prop) (all : Int) : Int := Classical.epsilon (KP g all)
theorem kpv_eq {g : Int → Prop} {all k : Int} (h : KP g all k) : kpv g all = k := KP_one (Classical.epsilon_spec (p := KP g all) ⟨k, h⟩) h
noncomputable def sc_keep (σ : ev_M) (n : Int) : Int × ev_M := if 1 ≤ n ∧ n ≤ 10 then (kpv (fun s => eatN (wn σ 1) (bitp s) n.toNat ≤ eatN (wn σ 1) allp n.toNat) (pw (σ 1 8) - 1), σ) else (-1000000001, fnd σ 0)
theorem go_keep {n : Int} : GO (fun σ => sc_keep σ n) := by
  refine ⟨fun A a ha => ?_, fun A B h H => ?_⟩
  · show (sc_keep A n).2 a = A a
    unfold sc_keep; split
    · rfl
    · exact fnd_ne (by omega)
  · show GA (sc_keep A n) (sc_keep B n)
    have e : (fun s => eatN (wn A 1) (bitp s) n.toNat ≤ eatN (wn A 1) allp n.toNat) = (fun s => eatN (wn B 1) (bitp s) n.toNat ≤ eatN (wn B 1) allp n.toNat) := funext (fun s => by rw [eqP_eatP h.1 (okc1 H), eqP_eat h.1 (okc1 H)])
    unfold sc_keep; rw [e, rl8 h]; split
    · exact GA_id h H rfl
    · exact GA_fnd h H (by omega)
/-! the text: only the bytes of the tape count -/
section CG
variable {B B' : Int → Int} {L : Int}
theorem runN_cg {f : Int → Bool} : ∀ (n : Nat) (p : Int), (∀ i : Int, p ≤ i → i < p + n → B i = B' i) → runN f B n p = runN f B' n p
  | 0, _, _ => rfl
  | n + 1, p, h => by
    unfold runN
    rw [h p (by omega) (by omega), runN_cg n (p + 1) (fun i h1 h2 => h i (by omega) (by omega))]
theorem run_cg {f : Int → Bool} {p : Int} (h : ∀ i : Int, 0 ≤ i ∧ i < L → B i = B' i) (hp : 0 ≤ p) : run f B L p = run f B' L p := runN_cg _ _ (fun i h1 h2 => h i (by omega))
theorem tkAt_cg {s : Int} (h : ∀ i : Int, 0 ≤ i ∧ i < L → B i = B' i) (hs : 0 ≤ s) : tkAt B L s = tkAt B' L s := by
  unfold tkAt
  by_cases z : L ≤ s
  · rw [if_pos z, if_pos z]
  · rw [if_neg z, if_neg z, h s (by omega), run_cg h hs, run_cg h hs]
theorem tk_cg {p : Int} (h : ∀ i : Int, 0 ≤ i ∧ i < L → B i = B' i) (hp : 0 ≤ p ∧ p ≤ L) : tk B L p = tk B' L p := by
  have r := run_bd (f := isSp) (B := B') hp.2
  unfold tk
  rw [run_cg h hp.1, tkAt_cg h (by omega)]
theorem tkx_cg {t : Tk} (h : ∀ i : Int, 0 ≤ i ∧ i < L → B i = B' i) (g : gdT L t) : tkx B L t = tkx B' L t := tk_cg h ⟨by have := g.1; have := g.2.1; omega, g.2.2⟩
theorem nmN_cg {a : Int} : ∀ n : Nat, (∀ i : Int, a ≤ i → i < a + n → B i = B' i) → nmN B a n = nmN B' a n
  | 0, _ => rfl
  | n + 1, h => by
    unfold nmN
    rw [h (a + n) (by omega) (by omega), nmN_cg n (fun i h1 h2 => h i h1 (by omega))]
theorem nmt_cg {t : Tk} (h : ∀ i : Int, 0 ≤ i ∧ i < L → B i = B' i) (g : gdT L t) : nmt B t = nmt B' t := by
  obtain ⟨g1, g2, g3⟩ := g
  exact nmN_cg _ (fun i h1 h2 => h i (by omega))
theorem isNm_cg {t : Tk} {lo hi : Int} (h : ∀ i : Int, 0 ≤ i ∧ i < L → B i = B' i) (g : gdT L t) : isNm B t lo hi ↔ isNm B' t lo hi := by
  unfold isNm
  rw [nmt_cg h g]
theorem wdN_cg {a : Int} {j : Nat} : ∀ n : Nat, (∀ i : Int, a ≤ i → i < a + n → B i = B' i) → wdN B a j n = wdN B' a j n
  | 0, _ => rfl
  | n + 1, h => by
    unfold wdN
    rw [h (a + n) (by omega) (by omega), wdN_cg n (fun i h1 h2 => h i h1 (by omega))]
theorem wd_cg {t : Tk} {j : Nat} (h : ∀ i : Int, 0 ≤ i ∧ i < L → B i = B' i) (g : gdT L t) : wd B t j = wd B' t j := by
  obtain ⟨g1, g2, g3⟩ := g
  unfold wd
  by_cases z : t.1 = 1 ∧ t.2.2 - t.2.1 = wln j
  · have z2 := z.2
    rw [wdN_cg (wln j) (fun i h1 h2 => h i (by omega))]
  · rw [decide_eq_false z]; rfl
theorem kdF_cg {t : Tk} (h : ∀ i : Int, 0 ≤ i ∧ i < L → B i = B' i) (g : gdT L t) : ∀ m k : Nat, kdF B t m k = kdF B' t m k
  | 0, _ => rfl
  | m + 1, k => by
    unfold kdF
    rw [wd_cg h g, kdF_cg h g m (k + 1)]
theorem itFee_cg {P : ev_M} {s : Int} {t : Tk} (h : ∀ i : Int, 0 ≤ i ∧ i < L → B i = B' i) (g : gdT L t) : itFee B L P s t = itFee B' L P s t := by
  have g1 := (gdT_x (B := B') g).1
  unfold itFee
  simp only [isNm, wd_cg h g, tkx_cg h g, tkx_cg h g1, nmt_cg h g1]
theorem itTem_cg {P : ev_M} {s : Int} {t : Tk} (h : ∀ i : Int, 0 ≤ i ∧ i < L → B i = B' i) (g : gdT L t) : itTem B L P s t = itTem B' L P s t := by
  have g1 := (gdT_x (B := B') g).1
  have g2 := (gdT_x (B := B') g1).1
  unfold itTem
  simp only [isNm, wd_cg h g, tkx_cg h g, tkx_cg h g1, nmt_cg h g1, itFee_cg h g2, itFee_cg h g]
theorem itm_cg {P : ev_M} {t : Tk} (h : ∀ i : Int, 0 ≤ i ∧ i < L → B i = B' i) (g : gdT L t) : itm B L P t = itm B' L P t := by
  have g1 := (gdT_x (B := B') g).1
  have g2 := (gdT_x (B := B') g1).1
  have g3 := (gdT_x (B := B') g2).1
  have g4 := (gdT_x (B := B') g3).1
  have k : kdN B t = kdN B' t := kdF_cg h g 6 0
  have e1 : ∀ q : Int, itSit B L P q t = itSit B' L P q t := fun q => by
    unfold itSit; rw [tkx_cg h g, itTem_cg h g1]
  have e2 : itLik B L P t = itLik B' L P t := by
    unfold itLik itLi2
    simp only [isNm, tkx_cg h g, tkx_cg h g1, nmt_cg h g1, wd_cg h g2, tkx_cg h g2, tkx_cg h g3, nmt_cg h g3]
  have e3 : itWht B L P t = itWht B' L P t := by
    unfold itWht itWh1 itWh2
    simp only [isNm, tkx_cg h g, tkx_cg h g1, nmt_cg h g1, nmt_cg h g2, tkx_cg h g2, wd_cg h g3, tkx_cg h g3, tkx_cg h g4, nmt_cg h g4]
  have e4 : itCrw B L P t = itCrw B' L P t := by
    unfold itCrw
    simp only [isNm, tkx_cg h g, tkx_cg h g1, nmt_cg h g1]
  unfold itm
  rw [k, e1, e2, e3, e4, wd_cg h g, wd_cg h g, wd_cg h g]
theorem prs_cg (h : ∀ i : Int, 0 ≤ i ∧ i < L → B i = B' i) : ∀ (n : Nat) (P : ev_M) (t : Tk) (k : Int), gdT L t → prs B L n P t k = prs B' L n P t k
  | 0, _, _, _, _ => rfl
  | n + 1, P, t, k, g => by
    rw [prs_nxt, prs_nxt, itm_cg h g]
    match hi : itm B' L P t with
    | .inl x => rfl
    | .inr (t', P') =>
      have g1 := (itm_mo g hi).1
      unfold nxt
      simp only []
      rw [tkx_cg h g1, prs_cg h n P' _ _ (gdT_x g1).1]
theorem tpe_cg {P : ev_M} (h : ∀ i : Int, 0 ≤ i ∧ i < L → B i = B' i) (hL : 0 ≤ L) : tpe B L P = tpe B' L P := by
  have q := tk_bd (B := B') (L := L) (p := 0) (by omega)
  unfold tpe
  rw [tk_cg h (by omega), prs_cg h]
  unfold gdT
  omega
end CG
theorem itFee_02 {B : Int → Int} {L : Int} {P P' : ev_M} {s : Int} {t t' : Tk} (h : itFee B L P s t = .inr (t', P')) : P' 0 2 = P 0 2 := by
  unfold itFee at h
  split at h
  · split at h
    · cases h; rw [mup_ne (by decide)]
    · cases h
  · cases h; rfl
theorem itTem_02 {B : Int → Int} {L : Int} {P P' : ev_M} {s : Int} {t t' : Tk} (h : itTem B L P s t = .inr (t', P')) : P' 0 2 = P 0 2 := by
  unfold itTem at h
  split at h
  · split at h
    · rw [itFee_02 h, mup_ne (by decide)]
    · cases h
  · exact itFee_02 h
theorem itm_02 {B : Int → Int} {L : Int} {P P' : ev_M} {t t' : Tk} (h : itm B L P t = .inr (t', P')) : P' 0 2 = P 0 2 := by
  unfold itm at h
  split at h
  · unfold itSit at h
    split at h
    · rw [itTem_02 h]
      unfold addS
      rw [mup_off (by decide), mup_ne (by decide), mup_ne (by decide), mup_ne (by decide), mup_ne (by decide)]
    · cases h
  · split at h
    · unfold itLik itLi2 at h
      repeat' split at h
      all_goals first
        | (cases h; unfold addL; rw [mup_off (by decide), mup_ne (by decide), mup_ne (by decide), mup_ne (by decide)])
        | cases h
    · split at h
      · unfold itWht itWh1 itWh2 at h
        repeat' split at h
        all_goals first
          | (cases h; rfl)
          | cases h
      · split at h
        · unfold itCrw at h
          split at h
          · cases h; rw [mup_off (by decide)]
          · cases h
        · cases h
theorem prs_02 {B : Int → Int} {L : Int} : ∀ (n : Nat) {P P' : ev_M} {t : Tk} {k k' : Int}, prs B L n P t k = .inr (k', P') → P' 0 2 = P 0 2
  | 0, _, _, _, _, _, h => by cases h
  | n + 1, P, P', t, k, k', h => by
    rw [prs_nxt] at h
    match hi : itm B L P t with
    | .inl x => rw [hi] at h; cases h
    | .inr (t1, P1) =>
      have e := itm_02 hi
      rw [hi] at h
      unfold nxt at h
      simp only [] at h
      split at h
      · cases h; exact e
      · split at h
        · rw [prs_02 n h]; exact e
        · cases h
def plS (σ : ev_M) : Int ⊕ (Int × ev_M) → Int × ev_M
  | .inl x => (-1 - x, mup σ 34 1 0)
  | .inr (k, P) => (k, setP (mup σ 34 1 0) 1 P)
def sc_plain (σ : ev_M) : Int × ev_M := plS σ (tpe (σ 35) (σ 34 1) (wn σ 1))
theorem plS_fr {σ : ev_M} {a : Nat} (h1 : a ≠ 34) (h2 : a = 0 ∨ 9 < a) : ∀ res : Int ⊕ (Int × ev_M), (plS σ res).2 a = σ a
  | .inl x => mup_ne h1
  | .inr (k, P) => by
    show setP (mup σ 34 1 0) 1 P a = σ a
    rw [setP_ne (by omega), mup_ne h1]
theorem go_plain : GO (fun σ => sc_plain σ) := by
  refine ⟨fun A a ha => plS_fr (by omega) (by omega) _, fun A B h H => ?_⟩
  show GA (sc_plain A) (sc_plain B)
  have tb := H.1.2.2.2.1.1
  have h0 : RE (mup A 34 1 0) (mup B 34 1 0) := RE_tp h (fun a h1 h2 => mup_ne h1) (fun a h1 h2 => mup_ne h1) (by rw [mup_at, mup_at]) (fun i hi => by rw [mup_at] at hi; omega)
  have H0 : OKC (mup B 34 1 0) := OKC_tp H (fun a h1 h2 => mup_ne h1) (by rw [mup_at]; omega) (fun i hi => by rw [mup_at] at hi; omega)
  have c : tpe (A 35) (A 34 1) (wn A 1) = tpe (B 35) (B 34 1) (wn A 1) := by
    rw [rlt h]; exact tpe_cg h.2.2.2.2.1 tb.1
  have q : RS (tpe (B 35) (B 34 1) (wn A 1)) (tpe (B 35) (B 34 1) (wn B 1)) := prs_rel 120 h.1 (okc1 H)
  unfold sc_plain
  rw [c]
  match h1 : tpe (B 35) (B 34 1) (wn A 1), h2 : tpe (B 35) (B 34 1) (wn B 1) with
  | .inl x, .inl y => rw [h1, h2] at q; obtain rfl : x = y := q; exact ⟨rfl, h0, H0⟩
  | .inl x, .inr y => rw [h1, h2] at q; exact q.elim
  | .inr x, .inl y => rw [h1, h2] at q; exact q.elim
  | .inr (k', Q'), .inr (k, Q) =>
    rw [h1, h2] at q
    obtain ⟨rfl, q2, q3⟩ := q
    refine GA_i ⟨rfl, RE_up h0 (fun a ha => setP_ne (by omega)) (fun a ha => setP_ne (by omega)) (eqP_trans eqP_setP (eqP_trans q2 (eqP_symm eqP_setP))), OKC_up H0 (fun a ha => setP_ne (by omega)) (eqP_ok eqP_setP q3) ?_⟩
    have e : setP (mup B 34 1 0) 1 Q 1 2 = Q 0 2 := rfl
    have e2 : Q 0 2 = B 1 2 := prs_02 120 h2
    show setP (mup B 34 1 0) 1 Q 1 2 ≤ 9999
    rw [e, e2]; exact H.2.1
