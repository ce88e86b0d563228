/-! both sides in one form -/
def INVM (σ : ev_M) : Prop := OKC (prj σ) ∧ σ 46 6 = 0
def INV (σ : ev_M) : Prop := RE σ (prj σ) ∧ INVM σ
theorem INV_K {σ : ev_M} (I : INV σ) : OKA σ := OKA_rel I.1 I.2.1
def RC (σ : ev_M) (x : Int × ev_M) (r : Option ev_V) (τ : ev_M) : Prop := r = some (vI x.1) ∧ RE τ x.2 ∧ ∀ a : Nat, 46 ≤ a → τ a = σ a
def RCL (σ : ev_M) (x : Int × ev_M) (r : Option ev_V) (τ : ev_M) : Prop := r = some (vL x.1) ∧ RE τ x.2 ∧ ∀ a : Nat, 46 ≤ a → τ a = σ a
theorem RC_of {σ τ : ev_M} {x : Int × ev_M} {r : Option ev_V} (g : ∀ a : Nat, 46 ≤ a → x.2 a = σ a) (h : r = some (vI x.1) ∧ sameC x.2 τ) : RC σ x r τ := ⟨h.1, REL_RE (REL_sameC REL_rf h.2), fun a ha => by rw [h.2 a (by omega)]; exact g a ha⟩
theorem RCL_of {σ τ : ev_M} {x : Int × ev_M} {r : Option ev_V} (g : ∀ a : Nat, 46 ≤ a → x.2 a = σ a) (h : r = some (vL x.1) ∧ sameC x.2 τ) : RCL σ x r τ := ⟨h.1, REL_RE (REL_sameC REL_rf h.2), fun a ha => by rw [h.2 a (by omega)]; exact g a ha⟩
theorem prj_cg {σ τ : ev_M} (h : ∀ a : Nat, 46 ≤ a → τ a = σ a) : prj τ = prj σ := by
  funext a i
  unfold prj
  rw [h 46 (by omega), h 47 (by omega), h 48 (by omega), h 51 (by omega), h 55 (by omega), h 56 (by omega), h 57 (by omega), h 58 (by omega)]
theorem RE_lt {σ τ B : ev_M} (h : ∀ a : Nat, a < 46 → τ a = σ a) (r : RE σ B) : RE τ B := by
  obtain ⟨h1, h2, h3, h4, h5, h6, h7⟩ := r
  refine ⟨by rw [wn_congr (fun j hj => h (1 + j) (by omega))]; exact h1, fun z => by rw [wn_congr (fun j hj => h (10 + j) (by omega))]; exact h2 z, by rw [h 0 (by omega)]; exact h3, by rw [h 34 (by omega)]; exact h4, by rw [h 35 (by omega)]; exact h5, fun q hq => ?_, by rw [h 45 (by omega)]; exact h7⟩
  have qb := isS_bd hq
  rw [h q (by omega), h (q + 1) (by omega)]
  exact h6 q hq
theorem INV_go {f : ev_M → Int × ev_M} (g : GO f) {σ τ : ev_M} (I : INV σ) (h : RE τ (f σ).2 ∧ ∀ a : Nat, 46 ≤ a → τ a = σ a) : INVM τ ∧ (f (prj τ)).1 = (f σ).1 ∧ ∀ ω : ev_M, (REL (f (prj τ)).2 (prj ω) ∧ (∀ a : Nat, a < 46 → ω a = τ a) ∧ ω 46 6 = 0) → INV ω := by
  have e := prj_cg h.2
  obtain ⟨g1, g2, g3⟩ := g.2 σ (prj σ) I.1 I.2.1
  refine ⟨⟨by rw [e]; exact I.2.1, by rw [h.2 46 (by omega)]; exact I.2.2⟩, by rw [e]; exact g1.symm, fun ω hω => ?_⟩
  obtain ⟨w1, w2, w3⟩ := hω
  rw [e] at w1
  exact ⟨RE_lt w2 (RE_tr h.1 (RE_tr g2 (REL_RE w1))), OKC_rel (REL_sy w1) g3, w3⟩
section IM
variable {σ : ev_M}
theorem im_H (M : INVM σ) : okP (wr (σ 47)) := by rw [← prj_1]; exact okc1 M.1
theorem im_10 (M : INVM σ) : okP (wr (σ 48)) := by rw [← prj_10]; exact okc10 M.1
theorem im_d (M : INVM σ) : σ 47 2 ≤ 9999 := M.1.2.1
theorem im_7 (M : INVM σ) : σ 46 5 = 0 ∨ σ 46 5 = 1 := M.1.1.2.2.1
theorem im_T (M : INVM σ) : okTR σ := ⟨M.1.1.2.2.2.1.1, M.1.2.2.2⟩
theorem im_S (M : INVM σ) : okSR σ := by
  have k := M.1.1.2.2.2.2
  intro s hs
  rcases (show s = 0 ∨ s = 1 ∨ s = 2 ∨ s = 3 by omega) with rfl | rfl | rfl | rfl
  · have q := k 37 (Or.inl rfl)
    exact ⟨q.1, q.2.1, fun i hi => by rw [show (40 : Int) * 0 + i = i by omega]; exact q.2.2 i hi⟩
  · have q := k 39 (Or.inr (Or.inl rfl))
    exact ⟨q.1, q.2.1, fun i hi => q.2.2 i hi⟩
  · have q := k 41 (Or.inr (Or.inr (Or.inl rfl)))
    exact ⟨q.1, q.2.1, fun i hi => q.2.2 i hi⟩
  · have q := k 43 (Or.inr (Or.inr (Or.inr rfl)))
    exact ⟨q.1, q.2.1, fun i hi => q.2.2 i hi⟩
end IM
theorem d5_wheat {b : ev_B} {σ : ev_M} {x1 x2 : Int} (K : OKA σ) (h1 : (-2147483648 ≤ x1 ∧ x1 < 2147483648)) (h2 : (-2147483648 ≤ x2 ∧ x2 < 2147483648)) : Cl b mX5_wheat [vR 0, vI x1, vI x2] σ (RC σ (sc_wheat σ x1 x2)) := (c_X5_wheat  h1 h2).mono (fun r τ h => RC_of (go_wheat.1 σ) h)
theorem d6_wheat {b : ev_B} {σ : ev_M} {x1 x2 : Int} (M : INVM σ) (h1 : (-2147483648 ≤ x1 ∧ x1 < 2147483648)) (h2 : (-2147483648 ≤ x2 ∧ x2 < 2147483648)) : Cl b mX6_wheat [vR 46, vI x1, vI x2] σ (RP σ (sc_wheat (prj σ) x1 x2)) := c_X6_wheat (im_H M) M.2 h1 h2
theorem d5_cell {b : ev_B} {σ : ev_M} {x1 x2 : Int} (K : OKA σ) (h1 : (-2147483648 ≤ x1 ∧ x1 < 2147483648)) (h2 : (-2147483648 ≤ x2 ∧ x2 < 2147483648)) : Cl b mX5_cell [vR 0, vI x1, vI x2] σ (RC σ (sc_cell σ x1 x2)) := (c_X5_cell K.1.1 h1 h2).mono (fun r τ h => RC_of (go_cell.1 σ) h)
theorem d6_cell {b : ev_B} {σ : ev_M} {x1 x2 : Int} (M : INVM σ) (h1 : (-2147483648 ≤ x1 ∧ x1 < 2147483648)) (h2 : (-2147483648 ≤ x2 ∧ x2 < 2147483648)) : Cl b mX6_cell [vR 46, vI x1, vI x2] σ (RP σ (sc_cell (prj σ) x1 x2)) := c_X6_cell (im_H M) M.2 h1 h2
theorem d5_crows {b : ev_B} {σ : ev_M} {x1 : Int} (K : OKA σ) (h1 : (-2147483648 ≤ x1 ∧ x1 < 2147483648)) : Cl b mX5_crows [vR 0, vI x1] σ (RC σ (sc_crows σ x1)) := (c_X5_crows  h1).mono (fun r τ h => RC_of (go_crows.1 σ) h)
theorem d6_crows {b : ev_B} {σ : ev_M} {x1 : Int} (M : INVM σ) (h1 : (-2147483648 ≤ x1 ∧ x1 < 2147483648)) : Cl b mX6_crows [vR 46, vI x1] σ (RP σ (sc_crows (prj σ) x1)) := c_X6_crows M.2 h1
theorem d5_sitter {b : ev_B} {σ : ev_M} {x1 : Int} (K : OKA σ) (h1 : (-2147483648 ≤ x1 ∧ x1 < 2147483648)) : Cl b mX5_sitter [vR 0, vI x1] σ (RC σ (sc_sitter σ x1)) := (c_X5_sitter K.1.1 h1).mono (fun r τ h => RC_of (go_sitter.1 σ) h)
theorem d6_sitter {b : ev_B} {σ : ev_M} {x1 : Int} (M : INVM σ) (h1 : (-2147483648 ≤ x1 ∧ x1 < 2147483648)) : Cl b mX6_sitter [vR 46, vI x1] σ (RP σ (sc_sitter (prj σ) x1)) := c_X6_sitter (im_H M) M.2 h1
theorem d5_of {b : ev_B} {σ : ev_M} {x1 x2 : Int} (K : OKA σ) (h1 : (-2147483648 ≤ x1 ∧ x1 < 2147483648)) (h2 : (-2147483648 ≤ x2 ∧ x2 < 2147483648)) : Cl b mX5_of [vR 0, vI x1, vI x2] σ (RC σ (sc_of σ x1 x2)) := (c_X5_of K.1.1 h1 h2).mono (fun r τ h => RC_of (go_of.1 σ) h)
theorem d6_of {b : ev_B} {σ : ev_M} {x1 x2 : Int} (M : INVM σ) (h1 : (-2147483648 ≤ x1 ∧ x1 < 2147483648)) (h2 : (-2147483648 ≤ x2 ∧ x2 < 2147483648)) : Cl b mX6_of [vR 46, vI x1, vI x2] σ (RP σ (sc_of (prj σ) x1 x2)) := c_X6_of (im_H M) M.2 h1 h2
theorem d5_set {b : ev_B} {σ : ev_M} {x1 x2 x3 : Int} (K : OKA σ) (h1 : (-2147483648 ≤ x1 ∧ x1 < 2147483648)) (h2 : (-2147483648 ≤ x2 ∧ x2 < 2147483648)) (h3 : (-2147483648 ≤ x3 ∧ x3 < 2147483648)) : Cl b mX5_set [vR 0, vI x1, vI x2, vI x3] σ (RC σ (sc_set σ x1 x2 x3)) := (c_X5_set K.1.1 h1 h2 h3).mono (fun r τ h => RC_of (go_set.1 σ) h)
theorem d6_set {b : ev_B} {σ : ev_M} {x1 x2 x3 : Int} (M : INVM σ) (h1 : (-2147483648 ≤ x1 ∧ x1 < 2147483648)) (h2 : (-2147483648 ≤ x2 ∧ x2 < 2147483648)) (h3 : (-2147483648 ≤ x3 ∧ x3 < 2147483648)) : Cl b mX6_set [vR 46, vI x1, vI x2, vI x3] σ (RP σ (sc_set (prj σ) x1 x2 x3)) := c_X6_set (im_H M) M.2 h1 h2 h3
theorem d5_turn {b : ev_B} {σ : ev_M} {x1 x2 : Int} (K : OKA σ) (h1 : (-2147483648 ≤ x1 ∧ x1 < 2147483648)) (h2 : (-2147483648 ≤ x2 ∧ x2 < 2147483648)) : Cl b mX5_turn [vR 0, vI x1, vI x2] σ (RC σ (sc_turn σ x1 x2)) := (c_X5_turn K.1.1 h1 h2).mono (fun r τ h => RC_of (go_turn.1 σ) h)
theorem d6_turn {b : ev_B} {σ : ev_M} {x1 x2 : Int} (M : INVM σ) (h1 : (-2147483648 ≤ x1 ∧ x1 < 2147483648)) (h2 : (-2147483648 ≤ x2 ∧ x2 < 2147483648)) : Cl b mX6_turn [vR 46, vI x1, vI x2] σ (RP σ (sc_turn (prj σ) x1 x2)) := c_X6_turn (im_H M) M.2 h1 h2
theorem d5_as {b : ev_B} {σ : ev_M} {x1 x2 : Int} (K : OKA σ) (h1 : (-2147483648 ≤ x1 ∧ x1 < 2147483648)) (h2 : (-2147483648 ≤ x2 ∧ x2 < 2147483648)) : Cl b mX5_as [vR 0, vI x1, vI x2] σ (RC σ (sc_as σ x1 x2)) := (c_X5_as K.1.1 h1 h2).mono (fun r τ h => RC_of (go_as.1 σ) h)
theorem d6_as {b : ev_B} {σ : ev_M} {x1 x2 : Int} (M : INVM σ) (h1 : (-2147483648 ≤ x1 ∧ x1 < 2147483648)) (h2 : (-2147483648 ≤ x2 ∧ x2 < 2147483648)) : Cl b mX6_as [vR 46, vI x1, vI x2] σ (RP σ (sc_as (prj σ) x1 x2)) := c_X6_as (im_H M) M.2 h1 h2
theorem d5_likeness {b : ev_B} {σ : ev_M} {x1 x2 : Int} (K : OKA σ) (h1 : (-2147483648 ≤ x1 ∧ x1 < 2147483648)) (h2 : (-2147483648 ≤ x2 ∧ x2 < 2147483648)) : Cl b mX5_likeness [vR 0, vI x1, vI x2] σ (RC σ (sc_likeness σ x1 x2)) := (c_X5_likeness K.1.1 h1 h2).mono (fun r τ h => RC_of (go_likeness.1 σ) h)
theorem d6_likeness {b : ev_B} {σ : ev_M} {x1 x2 : Int} (M : INVM σ) (h1 : (-2147483648 ≤ x1 ∧ x1 < 2147483648)) (h2 : (-2147483648 ≤ x2 ∧ x2 < 2147483648)) : Cl b mX6_likeness [vR 46, vI x1, vI x2] σ (RP σ (sc_likeness (prj σ) x1 x2)) := c_X6_likeness (im_H M) M.2 h1 h2
theorem d5_told {b : ev_B} {σ : ev_M} {x1 x2 : Int} (K : OKA σ) (h1 : (-2147483648 ≤ x1 ∧ x1 < 2147483648)) (h2 : (-2147483648 ≤ x2 ∧ x2 < 2147483648)) : Cl b mX5_told [vR 0, vI x1, vI x2] σ (RC σ (sc_told σ x1 x2)) := (c_X5_told K.1.1 h1 h2).mono (fun r τ h => RC_of (go_told.1 σ) h)
theorem d6_told {b : ev_B} {σ : ev_M} {x1 x2 : Int} (M : INVM σ) (h1 : (-2147483648 ≤ x1 ∧ x1 < 2147483648)) (h2 : (-2147483648 ≤ x2 ∧ x2 < 2147483648)) : Cl b mX6_told [vR 46, vI x1, vI x2] σ (RP σ (sc_told (prj σ) x1 x2)) := c_X6_told (im_H M) M.2 h1 h2
theorem d5_place {b : ev_B} {σ : ev_M} {x1 x2 x3 : Int} (K : OKA σ) (h1 : (-2147483648 ≤ x1 ∧ x1 < 2147483648)) (h2 : (-2147483648 ≤ x2 ∧ x2 < 2147483648)) (h3 : (-2147483648 ≤ x3 ∧ x3 < 2147483648)) : Cl b mX5_place [vR 0, vI x1, vI x2, vI x3] σ (RC σ (sc_place σ x1 x2 x3)) := (c_X5_place K.1.1 h1 h2 h3).mono (fun r τ h => RC_of (go_place.1 σ) h)
theorem d6_place {b : ev_B} {σ : ev_M} {x1 x2 x3 : Int} (M : INVM σ) (h1 : (-2147483648 ≤ x1 ∧ x1 < 2147483648)) (h2 : (-2147483648 ≤ x2 ∧ x2 < 2147483648)) (h3 : (-2147483648 ≤ x3 ∧ x3 < 2147483648)) : Cl b mX6_place [vR 46, vI x1, vI x2, vI x3] σ (RP σ (sc_place (prj σ) x1 x2 x3)) := c_X6_place (im_H M) M.2 h1 h2 h3
theorem d5_scares {b : ev_B} {σ : ev_M} {x1 x2 : Int} (K : OKA σ) (h1 : (-2147483648 ≤ x1 ∧ x1 < 2147483648)) (h2 : (-2147483648 ≤ x2 ∧ x2 < 2147483648)) : Cl b mX5_scares [vR 0, vI x1, vI x2] σ (RC σ (sc_scares σ x1 x2)) := (c_X5_scares K.1.1 h1 h2).mono (fun r τ h => RC_of (go_scares.1 σ) h)
theorem d6_scares {b : ev_B} {σ : ev_M} {x1 x2 : Int} (M : INVM σ) (h1 : (-2147483648 ≤ x1 ∧ x1 < 2147483648)) (h2 : (-2147483648 ≤ x2 ∧ x2 < 2147483648)) : Cl b mX6_scares [vR 46, vI x1, vI x2] σ (RP σ (sc_scares (prj σ) x1 x2)) := c_X6_scares (im_H M) M.2 h1 h2
theorem d5_lands {b : ev_B} {σ : ev_M} (K : OKA σ)  : Cl b mX5_lands [vR 0] σ (RC σ (sc_lands σ)) := (c_X5_lands K.1.1 ).mono (fun r τ h => RC_of (go_lands.1 σ) h)
theorem d6_lands {b : ev_B} {σ : ev_M} (M : INVM σ)  : Cl b mX6_lands [vR 46] σ (RP σ (sc_lands (prj σ))) := c_X6_lands (im_H M) M.2 
theorem d5_days {b : ev_B} {σ : ev_M} {x1 : Int} (K : OKA σ) (h1 : (-2147483648 ≤ x1 ∧ x1 < 2147483648)) : Cl b mX5_days [vR 0, vI x1] σ (RC σ (sc_days σ x1)) := (c_X5_days K.1.1 K.2 h1).mono (fun r τ h => RC_of (go_days.1 σ) h)
theorem d6_days {b : ev_B} {σ : ev_M} {x1 : Int} (M : INVM σ) (h1 : (-2147483648 ≤ x1 ∧ x1 < 2147483648)) : Cl b mX6_days [vR 46, vI x1] σ (RP σ (sc_days (prj σ) x1)) := c_X6_days (im_H M) M.2 h1 (im_d M)
theorem d5_now {b : ev_B} {σ : ev_M} {x1 : Int} (K : OKA σ) (h1 : (-2147483648 ≤ x1 ∧ x1 < 2147483648)) : Cl b mX5_now [vR 0, vI x1] σ (RC σ (sc_now σ x1)) := (c_X5_now K.1.1 h1).mono (fun r τ h => RC_of (go_now.1 σ) h)
theorem d6_now {b : ev_B} {σ : ev_M} {x1 : Int} (M : INVM σ) (h1 : (-2147483648 ≤ x1 ∧ x1 < 2147483648)) : Cl b mX6_now [vR 46, vI x1] σ (RP σ (sc_now (prj σ) x1)) := c_X6_now (im_H M) M.2 h1
theorem d5_on {b : ev_B} {σ : ev_M} {x1 x2 : Int} (K : OKA σ) (h1 : (-2147483648 ≤ x1 ∧ x1 < 2147483648)) (h2 : (-2147483648 ≤ x2 ∧ x2 < 2147483648)) : Cl b mX5_on [vR 0, vI x1, vI x2] σ (RC σ (sc_on σ x1 x2)) := (c_X5_on K.1.1 h1 h2).mono (fun r τ h => RC_of (go_on.1 σ) h)
theorem d6_on {b : ev_B} {σ : ev_M} {x1 x2 : Int} (M : INVM σ) (h1 : (-2147483648 ≤ x1 ∧ x1 < 2147483648)) (h2 : (-2147483648 ≤ x2 ∧ x2 < 2147483648)) : Cl b mX6_on [vR 46, vI x1, vI x2] σ (RP σ (sc_on (prj σ) x1 x2)) := c_X6_on (im_H M) M.2 h1 h2
theorem d5_eaten {b : ev_B} {σ : ev_M} {x1 : Int} (K : OKA σ) (h1 : (-2147483648 ≤ x1 ∧ x1 < 2147483648)) : Cl b mX5_eaten [vR 0, vI x1] σ (RC σ (sc_eaten σ x1)) := (c_X5_eaten K.1.1 h1).mono (fun r τ h => RC_of (go_eaten.1 σ) h)
theorem d6_eaten {b : ev_B} {σ : ev_M} {x1 : Int} (M : INVM σ) (h1 : (-2147483648 ≤ x1 ∧ x1 < 2147483648)) : Cl b mX6_eaten [vR 46, vI x1] σ (RP σ (sc_eaten (prj σ) x1)) := c_X6_eaten (im_H M) M.2 h1
theorem d5_first {b : ev_B} {σ : ev_M} {x1 : Int} (K : OKA σ) (h1 : (-2147483648 ≤ x1 ∧ x1 < 2147483648)) : Cl b mX5_first [vR 0, vI x1] σ (RC σ (sc_first σ x1)) := (c_X5_first K.1.1 h1).mono (fun r τ h => RC_of (go_first.1 σ) h)
theorem d6_first {b : ev_B} {σ : ev_M} {x1 : Int} (M : INVM σ) (h1 : (-2147483648 ≤ x1 ∧ x1 < 2147483648)) : Cl b mX6_first [vR 46, vI x1] σ (RP σ (sc_first (prj σ) x1)) := c_X6_first (im_H M) M.2 h1
theorem d5_spot {b : ev_B} {σ : ev_M} {x1 x2 : Int} (K : OKA σ) (h1 : (-2147483648 ≤ x1 ∧ x1 < 2147483648)) (h2 : (-2147483648 ≤ x2 ∧ x2 < 2147483648)) : Cl b mX5_spot [vR 0, vI x1, vI x2] σ (RC σ (sc_spot σ x1 x2)) := (c_X5_spot K.1.1 h1 h2).mono (fun r τ h => RC_of (go_spot.1 σ) h)
theorem d6_spot {b : ev_B} {σ : ev_M} {x1 x2 : Int} (M : INVM σ) (h1 : (-2147483648 ≤ x1 ∧ x1 < 2147483648)) (h2 : (-2147483648 ≤ x2 ∧ x2 < 2147483648)) : Cl b mX6_spot [vR 46, vI x1, vI x2] σ (RP σ (sc_spot (prj σ) x1 x2)) := c_X6_spot (im_H M) M.2 h1 h2
theorem d5_whose {b : ev_B} {σ : ev_M} {x1 x2 : Int} (K : OKA σ) (h1 : (-2147483648 ≤ x1 ∧ x1 < 2147483648)) (h2 : (-2147483648 ≤ x2 ∧ x2 < 2147483648)) : Cl b mX5_whose [vR 0, vI x1, vI x2] σ (RC σ (sc_whose σ x1 x2)) := (c_X5_whose K.1.1 h1 h2).mono (fun r τ h => RC_of (go_whose.1 σ) h)
theorem d6_whose {b : ev_B} {σ : ev_M} {x1 x2 : Int} (M : INVM σ) (h1 : (-2147483648 ≤ x1 ∧ x1 < 2147483648)) (h2 : (-2147483648 ≤ x2 ∧ x2 < 2147483648)) : Cl b mX6_whose [vR 46, vI x1, vI x2] σ (RP σ (sc_whose (prj σ) x1 x2)) := c_X6_whose (im_H M) M.2 h1 h2
theorem d5_kind {b : ev_B} {σ : ev_M} {x1 x2 : Int} (K : OKA σ) (h1 : (-2147483648 ≤ x1 ∧ x1 < 2147483648)) (h2 : (-2147483648 ≤ x2 ∧ x2 < 2147483648)) : Cl b mX5_kind [vR 0, vI x1, vI x2] σ (RC σ (sc_kind σ x1 x2)) := (c_X5_kind K.1.1 h1 h2).mono (fun r τ h => RC_of (go_kind.1 σ) h)
theorem d6_kind {b : ev_B} {σ : ev_M} {x1 x2 : Int} (M : INVM σ) (h1 : (-2147483648 ≤ x1 ∧ x1 < 2147483648)) (h2 : (-2147483648 ≤ x2 ∧ x2 < 2147483648)) : Cl b mX6_kind [vR 46, vI x1, vI x2] σ (RP σ (sc_kind (prj σ) x1 x2)) := c_X6_kind (im_H M) M.2 h1 h2
theorem d5_temper {b : ev_B} {σ : ev_M} {x1 x2 : Int} (K : OKA σ) (h1 : (-2147483648 ≤ x1 ∧ x1 < 2147483648)) (h2 : (-2147483648 ≤ x2 ∧ x2 < 2147483648)) : Cl b mX5_temper [vR 0, vI x1, vI x2] σ (RC σ (sc_temper σ x1 x2)) := (c_X5_temper K.1.1 h1 h2).mono (fun r τ h => RC_of (go_temper.1 σ) h)
theorem d6_temper {b : ev_B} {σ : ev_M} {x1 x2 : Int} (M : INVM σ) (h1 : (-2147483648 ≤ x1 ∧ x1 < 2147483648)) (h2 : (-2147483648 ≤ x2 ∧ x2 < 2147483648)) : Cl b mX6_temper [vR 46, vI x1, vI x2] σ (RP σ (sc_temper (prj σ) x1 x2)) := c_X6_temper (im_H M) M.2 h1 h2
theorem d5_worth {b : ev_B} {σ : ev_M} {x1 : Int} (K : OKA σ) (h1 : (-2147483648 ≤ x1 ∧ x1 < 2147483648)) : Cl b mX5_worth [vR 0, vI x1] σ (RC σ (sc_worth σ x1)) := (c_X5_worth K.1.1 h1).mono (fun r τ h => RC_of (go_worth.1 σ) h)
theorem d6_worth {b : ev_B} {σ : ev_M} {x1 : Int} (M : INVM σ) (h1 : (-2147483648 ≤ x1 ∧ x1 < 2147483648)) : Cl b mX6_worth [vR 46, vI x1] σ (RP σ (sc_worth (prj σ) x1)) := c_X6_worth (im_H M) M.2 h1
theorem d5_apart {b : ev_B} {σ : ev_M} {x1 : Int} (K : OKA σ) (h1 : (-2147483648 ≤ x1 ∧ x1 < 2147483648)) : Cl b mX5_apart [vR 0, vI x1] σ (RC σ (sc_apart σ x1)) := (c_X5_apart K.1.1 h1).mono (fun r τ h => RC_of (go_apart.1 σ) h)
theorem d6_apart {b : ev_B} {σ : ev_M} {x1 : Int} (M : INVM σ) (h1 : (-2147483648 ≤ x1 ∧ x1 < 2147483648)) : Cl b mX6_apart [vR 46, vI x1] σ (RP σ (sc_apart (prj σ) x1)) := c_X6_apart (im_H M) M.2 h1
theorem d5_swap {b : ev_B} {σ : ev_M} {x1 : Int} (K : OKA σ) (h1 : (-2147483648 ≤ x1 ∧ x1 < 2147483648)) : Cl b mX5_swap [vR 0, vI x1] σ (RC σ (sc_swap σ x1)) := (c_X5_swap K.1.1 h1).mono (fun r τ h => RC_of (go_swap.1 σ) h)
theorem d6_swap {b : ev_B} {σ : ev_M} {x1 : Int} (M : INVM σ) (h1 : (-2147483648 ≤ x1 ∧ x1 < 2147483648)) : Cl b mX6_swap [vR 46, vI x1] σ (RP σ (sc_swap (prj σ) x1)) := c_X6_swap (im_H M) M.2 h1
theorem d5_feed {b : ev_B} {σ : ev_M} {x1 x2 : Int} (K : OKA σ) (h1 : (-2147483648 ≤ x1 ∧ x1 < 2147483648)) (h2 : (-2147483648 ≤ x2 ∧ x2 < 2147483648)) : Cl b mX5_feed [vR 0, vI x1, vI x2] σ (RC σ (sc_feed σ x1 x2)) := (c_X5_feed K.1.2.2.2.1 h1 h2).mono (fun r τ h => RC_of (go_feed.1 σ) h)
theorem d6_feed {b : ev_B} {σ : ev_M} {x1 x2 : Int} (M : INVM σ) (h1 : (-2147483648 ≤ x1 ∧ x1 < 2147483648)) (h2 : (-2147483648 ≤ x2 ∧ x2 < 2147483648)) : Cl b mX6_feed [vR 46, vI x1, vI x2] σ (RP σ (sc_feed (prj σ) x1 x2)) := c_X6_feed (im_T M).1 M.2 h1 h2
theorem d5_wipe {b : ev_B} {σ : ev_M} (K : OKA σ)  : Cl b mX5_wipe [vR 0] σ (RC σ (sc_wipe σ)) := (c_X5_wipe  ).mono (fun r τ h => RC_of (go_wipe.1 σ) h)
theorem d6_wipe {b : ev_B} {σ : ev_M} (M : INVM σ)  : Cl b mX6_wipe [vR 46] σ (RP σ (sc_wipe (prj σ))) := c_X6_wipe M.2 
theorem d5_sheet {b : ev_B} {σ : ev_M} {x1 x2 x3 : Int} (K : OKA σ) (h1 : (-2147483648 ≤ x1 ∧ x1 < 2147483648)) (h2 : (-2147483648 ≤ x2 ∧ x2 < 2147483648)) (h3 : (-2147483648 ≤ x3 ∧ x3 < 2147483648)) : Cl b mX5_sheet [vR 0, vI x1, vI x2, vI x3] σ (RC σ (sc_sheet σ x1 x2 x3)) := (c_X5_sheet  h1 h2 h3).mono (fun r τ h => RC_of (go_sheet.1 σ) h)
theorem d6_sheet {b : ev_B} {σ : ev_M} {x1 x2 x3 : Int} (M : INVM σ) (h1 : (-2147483648 ≤ x1 ∧ x1 < 2147483648)) (h2 : (-2147483648 ≤ x2 ∧ x2 < 2147483648)) (h3 : (-2147483648 ≤ x3 ∧ x3 < 2147483648)) : Cl b mX6_sheet [vR 46, vI x1, vI x2, vI x3] σ (RP σ (sc_sheet (prj σ) x1 x2 x3)) := c_X6_sheet M.2 h1 h2 h3
theorem d5_copy {b : ev_B} {σ : ev_M} {x1 x2 x3 x4 x5 : Int} (K : OKA σ) (h1 : (-2147483648 ≤ x1 ∧ x1 < 2147483648)) (h2 : (-2147483648 ≤ x2 ∧ x2 < 2147483648)) (h3 : (-2147483648 ≤ x3 ∧ x3 < 2147483648)) (h4 : (-2147483648 ≤ x4 ∧ x4 < 2147483648)) (h5 : (-2147483648 ≤ x5 ∧ x5 < 2147483648)) : Cl b mX5_copy [vR 0, vI x1, vI x2, vI x3, vI x4, vI x5] σ (RC σ (sc_copy σ x1 x2 x3 x4 x5)) := (c_X5_copy K.1.2.2.2.2 h1 h2 h3 h4 h5).mono (fun r τ h => RC_of (go_copy.1 σ) h)
theorem d6_copy {b : ev_B} {σ : ev_M} {x1 x2 x3 x4 x5 : Int} (M : INVM σ) (h1 : (-2147483648 ≤ x1 ∧ x1 < 2147483648)) (h2 : (-2147483648 ≤ x2 ∧ x2 < 2147483648)) (h3 : (-2147483648 ≤ x3 ∧ x3 < 2147483648)) (h4 : (-2147483648 ≤ x4 ∧ x4 < 2147483648)) (h5 : (-2147483648 ≤ x5 ∧ x5 < 2147483648)) : Cl b mX6_copy [vR 46, vI x1, vI x2, vI x3, vI x4, vI x5] σ (RP σ (sc_copy (prj σ) x1 x2 x3 x4 x5)) := c_X6_copy (im_S M) M.2 h1 h2 h3 h4 h5
theorem d5_lays {b : ev_B} {σ : ev_M} {x1 : Int} (K : OKA σ) (h1 : (-2147483648 ≤ x1 ∧ x1 < 2147483648)) : Cl b mX5_lays [vR 0, vI x1] σ (RC σ (sc_lays σ x1)) := (c_X5_lays K.1.2.2.2.2 h1).mono (fun r τ h => RC_of (go_lays.1 σ) h)
theorem d6_lays {b : ev_B} {σ : ev_M} {x1 : Int} (M : INVM σ) (h1 : (-2147483648 ≤ x1 ∧ x1 < 2147483648)) : Cl b mX6_lays [vR 46, vI x1] σ (RP σ (sc_lays (prj σ) x1)) := c_X6_lays (im_H M) (im_S M) M.2 h1
theorem d5_book {b : ev_B} {σ : ev_M} {x1 : Int} (K : OKA σ) (h1 : (-2147483648 ≤ x1 ∧ x1 < 2147483648)) : Cl b mX5_book [vR 0, vI x1] σ (RC σ (sc_book σ x1)) := (c_X5_book K.1.1 K.1.2.2.2.2 h1).mono (fun r τ h => RC_of (go_book.1 σ) h)
theorem d6_book {b : ev_B} {σ : ev_M} {x1 : Int} (M : INVM σ) (h1 : (-2147483648 ≤ x1 ∧ x1 < 2147483648)) : Cl b mX6_book [vR 46, vI x1] σ (RP σ (sc_book (prj σ) x1)) := c_X6_book (im_H M) (im_S M) M.2 h1
theorem d5_read {b : ev_B} {σ : ev_M} {x1 x2 : Int} (K : OKA σ) (h1 : (-2147483648 ≤ x1 ∧ x1 < 2147483648)) (h2 : (-2147483648 ≤ x2 ∧ x2 < 2147483648)) : Cl b mX5_read [vR 0, vI x1, vI x2] σ (RC σ (sc_read σ x1 x2)) := (c_X5_read K.1.1 K.1.2.2.2.2 h1 h2).mono (fun r τ h => RC_of (go_read.1 σ) h)
theorem d6_read {b : ev_B} {σ : ev_M} {x1 x2 : Int} (M : INVM σ) (h1 : (-2147483648 ≤ x1 ∧ x1 < 2147483648)) (h2 : (-2147483648 ≤ x2 ∧ x2 < 2147483648)) : Cl b mX6_read [vR 46, vI x1, vI x2] σ (RP σ (sc_read (prj σ) x1 x2)) := c_X6_read (im_H M) (im_S M) M.2 h1 h2
theorem d6_image {b : ev_B} {σ : ev_M} (M : INVM σ)  : Cl b mX6_image [vR 46] σ (RP σ (sc_image (prj σ))) := c_X6_image (im_H M) M.2 
theorem d6_undo {b : ev_B} {σ : ev_M} (M : INVM σ)  : Cl b mX6_undo [vR 46] σ (RP σ (sc_undo (prj σ))) := c_X6_undo (im_10 M) M.2 (im_7 M) 
theorem d5_tear {b : ev_B} {σ : ev_M} (K : OKA σ)  : Cl b mX5_tear [vR 0] σ (RC σ (sc_tear σ)) := (c_X5_tear K.1.2.2.1 ).mono (fun r τ h => RC_of (go_tear.1 σ) h)
theorem d6_tear {b : ev_B} {σ : ev_M} (M : INVM σ)  : Cl b mX6_tear [vR 46] σ (RP σ (sc_tear (prj σ))) := c_X6_tear M.2 (im_7 M) 
theorem d5_count {b : ev_B} {σ : ev_M} {x1 : Int} (K : OKA σ) (h1 : (-2147483648 ≤ x1 ∧ x1 < 2147483648)) : Cl b mX5_count [vR 0, vI x1] σ (RC σ (sc_count σ x1)) := (c_X5_count K.1.1 h1).mono (fun r τ h => RC_of (go_count.1 σ) h)
theorem d6_count {b : ev_B} {σ : ev_M} {x1 : Int} (M : INVM σ) (h1 : (-2147483648 ≤ x1 ∧ x1 < 2147483648)) : Cl b mX6_count [vR 46, vI x1] σ (RP σ (sc_count (prj σ) x1)) := c_X6_count (im_H M) M.2 h1
theorem d5_status {b : ev_B} {σ : ev_M} {x1 : Int} (K : OKA σ) (h1 : (-2147483648 ≤ x1 ∧ x1 < 2147483648)) : Cl b mX5_status [vR 0, vI x1] σ (RC σ (sc_status σ x1)) := (c_X5_status  h1).mono (fun r τ h => RC_of (go_status.1 σ) h)
theorem d6_status {b : ev_B} {σ : ev_M} {x1 : Int} (M : INVM σ) (h1 : (-2147483648 ≤ x1 ∧ x1 < 2147483648)) : Cl b mX6_status [vR 46, vI x1] σ (RP σ (sc_status (prj σ) x1)) := c_X6_status M.2 h1
theorem d5_write {b : ev_B} {σ : ev_M} {x1 x2 v : Int} (K : OKA σ) (h1 : (-2147483648 ≤ x1 ∧ x1 < 2147483648)) (h2 : (-2147483648 ≤ x2 ∧ x2 < 2147483648)) (hv : (-9223372036854775808 ≤ v ∧ v < 9223372036854775808)) : Cl b mX5_write [vR 0, vI x1, vI x2, vL v] σ (RCL σ (sc_write σ x1 x2 v)) := (c_X5_write K.1.2.2.2.2 h1 h2 hv).mono (fun r τ h => RCL_of ((go_write hv).1 σ) h)
theorem d6_write {b : ev_B} {σ : ev_M} {x1 x2 v : Int} (M : INVM σ) (h1 : (-2147483648 ≤ x1 ∧ x1 < 2147483648)) (h2 : (-2147483648 ≤ x2 ∧ x2 < 2147483648)) : Cl b mX6_write [vR 46, vI x1, vI x2, vL v] σ (RPL σ (sc_write (prj σ) x1 x2 v)) := c_X6_write (im_S M) M.2 h1 h2
theorem d5_image {b : ev_B} {σ : ev_M} (K : OKA σ) : Cl b mX5_image [vR 0] σ (RC σ (sc_image σ)) := by
  refine (c_X5_image K.1.1).mono ?_
  rintro r τ ⟨h1, h2, h3, h4⟩
  refine ⟨h1, RE_im (RE_rf (A := σ)) (fun a h0 ha => h4 a (by omega) ha) (fun a h0 ha => img_ne h0 ha) (eqP_trans h2 (eqP_symm img_10)) (by rw [img_7]; exact h3), fun a ha => h4 a (by omega) (by omega)⟩
theorem c5_undo {b : ev_B} {σ : ev_M} (H : σ 0 7 = 1 → okP (wn σ 10)) (h7 : σ 0 7 = 0 ∨ σ 0 7 = 1) : Cl b mX5_undo [vR 0] σ (fun r τ => if σ 0 7 = 0 then r = some (vI (-1000000004)) ∧ sameC (fnd σ 3) τ else r = some (vI (σ 10 3)) ∧ eqP (wn τ 1) (wn σ 10) ∧ ∀ a : Nat, a < 1 ∨ 9 < a → τ a = σ a) := by
  refine ev_enter okX5_undo.1 (Nat.le_of_ble_eq_true rfl) ?_
  refine ev_aload_n dX5_undo_0 rfl ?_
  refine ev_geti 7 7 dX5_undo_1 rfl rfl flX5_248 iwX5 (by decide) rfl rfl ?_
  refine ev_if_ne (tgt := 13) dX5_undo_4 (by decide) (by omega) (fun c4 => ?_) (fun c4 => ?_)
  · refine ev_aload_n dX5_undo_13 rfl ?_
    refine ev_getr 0 dX5_undo_14 rfl rfl flX5_10 iwX5 (by decide) rfl ?_
    refine ev_aload_n dX5_undo_17 rfl ?_
    refine ev_getr 1 dX5_undo_18 rfl rfl flX5_16 iwX5 (by decide) rfl ?_
    refine ev_callV (c_X2_become hP1 hP10 (by decide) (H (by omega))) okX2_become dX5_undo_21 mlX5_174 rfl rfl ⟨by decide, by decide⟩ rfl (Nat.le_of_ble_eq_true rfl) (fun r21 τ21 h21 => ?_)
    obtain ⟨rfl, g1, g2⟩ := h21
    refine ev_aload_n dX5_undo_24 rfl ?_
    refine ev_getr 0 dX5_undo_25 rfl rfl flX5_10 iwX5 (by decide) rfl ?_
    refine ev_geti 3 3 dX5_undo_28 rfl rfl flX5_79 iwX2 (by decide) rfl rfl ?_
    refine ev_iret dX5_undo_31 rfl rfl ?_
    rw [if_neg (by omega)]
    refine ⟨?_, g1, fun a ha => g2 a (by omega)⟩
    have e : τ21 1 3 = σ 10 3 := g1.2.2.1
    rw [e]
  · refine ev_aload_n dX5_undo_7 rfl ?_
    refine ev_iconst dX5_undo_8 ?_
    refine ev_V1 (c_X5_finding (by omega)) okX5_finding dX5_undo_9 mlX5_55 rfl rfl ⟨by decide, by decide⟩ rfl (Nat.le_of_ble_eq_true rfl) ?_
    refine ev_iret dX5_undo_12 rfl rfl ?_
    rw [if_pos (by omega)]
    exact ⟨rfl, sameC_rf⟩
theorem d5_undo {b : ev_B} {σ : ev_M} (K : OKA σ) : Cl b mX5_undo [vR 0] σ (RC σ (sc_undo σ)) := by
  refine (c5_undo K.1.2.1 K.1.2.2.1).mono ?_
  intro r τ h
  unfold sc_undo
  by_cases z : σ 0 7 = 0
  · rw [if_pos z] at h ⊢
    exact RC_of (x := (-1000000004, fnd σ 3)) (fun a ha => fnd_ne (by omega)) h
  · rw [if_neg z] at h ⊢
    obtain ⟨h1, h2, h3⟩ := h
    exact ⟨h1, RE_up (RE_rf (A := σ)) (fun a ha => h3 a (by omega)) (fun a ha => setP_ne (by omega)) (eqP_trans h2 (eqP_symm eqP_setP)), fun a ha => h3 a (by omega)⟩
theorem d5_keep {b : ev_B} {σ : ev_M} {x1 : Int} (K : OKA σ) (h1 : (-2147483648 ≤ x1 ∧ x1 < 2147483648)) : Cl b mX5_keep [vR 0, vI x1] σ (RC σ (sc_keep σ x1)) := by
  refine (c_X5_keep K.1.1 h1).mono ?_
  intro r τ h
  unfold sc_keep
  by_cases z : 1 ≤ x1 ∧ x1 ≤ 10
  · rw [if_pos z] at h ⊢
    obtain ⟨k, h1, h2, h3⟩ := h
    rw [kpv_eq h2]
    exact RC_of (x := (k, σ)) (fun a ha => rfl) ⟨h1, h3⟩
  · rw [if_neg z] at h ⊢
    exact RC_of (x := (-1000000001, fnd σ 0)) (fun a ha => fnd_ne (by omega)) h
theorem d6_keep {b : ev_B} {σ : ev_M} {x1 : Int} (M : INVM σ) (h1 : (-2147483648 ≤ x1 ∧ x1 < 2147483648)) : Cl b mX6_keep [vR 46, vI x1] σ (RP σ (sc_keep (prj σ) x1)) := by
  refine (c_X6_keep (im_H M) M.2 h1).mono ?_
  intro r τ h
  unfold sc_keep
  by_cases z : 1 ≤ x1 ∧ x1 ≤ 10
  · rw [if_pos z] at h ⊢
    obtain ⟨k, h2, h3⟩ := h
    rw [← prj_1] at h2
    have e : prj σ 1 8 = σ 47 1 := rfl
    rw [e, kpv_eq h2]
    exact h3
  · rw [if_neg z] at h ⊢
    exact h
theorem REL_pl {σ τ B : ev_M} (h1 : ∀ a : Nat, a = 0 ∨ (9 < a ∧ a < 19) ∨ 34 < a → τ a = σ a) (h2 : τ 34 1 = 0) (hB : ∀ a : Nat, a = 0 ∨ (9 < a ∧ a < 19) ∨ 34 < a → B a = σ a) (hB2 : B 34 1 = 0) (e : eqP (wn τ 1) (wn B 1)) : REL τ B := by
  refine ⟨e, ?_, by rw [h1 0 (by omega), hB 0 (by omega)], by rw [h2, hB2], fun i hi => by rw [hB2] at hi; omega, fun q hq => ?_, fun i hi => by rw [h1 45 (by omega), hB 45 (by omega)]⟩
  · rw [wn_congr (fun j hj => h1 (10 + j) (by omega)), wn_congr (fun j hj => hB (10 + j) (by omega))]; exact eqP_rf
  · have qb := isS_bd hq
    rw [h1 q (by omega), hB q (by omega), h1 (q + 1) (by omega), hB (q + 1) (by omega)]
    exact ⟨rfl, rfl, fun _ _ => rfl⟩
theorem d5_plain {b : ev_B} {σ : ev_M} (K : OKA σ) : Cl b mX5_plain [vR 0] σ (RC σ (sc_plain σ)) := by
  refine (c_X5_plain K.1.1 K.1.2.2.2.1).mono ?_
  intro r τ h
  unfold sc_plain
  obtain ⟨h1, h2, h3⟩ := h
  match hr : tpe (σ 35) (σ 34 1) (wn σ 1) with
  | .inl x =>
    rw [hr] at h3
    obtain ⟨rfl, h4⟩ := h3
    refine ⟨rfl, REL_RE (REL_pl h1 h2 (fun a ha => plS_fr (by omega) (by omega) _) (show mup σ 34 1 0 34 1 = 0 from mup_at) ?_), fun a ha => h1 a (by omega)⟩
    show eqP (wn τ 1) (wn (mup σ 34 1 0) 1)
    rw [wn_congr (fun j hj => h4 (1 + j) (by omega)), wn_congr (τ := mup σ 34 1 0) (σ := σ) (fun j hj => mup_ne (by omega))]
    exact eqP_rf
  | .inr (k, P) =>
    rw [hr] at h3
    obtain ⟨rfl, h4⟩ := h3
    refine ⟨rfl, REL_RE (REL_pl h1 h2 (fun a ha => plS_fr (by omega) (by omega) _) ?_ (eqP_trans h4 (eqP_symm eqP_setP))), fun a ha => h1 a (by omega)⟩
    show setP (mup σ 34 1 0) 1 P 34 1 = 0
    rw [setP_ne (by omega), mup_at]
theorem prj_pl {σ τ : ev_M} (h1 : ∀ a : Nat, a ≠ 46 → a ≠ 47 → a ≠ 49 → τ a = σ a) (h5 : τ 46 5 = σ 46 5) {a : Nat} (ha : a = 0 ∨ (9 < a ∧ a < 19) ∨ 34 < a) : prj τ a = prj σ a := by
  funext i
  unfold prj
  by_cases z0 : a = 0
  · rw [if_pos z0, if_pos z0, h5]
  · rw [if_neg z0, if_neg z0, if_neg (show ¬ a < 10 by omega), if_neg (show ¬ a < 10 by omega)]
    by_cases z1 : a < 19
    · rw [if_pos z1, if_pos z1, h1 48 (by decide) (by decide) (by decide)]
    · rw [if_neg z1, if_neg z1, if_neg (show ¬ a = 34 by omega), if_neg (show ¬ a = 34 by omega), h1 51 (by decide) (by decide) (by decide), h1 55 (by decide) (by decide) (by decide), h1 56 (by decide) (by decide) (by decide), h1 57 (by decide) (by decide) (by decide), h1 58 (by decide) (by decide) (by decide)]
theorem d6_plain {b : ev_B} {σ : ev_M} (M : INVM σ) : Cl b mX6_plain [vR 46] σ (RP σ (sc_plain (prj σ))) := by
  refine (c_X6_plain (im_H M) (im_T M)).mono ?_
  intro r τ h
  unfold sc_plain
  have e35 : prj σ 35 = σ 55 := funext (fun i => rfl)
  have e34 : prj σ 34 1 = σ 46 11 := rfl
  rw [e35, e34, prj_1]
  obtain ⟨h1, h2, h3, h4⟩ := h
  have p := fun a ha => prj_pl (a := a) h1 (h2 5 (by omega)) ha
  have h6 : τ 46 6 = 0 := by rw [h2 6 (by omega)]; exact M.2
  match hr : tpe (σ 55) (σ 46 11) (wr (σ 47)) with
  | .inl x =>
    rw [hr] at h4
    obtain ⟨rfl, h5⟩ := h4
    refine ⟨rfl, REL_pl (fun a ha => plS_fr (by omega) (by omega) _) (show mup (prj σ) 34 1 0 34 1 = 0 from mup_at) p h3 ?_, fun a ha => h1 a (by omega) (by omega) (by omega), h6⟩
    show eqP (wn (mup (prj σ) 34 1 0) 1) (wn (prj τ) 1)
    rw [wn_congr (τ := mup (prj σ) 34 1 0) (σ := prj σ) (fun j hj => mup_ne (by omega)), prj_1, prj_1]
    exact eqP_symm h5
  | .inr (k, P) =>
    rw [hr] at h4
    obtain ⟨rfl, h5⟩ := h4
    refine ⟨rfl, REL_pl (fun a ha => plS_fr (by omega) (by omega) _) ?_ p h3 ?_, fun a ha => h1 a (by omega) (by omega) (by omega), h6⟩
    · show setP (mup (prj σ) 34 1 0) 1 P 34 1 = 0
      rw [setP_ne (by omega), mup_at]
    · show eqP (wn (setP (mup (prj σ) 34 1 0) 1 P) 1) (wn (prj τ) 1)
      rw [prj_1]
      exact eqP_trans eqP_setP (eqP_symm h5)
/-! rules of the law -/
section LW
variable {b : ev_B} {y : ev_Y} {pc : Nat} {ls : List (Nat × ev_V)} {st : List ev_V} {σ : ev_M} {Q : Option ev_V → ev_M → Prop}
theorem ev_eq_of {x z : Int} {off : Int} {tgt : Nat} (hd : decode y.2.1 pc = .ok (.if_icmp .eq off, 3)) (ht : (pc : Int) + off = (tgt : Int)) (ez : z = x) (kt : Ev b y tgt ls st σ Q) : Ev b y pc ls (vI z :: vI x :: st) σ Q := by
  subst ez
  intro p l e s m args below meth c H locs cells slots A Z lsA C E hP hS hl
  exact lv_icmp_eq C.1 C.2.1 hd ht (fun _ => kt p l e s m args below meth c H locs cells slots A Z lsA C E hP hS hl) (fun q => absurd rfl q)
theorem lg_cmp_self {a : Int64} : lg_cmp a a = 0 := by
  unfold lg_cmp
  rw [if_neg (by rw [gt_iff_lt, Int64.lt_iff_toInt_lt]; omega), if_pos rfl]
theorem ev_lc_of {x z : Int} {off : Int} {tgt : Nat} (hd : decode y.2.1 pc = .ok (.lcmp, 1)) (hd2 : decode y.2.1 (pc + 1) = .ok (.ifCond .eq off, 3)) (ht : ((pc + 1 : Nat) : Int) + off = (tgt : Int)) (ez : z = x) (kt : Ev b y tgt ls st σ Q) : Ev b y pc ls (vL z :: vL x :: st) σ Q := by
  subst ez
  intro p l e s m args below meth c H locs cells slots A Z lsA C E hP hS hl
  refine W.lcmp C.1 C.2.1 hd ?_
  rw [lg_cmp_self]
  exact lv_if_eq C.1 C.2.1 hd2 ht (fun _ => kt p l e s m args below meth c H locs cells slots A Z lsA C E hP hS hl) (fun q => absurd rfl q)
end LW
theorem l64_bd (x : Int64) : (-9223372036854775808 ≤ x.toInt ∧ x.toInt < 9223372036854775808) := by
  have h1 := Int64.le_toInt x
  have h2 := Int64.toInt_lt x
  omega
theorem an_63 {x : Int} : 0 ≤ (Int32.ofInt x &&& Int32.ofInt 63).toInt ∧ (Int32.ofInt x &&& Int32.ofInt 63).toInt < 64 := by
  have h := pk_andIn (Int32.ofInt x) (m := Int32.ofInt 63) 6 rfl (by decide)
  rw [vp_in_iff] at h
  omega
