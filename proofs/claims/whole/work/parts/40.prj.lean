/-! the model's cells as cells of the class -/
theorem upw_at {f : Int → Int} {k v : Int} : upw f k v k = v := by unfold upw; rw [if_pos rfl]
theorem upw_ne {f : Int → Int} {k v i : Int} (h : i ≠ k) : upw f k v i = f i := by unfold upw; rw [if_neg h]
theorem mup_row {σ : ev_M} {a : Nat} {i v : Int} : mup σ a i v a = upw (σ a) i v := by
  funext j; unfold mup upw; simp
def prj (σ : ev_M) : ev_M := fun a i =>
  if a = 0 then σ 46 5
  else if a < 10 then wr (σ 47) (a - 1) i
  else if a < 19 then wr (σ 48) (a - 10) i
  else if a = 34 then σ 46 11
  else if a = 35 then σ 55 i
  else if a = 37 then (if i = 1 then σ 56 0 else σ 57 0)
  else if a = 39 then (if i = 1 then σ 56 1 else σ 57 1)
  else if a = 41 then (if i = 1 then σ 56 2 else σ 57 2)
  else if a = 43 then (if i = 1 then σ 56 3 else σ 57 3)
  else if a = 38 then σ 58 i
  else if a = 40 then σ 58 (40 + i)
  else if a = 42 then σ 58 (80 + i)
  else if a = 44 then σ 58 (120 + i)
  else σ 51 i
theorem prj_1 {σ : ev_M} : wn (prj σ) 1 = wr (σ 47) := by
  funext j i
  unfold wn
  by_cases h : j < 9
  · rw [if_pos h]
    unfold prj
    rw [if_neg (by omega), if_pos (by omega), show 1 + j - 1 = j by omega]
  · rw [if_neg h]
    match j, h with
    | j + 9, _ => rfl
theorem prj_10 {σ : ev_M} : wn (prj σ) 10 = wr (σ 48) := by
  funext j i
  unfold wn
  by_cases h : j < 9
  · rw [if_pos h]
    unfold prj
    rw [if_neg (by omega), if_neg (by omega), if_pos (by omega), show 10 + j - 10 = j by omega]
  · rw [if_neg h]
    match j, h with
    | j + 9, _ => rfl
/-- two lots of cells that answer alike -/
def REL (A B : ev_M) : Prop := eqP (wn A 1) (wn B 1) ∧ eqP (wn A 10) (wn B 10) ∧ A 0 7 = B 0 7 ∧ A 34 1 = B 34 1 ∧ (∀ i : Int, 0 ≤ i ∧ i < B 34 1 → A 35 i = B 35 i) ∧ (∀ q : Nat, isS q → A q 1 = B q 1 ∧ A q 2 = B q 2 ∧ ∀ i : Int, 0 ≤ i ∧ i < 40 → A (q + 1) i = B (q + 1) i) ∧ (∀ i : Int, 0 ≤ i ∧ i < 7 → A 45 i = B 45 i)
theorem REL_rf {A : ev_M} : REL A A := ⟨eqP_rf, eqP_rf, rfl, rfl, fun _ _ => rfl, fun _ _ => ⟨rfl, rfl, fun _ _ => rfl⟩, fun _ _ => rfl⟩
theorem REL_tr {A B C : ev_M} (h : REL A B) (g : REL B C) : REL A C := by
  obtain ⟨h1, h2, h3, h4, h5, h6, h7⟩ := h
  obtain ⟨g1, g2, g3, g4, g5, g6, g7⟩ := g
  exact ⟨eqP_trans h1 g1, eqP_trans h2 g2, h3.trans g3, h4.trans g4, fun i hi => (h5 i (by omega)).trans (g5 i hi), fun q hq => ⟨(h6 q hq).1.trans (g6 q hq).1, (h6 q hq).2.1.trans (g6 q hq).2.1, fun i hi => ((h6 q hq).2.2 i hi).trans ((g6 q hq).2.2 i hi)⟩, fun i hi => (h7 i hi).trans (g7 i hi)⟩
theorem REL_sameC {A B τ : ev_M} (h : REL A B) (s : sameC A τ) : REL τ B := by
  obtain ⟨h1, h2, h3, h4, h5, h6, h7⟩ := h
  refine ⟨by rw [wn_congr (fun j hj => s (1 + j) (by omega))]; exact h1, by rw [wn_congr (fun j hj => s (10 + j) (by omega))]; exact h2, by rw [s 0 (by omega)]; exact h3, by rw [s 34 (by omega)]; exact h4, by rw [s 35 (by omega)]; exact h5, fun q hq => ?_, by rw [s 45 (by omega)]; exact h7⟩
  have hb : 37 ≤ q := by rcases hq with rfl | rfl | rfl | rfl <;> omega
  rw [s q (by omega), s (q + 1) (by omega)]
  exact h6 q hq
/-- what holds of the cells between calls -/
def OKB (B : ev_M) : Prop := okP (wn B 1) ∧ okP (wn B 10) ∧ (B 0 7 = 0 ∨ B 0 7 = 1) ∧ okT B ∧ okS B
theorem OKB_rel {A B : ev_M} (h : REL A B) (H : OKB B) : OKB A := by
  obtain ⟨h1, h2, h3, h4, h5, h6, h7⟩ := h
  obtain ⟨k1, k2, k3, k4, k5⟩ := H
  refine ⟨eqP_ok h1 k1, eqP_ok h2 k2, by rw [h3]; exact k3, ⟨by rw [h4]; exact k4.1, fun i hi => ?_⟩, fun q hq => ?_⟩
  · rw [h4] at hi
    rw [h5 i hi]
    exact k4.2 i hi
  · obtain ⟨a1, a2, a3⟩ := h6 q hq
    obtain ⟨s1, s2, s3⟩ := k5 q hq
    rw [a1, a2]
    exact ⟨s1, s2, fun i hi => by rw [a3 i hi]; exact s3 i hi⟩
/-- what a call of the model leaves -/
def RP (σ : ev_M) (x : Int × ev_M) (r : Option ev_V) (τ : ev_M) : Prop := r = some (vI x.1) ∧ REL x.2 (prj τ) ∧ (∀ a : Nat, a < 46 → τ a = σ a) ∧ τ 46 6 = 0
theorem RP_id {σ : ev_M} {v : Int} (h : σ 46 6 = 0) : RP σ (v, prj σ) (some (vI v)) σ := ⟨rfl, REL_rf, fun _ _ => rfl, h⟩
theorem prj_51 {σ : ev_M} {i v : Int} : REL (mup (prj σ) 45 i v) (prj (mup σ 51 i v)) := by
  refine ⟨?_, ?_, rfl, rfl, fun _ _ => rfl, fun q hq => ?_, fun x _ => ?_⟩
  · exact eqP_rf
  · exact eqP_rf
  · rcases hq with rfl | rfl | rfl | rfl <;> exact ⟨rfl, rfl, fun _ _ => rfl⟩
  · show mup (prj σ) 45 i v 45 x = mup σ 51 i v 51 x
    rw [mup_row, mup_row]
    rfl
theorem RP_fnd {σ : ev_M} {v i : Int} (h : σ 46 6 = 0) : RP σ (v, fnd (prj σ) i) (some (vI v)) (mup σ 51 i (σ 51 i + 1)) := ⟨rfl, prj_51, fun a ha => mup_ne (by omega), h⟩
/-- the model's row changes -/
theorem prj_47 {σ τ : ev_M} {A : ev_M} (h : eqP (wn A 1) (wr (τ 47))) (hA : ∀ a : Nat, a = 0 ∨ 9 < a → A a = prj σ a) (ht : ∀ a : Nat, a ≠ 47 → a = 48 ∨ a = 51 ∨ (55 ≤ a ∧ a ≤ 58) → τ a = σ a) (h5 : τ 46 5 = σ 46 5) (h11 : τ 46 11 = σ 46 11) : REL A (prj τ) := by
  have e48 := ht 48 (by decide) (by omega)
  have e51 := ht 51 (by decide) (by omega)
  have e55 := ht 55 (by decide) (by omega)
  have e56 := ht 56 (by decide) (by omega)
  have e57 := ht 57 (by decide) (by omega)
  have e58 := ht 58 (by decide) (by omega)
  refine ⟨by rw [prj_1]; exact h, ?_, ?_, ?_, fun i hi => ?_, fun q hq => ?_, fun i hi => ?_⟩
  · rw [wn_congr (fun j hj => hA (10 + j) (by omega)), prj_10, prj_10, e48]
    exact eqP_rf
  · rw [hA 0 (by omega)]; exact h5.symm
  · rw [hA 34 (by omega)]; exact h11.symm
  · rw [hA 35 (by omega)]; show σ 55 i = τ 55 i; rw [e55]
  · have hb : 37 ≤ q := by rcases hq with rfl | rfl | rfl | rfl <;> omega
    rw [hA q (by omega), hA (q + 1) (by omega)]
    rcases hq with rfl | rfl | rfl | rfl
    · exact ⟨show σ 56 0 = τ 56 0 by rw [e56], show σ 57 0 = τ 57 0 by rw [e57], fun i _ => show σ 58 i = τ 58 i by rw [e58]⟩
    · exact ⟨show σ 56 1 = τ 56 1 by rw [e56], show σ 57 1 = τ 57 1 by rw [e57], fun i _ => show σ 58 (40 + i) = τ 58 (40 + i) by rw [e58]⟩
    · exact ⟨show σ 56 2 = τ 56 2 by rw [e56], show σ 57 2 = τ 57 2 by rw [e57], fun i _ => show σ 58 (80 + i) = τ 58 (80 + i) by rw [e58]⟩
    · exact ⟨show σ 56 3 = τ 56 3 by rw [e56], show σ 57 3 = τ 57 3 by rw [e57], fun i _ => show σ 58 (120 + i) = τ 58 (120 + i) by rw [e58]⟩
  · rw [hA 45 (by omega)]; show σ 51 i = τ 51 i; rw [e51]
theorem wr_up1 {f : Int → Int} {c v : Int} (H : okP (wr f)) (hc : 0 ≤ c ∧ c < 48) : eqP (mup (wr f) 1 c v) (wr (upw f (4 + c) v)) := by
  have h0 := okr0 H
  have e0 : upw f (4 + c) v 0 = f 0 := upw_ne (by omega)
  have e1 : upw f (4 + c) v 1 = f 1 := upw_ne (by omega)
  have e2 : upw f (4 + c) v 2 = f 2 := upw_ne (by omega)
  have e3 : upw f (4 + c) v 3 = f 3 := upw_ne (by omega)
  have st : ∀ x : Int, mup (wr f) 1 c v 1 x = upw f (4 + c) v (4 + x) := fun x => by
    by_cases e : x = c
    · subst e; rw [mup_at, upw_at]
    · rw [mup_off e, upw_ne (by omega)]; rfl
  refine ⟨e3.symm, e2.symm, e0.symm, e1.symm, fun x hx => (st x), fun x hx => ?_, fun x hx => ?_⟩
  · have hx2 : 0 ≤ x ∧ x < f 0 := by rw [← e0]; exact hx
    exact ⟨(show mup (wr f) 1 c v 2 x = upw f (4 + c) v (52 + 4 * x + 0) by rw [mup_ne (by decide), upw_ne (by omega)]; rfl), (show mup (wr f) 1 c v 3 x = upw f (4 + c) v (52 + 4 * x + 1) by rw [mup_ne (by decide), upw_ne (by omega)]; rfl), (show mup (wr f) 1 c v 4 x = upw f (4 + c) v (52 + 4 * x + 2) by rw [mup_ne (by decide), upw_ne (by omega)]; rfl), (show mup (wr f) 1 c v 5 x = upw f (4 + c) v (52 + 4 * x + 3) by rw [mup_ne (by decide), upw_ne (by omega)]; rfl)⟩
  · have hx2 : 0 ≤ x ∧ x < f 1 := by rw [← e1]; exact hx
    exact ⟨(show mup (wr f) 1 c v 6 x = upw f (4 + c) v (76 + 3 * x + 0) by rw [mup_ne (by decide), upw_ne (by omega)]; rfl), (show mup (wr f) 1 c v 7 x = upw f (4 + c) v (76 + 3 * x + 1) by rw [mup_ne (by decide), upw_ne (by omega)]; rfl), (show mup (wr f) 1 c v 8 x = upw f (4 + c) v (76 + 3 * x + 2) by rw [mup_ne (by decide), upw_ne (by omega)]; rfl)⟩
theorem wr_up2 {f : Int → Int} {c v : Int} (H : okP (wr f)) (hc : 0 ≤ c ∧ c < 6) : eqP (mup (wr f) 2 c v) (wr (upw f (52 + 4 * c + 0) v)) := by
  have h0 := okr0 H
  have e0 : upw f (52 + 4 * c + 0) v 0 = f 0 := upw_ne (by omega)
  have e1 : upw f (52 + 4 * c + 0) v 1 = f 1 := upw_ne (by omega)
  have e2 : upw f (52 + 4 * c + 0) v 2 = f 2 := upw_ne (by omega)
  have e3 : upw f (52 + 4 * c + 0) v 3 = f 3 := upw_ne (by omega)
  have st : ∀ x : Int, mup (wr f) 2 c v 2 x = upw f (52 + 4 * c + 0) v (52 + 4 * x + 0) := fun x => by
    by_cases e : x = c
    · subst e; rw [mup_at, upw_at]
    · rw [mup_off e, upw_ne (by omega)]; rfl
  refine ⟨e3.symm, e2.symm, e0.symm, e1.symm, fun x hx => (show mup (wr f) 2 c v 1 x = upw f (52 + 4 * c + 0) v (4 + x) by rw [mup_ne (by decide), upw_ne (by omega)]; rfl), fun x hx => ?_, fun x hx => ?_⟩
  · have hx2 : 0 ≤ x ∧ x < f 0 := by rw [← e0]; exact hx
    exact ⟨(st x), (show mup (wr f) 2 c v 3 x = upw f (52 + 4 * c + 0) v (52 + 4 * x + 1) by rw [mup_ne (by decide), upw_ne (by omega)]; rfl), (show mup (wr f) 2 c v 4 x = upw f (52 + 4 * c + 0) v (52 + 4 * x + 2) by rw [mup_ne (by decide), upw_ne (by omega)]; rfl), (show mup (wr f) 2 c v 5 x = upw f (52 + 4 * c + 0) v (52 + 4 * x + 3) by rw [mup_ne (by decide), upw_ne (by omega)]; rfl)⟩
  · have hx2 : 0 ≤ x ∧ x < f 1 := by rw [← e1]; exact hx
    exact ⟨(show mup (wr f) 2 c v 6 x = upw f (52 + 4 * c + 0) v (76 + 3 * x + 0) by rw [mup_ne (by decide), upw_ne (by omega)]; rfl), (show mup (wr f) 2 c v 7 x = upw f (52 + 4 * c + 0) v (76 + 3 * x + 1) by rw [mup_ne (by decide), upw_ne (by omega)]; rfl), (show mup (wr f) 2 c v 8 x = upw f (52 + 4 * c + 0) v (76 + 3 * x + 2) by rw [mup_ne (by decide), upw_ne (by omega)]; rfl)⟩
theorem wr_up3 {f : Int → Int} {c v : Int} (H : okP (wr f)) (hc : 0 ≤ c ∧ c < 6) : eqP (mup (wr f) 3 c v) (wr (upw f (52 + 4 * c + 1) v)) := by
  have h0 := okr0 H
  have e0 : upw f (52 + 4 * c + 1) v 0 = f 0 := upw_ne (by omega)
  have e1 : upw f (52 + 4 * c + 1) v 1 = f 1 := upw_ne (by omega)
  have e2 : upw f (52 + 4 * c + 1) v 2 = f 2 := upw_ne (by omega)
  have e3 : upw f (52 + 4 * c + 1) v 3 = f 3 := upw_ne (by omega)
  have st : ∀ x : Int, mup (wr f) 3 c v 3 x = upw f (52 + 4 * c + 1) v (52 + 4 * x + 1) := fun x => by
    by_cases e : x = c
    · subst e; rw [mup_at, upw_at]
    · rw [mup_off e, upw_ne (by omega)]; rfl
  refine ⟨e3.symm, e2.symm, e0.symm, e1.symm, fun x hx => (show mup (wr f) 3 c v 1 x = upw f (52 + 4 * c + 1) v (4 + x) by rw [mup_ne (by decide), upw_ne (by omega)]; rfl), fun x hx => ?_, fun x hx => ?_⟩
  · have hx2 : 0 ≤ x ∧ x < f 0 := by rw [← e0]; exact hx
    exact ⟨(show mup (wr f) 3 c v 2 x = upw f (52 + 4 * c + 1) v (52 + 4 * x + 0) by rw [mup_ne (by decide), upw_ne (by omega)]; rfl), (st x), (show mup (wr f) 3 c v 4 x = upw f (52 + 4 * c + 1) v (52 + 4 * x + 2) by rw [mup_ne (by decide), upw_ne (by omega)]; rfl), (show mup (wr f) 3 c v 5 x = upw f (52 + 4 * c + 1) v (52 + 4 * x + 3) by rw [mup_ne (by decide), upw_ne (by omega)]; rfl)⟩
  · have hx2 : 0 ≤ x ∧ x < f 1 := by rw [← e1]; exact hx
    exact ⟨(show mup (wr f) 3 c v 6 x = upw f (52 + 4 * c + 1) v (76 + 3 * x + 0) by rw [mup_ne (by decide), upw_ne (by omega)]; rfl), (show mup (wr f) 3 c v 7 x = upw f (52 + 4 * c + 1) v (76 + 3 * x + 1) by rw [mup_ne (by decide), upw_ne (by omega)]; rfl), (show mup (wr f) 3 c v 8 x = upw f (52 + 4 * c + 1) v (76 + 3 * x + 2) by rw [mup_ne (by decide), upw_ne (by omega)]; rfl)⟩
theorem wr_up4 {f : Int → Int} {c v : Int} (H : okP (wr f)) (hc : 0 ≤ c ∧ c < 6) : eqP (mup (wr f) 4 c v) (wr (upw f (52 + 4 * c + 2) v)) := by
  have h0 := okr0 H
  have e0 : upw f (52 + 4 * c + 2) v 0 = f 0 := upw_ne (by omega)
  have e1 : upw f (52 + 4 * c + 2) v 1 = f 1 := upw_ne (by omega)
  have e2 : upw f (52 + 4 * c + 2) v 2 = f 2 := upw_ne (by omega)
  have e3 : upw f (52 + 4 * c + 2) v 3 = f 3 := upw_ne (by omega)
  have st : ∀ x : Int, mup (wr f) 4 c v 4 x = upw f (52 + 4 * c + 2) v (52 + 4 * x + 2) := fun x => by
    by_cases e : x = c
    · subst e; rw [mup_at, upw_at]
    · rw [mup_off e, upw_ne (by omega)]; rfl
  refine ⟨e3.symm, e2.symm, e0.symm, e1.symm, fun x hx => (show mup (wr f) 4 c v 1 x = upw f (52 + 4 * c + 2) v (4 + x) by rw [mup_ne (by decide), upw_ne (by omega)]; rfl), fun x hx => ?_, fun x hx => ?_⟩
  · have hx2 : 0 ≤ x ∧ x < f 0 := by rw [← e0]; exact hx
    exact ⟨(show mup (wr f) 4 c v 2 x = upw f (52 + 4 * c + 2) v (52 + 4 * x + 0) by rw [mup_ne (by decide), upw_ne (by omega)]; rfl), (show mup (wr f) 4 c v 3 x = upw f (52 + 4 * c + 2) v (52 + 4 * x + 1) by rw [mup_ne (by decide), upw_ne (by omega)]; rfl), (st x), (show mup (wr f) 4 c v 5 x = upw f (52 + 4 * c + 2) v (52 + 4 * x + 3) by rw [mup_ne (by decide), upw_ne (by omega)]; rfl)⟩
  · have hx2 : 0 ≤ x ∧ x < f 1 := by rw [← e1]; exact hx
    exact ⟨(show mup (wr f) 4 c v 6 x = upw f (52 + 4 * c + 2) v (76 + 3 * x + 0) by rw [mup_ne (by decide), upw_ne (by omega)]; rfl), (show mup (wr f) 4 c v 7 x = upw f (52 + 4 * c + 2) v (76 + 3 * x + 1) by rw [mup_ne (by decide), upw_ne (by omega)]; rfl), (show mup (wr f) 4 c v 8 x = upw f (52 + 4 * c + 2) v (76 + 3 * x + 2) by rw [mup_ne (by decide), upw_ne (by omega)]; rfl)⟩
theorem wr_up5 {f : Int → Int} {c v : Int} (H : okP (wr f)) (hc : 0 ≤ c ∧ c < 6) : eqP (mup (wr f) 5 c v) (wr (upw f (52 + 4 * c + 3) v)) := by
  have h0 := okr0 H
  have e0 : upw f (52 + 4 * c + 3) v 0 = f 0 := upw_ne (by omega)
  have e1 : upw f (52 + 4 * c + 3) v 1 = f 1 := upw_ne (by omega)
  have e2 : upw f (52 + 4 * c + 3) v 2 = f 2 := upw_ne (by omega)
  have e3 : upw f (52 + 4 * c + 3) v 3 = f 3 := upw_ne (by omega)
  have st : ∀ x : Int, mup (wr f) 5 c v 5 x = upw f (52 + 4 * c + 3) v (52 + 4 * x + 3) := fun x => by
    by_cases e : x = c
    · subst e; rw [mup_at, upw_at]
    · rw [mup_off e, upw_ne (by omega)]; rfl
  refine ⟨e3.symm, e2.symm, e0.symm, e1.symm, fun x hx => (show mup (wr f) 5 c v 1 x = upw f (52 + 4 * c + 3) v (4 + x) by rw [mup_ne (by decide), upw_ne (by omega)]; rfl), fun x hx => ?_, fun x hx => ?_⟩
  · have hx2 : 0 ≤ x ∧ x < f 0 := by rw [← e0]; exact hx
    exact ⟨(show mup (wr f) 5 c v 2 x = upw f (52 + 4 * c + 3) v (52 + 4 * x + 0) by rw [mup_ne (by decide), upw_ne (by omega)]; rfl), (show mup (wr f) 5 c v 3 x = upw f (52 + 4 * c + 3) v (52 + 4 * x + 1) by rw [mup_ne (by decide), upw_ne (by omega)]; rfl), (show mup (wr f) 5 c v 4 x = upw f (52 + 4 * c + 3) v (52 + 4 * x + 2) by rw [mup_ne (by decide), upw_ne (by omega)]; rfl), (st x)⟩
  · have hx2 : 0 ≤ x ∧ x < f 1 := by rw [← e1]; exact hx
    exact ⟨(show mup (wr f) 5 c v 6 x = upw f (52 + 4 * c + 3) v (76 + 3 * x + 0) by rw [mup_ne (by decide), upw_ne (by omega)]; rfl), (show mup (wr f) 5 c v 7 x = upw f (52 + 4 * c + 3) v (76 + 3 * x + 1) by rw [mup_ne (by decide), upw_ne (by omega)]; rfl), (show mup (wr f) 5 c v 8 x = upw f (52 + 4 * c + 3) v (76 + 3 * x + 2) by rw [mup_ne (by decide), upw_ne (by omega)]; rfl)⟩
theorem wr_up6 {f : Int → Int} {c v : Int} (H : okP (wr f)) (hc : 0 ≤ c ∧ c < 8) : eqP (mup (wr f) 6 c v) (wr (upw f (76 + 3 * c + 0) v)) := by
  have h0 := okr0 H
  have e0 : upw f (76 + 3 * c + 0) v 0 = f 0 := upw_ne (by omega)
  have e1 : upw f (76 + 3 * c + 0) v 1 = f 1 := upw_ne (by omega)
  have e2 : upw f (76 + 3 * c + 0) v 2 = f 2 := upw_ne (by omega)
  have e3 : upw f (76 + 3 * c + 0) v 3 = f 3 := upw_ne (by omega)
  have st : ∀ x : Int, mup (wr f) 6 c v 6 x = upw f (76 + 3 * c + 0) v (76 + 3 * x + 0) := fun x => by
    by_cases e : x = c
    · subst e; rw [mup_at, upw_at]
    · rw [mup_off e, upw_ne (by omega)]; rfl
  refine ⟨e3.symm, e2.symm, e0.symm, e1.symm, fun x hx => (show mup (wr f) 6 c v 1 x = upw f (76 + 3 * c + 0) v (4 + x) by rw [mup_ne (by decide), upw_ne (by omega)]; rfl), fun x hx => ?_, fun x hx => ?_⟩
  · have hx2 : 0 ≤ x ∧ x < f 0 := by rw [← e0]; exact hx
    exact ⟨(show mup (wr f) 6 c v 2 x = upw f (76 + 3 * c + 0) v (52 + 4 * x + 0) by rw [mup_ne (by decide), upw_ne (by omega)]; rfl), (show mup (wr f) 6 c v 3 x = upw f (76 + 3 * c + 0) v (52 + 4 * x + 1) by rw [mup_ne (by decide), upw_ne (by omega)]; rfl), (show mup (wr f) 6 c v 4 x = upw f (76 + 3 * c + 0) v (52 + 4 * x + 2) by rw [mup_ne (by decide), upw_ne (by omega)]; rfl), (show mup (wr f) 6 c v 5 x = upw f (76 + 3 * c + 0) v (52 + 4 * x + 3) by rw [mup_ne (by decide), upw_ne (by omega)]; rfl)⟩
  · have hx2 : 0 ≤ x ∧ x < f 1 := by rw [← e1]; exact hx
    exact ⟨(st x), (show mup (wr f) 6 c v 7 x = upw f (76 + 3 * c + 0) v (76 + 3 * x + 1) by rw [mup_ne (by decide), upw_ne (by omega)]; rfl), (show mup (wr f) 6 c v 8 x = upw f (76 + 3 * c + 0) v (76 + 3 * x + 2) by rw [mup_ne (by decide), upw_ne (by omega)]; rfl)⟩
theorem wr_up7 {f : Int → Int} {c v : Int} (H : okP (wr f)) (hc : 0 ≤ c ∧ c < 8) : eqP (mup (wr f) 7 c v) (wr (upw f (76 + 3 * c + 1) v)) := by
  have h0 := okr0 H
  have e0 : upw f (76 + 3 * c + 1) v 0 = f 0 := upw_ne (by omega)
  have e1 : upw f (76 + 3 * c + 1) v 1 = f 1 := upw_ne (by omega)
  have e2 : upw f (76 + 3 * c + 1) v 2 = f 2 := upw_ne (by omega)
  have e3 : upw f (76 + 3 * c + 1) v 3 = f 3 := upw_ne (by omega)
  have st : ∀ x : Int, mup (wr f) 7 c v 7 x = upw f (76 + 3 * c + 1) v (76 + 3 * x + 1) := fun x => by
    by_cases e : x = c
    · subst e; rw [mup_at, upw_at]
    · rw [mup_off e, upw_ne (by omega)]; rfl
  refine ⟨e3.symm, e2.symm, e0.symm, e1.symm, fun x hx => (show mup (wr f) 7 c v 1 x = upw f (76 + 3 * c + 1) v (4 + x) by rw [mup_ne (by decide), upw_ne (by omega)]; rfl), fun x hx => ?_, fun x hx => ?_⟩
  · have hx2 : 0 ≤ x ∧ x < f 0 := by rw [← e0]; exact hx
    exact ⟨(show mup (wr f) 7 c v 2 x = upw f (76 + 3 * c + 1) v (52 + 4 * x + 0) by rw [mup_ne (by decide), upw_ne (by omega)]; rfl), (show mup (wr f) 7 c v 3 x = upw f (76 + 3 * c + 1) v (52 + 4 * x + 1) by rw [mup_ne (by decide), upw_ne (by omega)]; rfl), (show mup (wr f) 7 c v 4 x = upw f (76 + 3 * c + 1) v (52 + 4 * x + 2) by rw [mup_ne (by decide), upw_ne (by omega)]; rfl), (show mup (wr f) 7 c v 5 x = upw f (76 + 3 * c + 1) v (52 + 4 * x + 3) by rw [mup_ne (by decide), upw_ne (by omega)]; rfl)⟩
  · have hx2 : 0 ≤ x ∧ x < f 1 := by rw [← e1]; exact hx
    exact ⟨(show mup (wr f) 7 c v 6 x = upw f (76 + 3 * c + 1) v (76 + 3 * x + 0) by rw [mup_ne (by decide), upw_ne (by omega)]; rfl), (st x), (show mup (wr f) 7 c v 8 x = upw f (76 + 3 * c + 1) v (76 + 3 * x + 2) by rw [mup_ne (by decide), upw_ne (by omega)]; rfl)⟩
theorem wr_up8 {f : Int → Int} {c v : Int} (H : okP (wr f)) (hc : 0 ≤ c ∧ c < 8) : eqP (mup (wr f) 8 c v) (wr (upw f (76 + 3 * c + 2) v)) := by
  have h0 := okr0 H
  have e0 : upw f (76 + 3 * c + 2) v 0 = f 0 := upw_ne (by omega)
  have e1 : upw f (76 + 3 * c + 2) v 1 = f 1 := upw_ne (by omega)
  have e2 : upw f (76 + 3 * c + 2) v 2 = f 2 := upw_ne (by omega)
  have e3 : upw f (76 + 3 * c + 2) v 3 = f 3 := upw_ne (by omega)
  have st : ∀ x : Int, mup (wr f) 8 c v 8 x = upw f (76 + 3 * c + 2) v (76 + 3 * x + 2) := fun x => by
    by_cases e : x = c
    · subst e; rw [mup_at, upw_at]
    · rw [mup_off e, upw_ne (by omega)]; rfl
  refine ⟨e3.symm, e2.symm, e0.symm, e1.symm, fun x hx => (show mup (wr f) 8 c v 1 x = upw f (76 + 3 * c + 2) v (4 + x) by rw [mup_ne (by decide), upw_ne (by omega)]; rfl), fun x hx => ?_, fun x hx => ?_⟩
  · have hx2 : 0 ≤ x ∧ x < f 0 := by rw [← e0]; exact hx
    exact ⟨(show mup (wr f) 8 c v 2 x = upw f (76 + 3 * c + 2) v (52 + 4 * x + 0) by rw [mup_ne (by decide), upw_ne (by omega)]; rfl), (show mup (wr f) 8 c v 3 x = upw f (76 + 3 * c + 2) v (52 + 4 * x + 1) by rw [mup_ne (by decide), upw_ne (by omega)]; rfl), (show mup (wr f) 8 c v 4 x = upw f (76 + 3 * c + 2) v (52 + 4 * x + 2) by rw [mup_ne (by decide), upw_ne (by omega)]; rfl), (show mup (wr f) 8 c v 5 x = upw f (76 + 3 * c + 2) v (52 + 4 * x + 3) by rw [mup_ne (by decide), upw_ne (by omega)]; rfl)⟩
  · have hx2 : 0 ≤ x ∧ x < f 1 := by rw [← e1]; exact hx
    exact ⟨(show mup (wr f) 8 c v 6 x = upw f (76 + 3 * c + 2) v (76 + 3 * x + 0) by rw [mup_ne (by decide), upw_ne (by omega)]; rfl), (show mup (wr f) 8 c v 7 x = upw f (76 + 3 * c + 2) v (76 + 3 * x + 1) by rw [mup_ne (by decide), upw_ne (by omega)]; rfl), (st x)⟩
