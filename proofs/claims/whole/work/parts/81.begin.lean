/-! the start of the law -/
def sad (u v : Nat → Nat) (a6 b : Nat) (adK adV : Nat → Nat) : Nat → Nat := fun k => if k < 46 then u k else if k < 60 then v (k - 46) else if k = 60 then a6 else if k < 74 then adK (k - 61) else if k = 74 then b else adV (k - 80)
abbrev sbb (u v : Nat → Nat) (a6 b : Nat) (adK adV : Nat → Nat) (D : va_G) (cs : Nat → ClassId) (fv : Value) (L : Nat) (xs : Nat → Int32) : ev_B := (sad u v a6 b adK adV, D, cs, fv, L, fun j => (xs j).toInt)
theorem s_5 {u v : Nat → Nat} {a6 b : Nat} {adK adV : Nat → Nat} {D : va_G} {cs : Nat → ClassId} {fv : Value} {L : Nat} {xs : Nat → Int32} : ∀ (k : Nat) (d : ev_Kd), k < 46 → k ≠ 36 → ev_kds[k]? = some d → (wX5 cs u)[k]? = some (u k, ev_cell (sbb u v a6 b adK adV D cs fv L xs) s0 k d) := by
  intro k d hk h36 h
  rcases (show k = 0 ∨ k = 1 ∨ k = 2 ∨ k = 3 ∨ k = 4 ∨ k = 5 ∨ k = 6 ∨ k = 7 ∨ k = 8 ∨ k = 9 ∨ k = 10 ∨ k = 11 ∨ k = 12 ∨ k = 13 ∨ k = 14 ∨ k = 15 ∨ k = 16 ∨ k = 17 ∨ k = 18 ∨ k = 19 ∨ k = 20 ∨ k = 21 ∨ k = 22 ∨ k = 23 ∨ k = 24 ∨ k = 25 ∨ k = 26 ∨ k = 27 ∨ k = 28 ∨ k = 29 ∨ k = 30 ∨ k = 31 ∨ k = 32 ∨ k = 33 ∨ k = 34 ∨ k = 35 ∨ k = 37 ∨ k = 38 ∨ k = 39 ∨ k = 40 ∨ k = 41 ∨ k = 42 ∨ k = 43 ∨ k = 44 ∨ k = 45 by omega) with rfl | rfl | rfl | rfl | rfl | rfl | rfl | rfl | rfl | rfl | rfl | rfl | rfl | rfl | rfl | rfl | rfl | rfl | rfl | rfl | rfl | rfl | rfl | rfl | rfl | rfl | rfl | rfl | rfl | rfl | rfl | rfl | rfl | rfl | rfl | rfl | rfl | rfl | rfl | rfl | rfl | rfl | rfl | rfl | rfl
  · cases h
    simp only [ev_cell, List.mapIdx_cons, List.mapIdx_nil]
    rfl
  · cases h
    simp only [ev_cell, List.mapIdx_cons, List.mapIdx_nil]
    rfl
  · cases h
    rfl
  · cases h
    rfl
  · cases h
    rfl
  · cases h
    rfl
  · cases h
    rfl
  · cases h
    rfl
  · cases h
    rfl
  · cases h
    rfl
  · cases h
    simp only [ev_cell, List.mapIdx_cons, List.mapIdx_nil]
    rfl
  · cases h
    rfl
  · cases h
    rfl
  · cases h
    rfl
  · cases h
    rfl
  · cases h
    rfl
  · cases h
    rfl
  · cases h
    rfl
  · cases h
    rfl
  · cases h
    simp only [ev_cell, List.mapIdx_cons, List.mapIdx_nil]
    rfl
  · cases h
    rfl
  · cases h
    rfl
  · cases h
    rfl
  · cases h
    rfl
  · cases h
    rfl
  · cases h
    rfl
  · cases h
    rfl
  · cases h
    rfl
  · cases h
    simp only [ev_cell, List.mapIdx_cons, List.mapIdx_nil]
    rfl
  · cases h
    rfl
  · cases h
    rfl
  · cases h
    rfl
  · cases h
    rfl
  · cases h
    rfl
  · cases h
    simp only [ev_cell, List.mapIdx_cons, List.mapIdx_nil]
    rfl
  · cases h
    rfl
  · cases h
    simp only [ev_cell, List.mapIdx_cons, List.mapIdx_nil]
    rfl
  · cases h
    rfl
  · cases h
    simp only [ev_cell, List.mapIdx_cons, List.mapIdx_nil]
    rfl
  · cases h
    rfl
  · cases h
    simp only [ev_cell, List.mapIdx_cons, List.mapIdx_nil]
    rfl
  · cases h
    rfl
  · cases h
    simp only [ev_cell, List.mapIdx_cons, List.mapIdx_nil]
    rfl
  · cases h
    rfl
  · cases h
    rfl
theorem s_6 {u v : Nat → Nat} {a6 b : Nat} {adK adV : Nat → Nat} {D : va_G} {cs : Nat → ClassId} {fv : Value} {L : Nat} {xs : Nat → Int32} : ∀ (k : Nat) (d : ev_Kd), k < 14 → ev_kds[46 + k]? = some d → (wX6 cs v)[k]? = some (v k, ev_cell (sbb u v a6 b adK adV D cs fv L xs) s0 (46 + k) d) := by
  intro k d hk h
  rcases (show k = 0 ∨ k = 1 ∨ k = 2 ∨ k = 3 ∨ k = 4 ∨ k = 5 ∨ k = 6 ∨ k = 7 ∨ k = 8 ∨ k = 9 ∨ k = 10 ∨ k = 11 ∨ k = 12 ∨ k = 13 by omega) with rfl | rfl | rfl | rfl | rfl | rfl | rfl | rfl | rfl | rfl | rfl | rfl | rfl | rfl
  · cases h
    simp only [ev_cell, List.mapIdx_cons, List.mapIdx_nil]
    rfl
  · cases h
    rfl
  · cases h
    rfl
  · cases h
    rfl
  · cases h
    rfl
  · cases h
    rfl
  · cases h
    rfl
  · cases h
    rfl
  · cases h
    rfl
  · cases h
    rfl
  · cases h
    rfl
  · cases h
    rfl
  · cases h
    rfl
  · cases h
    rfl
theorem s_l5 {cs : Nat → ClassId} {u : Nat → Nat} : (wX5 cs u).length = 46 := rfl
theorem s_l6 {cs : Nat → ClassId} {u : Nat → Nat} : (wX6 cs u).length = 14 := rfl
theorem s_ws {u v : Nat → Nat} {a6 b : Nat} {adK adV : Nat → Nat} {D : va_G} {cs : Nat → ClassId} {fv : Value} {L : Nat} {xs : Nat → Int32} : (([] ++ wX5 cs u) ++ wX6 cs v).set 36 (u 36, .inl (cs 2, 4, .inr (.inr (.inr (.inr (fun j => some (sad u v a6 b adK adV (ev_rt j)))))))) = ev_ws (sbb u v a6 b adK adV D cs fv L xs) s0 := by
  apply List.ext_getElem?
  intro k
  rw [ev_ws, List.getElem?_mapIdx, List.nil_append]
  by_cases h60 : k < 60
  · obtain ⟨d, hd⟩ : ∃ d, ev_kds[k]? = some d := ⟨_, List.getElem?_eq_getElem (show k < ev_kds.length from h60)⟩
    rw [hd, List.getElem?_set]
    by_cases h36 : 36 = k
    · subst h36
      rw [if_pos rfl, if_pos (by rw [List.length_append, s_l5, s_l6]; omega)]
      cases hd
      rfl
    · rw [if_neg h36]
      by_cases h46 : k < 46
      · rw [List.getElem?_append_left (by rw [s_l5]; exact h46), s_5 (a6 := a6) (b := b) (v := v) (adK := adK) (adV := adV) (D := D) (fv := fv) (L := L) (xs := xs) k d h46 (fun q => h36 q.symm) hd]
        show some (u k, _) = some (sad u v a6 b adK adV k, _)
        rw [show sad u v a6 b adK adV k = u k by unfold sad; rw [if_pos h46]]
      · rw [List.getElem?_append_right (by rw [s_l5]; omega), s_l5]
        obtain ⟨i, rfl⟩ : ∃ i, k = 46 + i := ⟨k - 46, by omega⟩
        rw [show 46 + i - 46 = i by omega, s_6 (a6 := a6) (b := b) (u := u) (adK := adK) (adV := adV) (D := D) (fv := fv) (L := L) (xs := xs) i d (by omega) hd]
        show some (v i, _) = some (sad u v a6 b adK adV (46 + i), _)
        rw [show sad u v a6 b adK adV (46 + i) = v i by unfold sad; rw [if_neg (by omega), if_pos (by omega), show 46 + i - 46 = i by omega]]
  · rw [List.getElem?_eq_none (by rw [List.length_set, List.length_append, s_l5, s_l6]; omega), List.getElem?_eq_none (show ev_kds.length ≤ k by show 60 ≤ k; omega)]
    rfl
theorem sad_K {u v : Nat → Nat} {a6 b : Nat} {adK adV : Nat → Nat} {i : Nat} (h : i < 13) : sad u v a6 b adK adV (61 + i) = adK i := by
  unfold sad; rw [if_neg (by omega), if_neg (by omega), if_neg (by omega), if_pos (by omega), show 61 + i - 61 = i by omega]
theorem sad_V {u v : Nat → Nat} {a6 b : Nat} {adK adV : Nat → Nat} {i : Nat} : sad u v a6 b adK adV (80 + i) = adV i := by
  unfold sad; rw [if_neg (by omega), if_neg (by omega), if_neg (by omega), if_neg (by omega), if_neg (by omega), show 80 + i - 80 = i by omega]
theorem vk_S.adr {N : Nat} {len : List Nat} {byt : List (List Int32)} {adK adV adK' adV' : Nat → Nat} {A : Nat → Prop} {U : State} {H : Heap} (h : vk_S N len byt adK adV A U H) (e1 : ∀ i, i < N → adK' i = adK i) (e2 : ∀ i, adV' i = adV i) : vk_S N len byt adK' adV' A U H := by
  refine ⟨fun i hi => ?_, fun i j hi hj e => h.2 i j hi hj (by rw [← e1 i hi, ← e1 j hj]; exact e)⟩
  rw [e1 i hi, e2 i]
  exact h.1 i hi
theorem va_fnP {D : va_G} {cl : List vw_C} {ws : va_W} {H : Heap} {a : Nat} {cA : ClassId} {x x' : vp_A} {k : Nat} (hP : va_P D cl ws H) (ha : ws[k]? = some (a, .inl (cA, x))) (e : vp_cell cA x = vp_cell cA x') : va_P D cl (ws.set k (a, .inl (cA, x'))) H := by
  intro i q hq
  rw [List.getElem?_set] at hq
  by_cases h : k = i
  · subst h
    rw [if_pos rfl, if_pos (List.getElem?_eq_some_iff.mp ha).1] at hq
    cases hq
    have h1 : H[a]? = some (vp_cell cA x) := hP k _ ha
    show H[a]? = some (vp_cell cA x')
    rw [h1, e]
  · rw [if_neg h] at hq
    exact hP i q hq
theorem s_x {xs : Nat → Int32} (j : Nat) : -2147483648 ≤ (xs j).toInt ∧ (xs j).toInt < 2147483648 := by
  have h1 := Int32.le_toInt (xs j)
  have h2 := Int32.toInt_lt (xs j)
  omega
