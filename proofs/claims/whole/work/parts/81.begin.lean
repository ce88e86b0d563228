/-! the start of the law -/
def sad (u v : Nat → Nat) (a6 b : Nat) (adK adV : Nat → Nat) : Nat → Nat := fun k => if k < 46 then u k else if k < 60 then v (k - 46) else if k = 60 then a6 else if k < 74 then adK (k - 61) else if k = 74 then b else adV (k - 80)
abbrev sbb (u v : Nat → Nat) (a6 b : Nat) (adK adV : Nat → Nat) (D : va_G) (cs : Nat → ClassId) (fv : Value) (L : Nat) (xs : Nat → Int32) : ev_B := (sad u v a6 b adK adV, D, cs, fv, L, fun j => (xs j).toInt)
set_option maxHeartbeats 8000000 in
set_option maxRecDepth 20000 in
theorem s_ws {u v : Nat → Nat} {a6 b : Nat} {adK adV : Nat → Nat} {D : va_G} {cs : Nat → ClassId} {fv : Value} {L : Nat} {xs : Nat → Int32} : (([] ++ wX5 cs u) ++ wX6 cs v).set 36 (u 36, .inl (cs 2, 4, .inr (.inr (.inr (.inr (fun j => some (sad u v a6 b adK adV (ev_rt j)))))))) = ev_ws (sbb u v a6 b adK adV D cs fv L xs) s0 := rfl
theorem sad_K {u v : Nat → Nat} {a6 b : Nat} {adK adV : Nat → Nat} {i : Nat} (h : i < 13) : sad u v a6 b adK adV (61 + i) = adK i := by
  unfold sad; rw [if_neg (by omega), if_neg (by omega), if_neg (by omega), if_pos (by omega), show 61 + i - 61 = i by omega]
theorem sad_V {u v : Nat → Nat} {a6 b : Nat} {adK adV : Nat → Nat} {i : Nat} : sad u v a6 b adK adV (80 + i) = adV i := by
  unfold sad; rw [if_neg (by omega), if_neg (by omega), if_neg (by omega), if_neg (by omega), if_neg (by omega), show 80 + i - 80 = i by omega]
theorem vk_S.adr {N : Nat} {len : List Nat} {byt : List (List Int32)} {adK adV adK' adV' : Nat → Nat} {A : Nat → Prop} {U : State} {H : Heap} (h : vk_S N len byt adK adV A U H) (e1 : ∀ i, i < N → adK' i = adK i) (e2 : ∀ i, adV' i = adV i) : vk_S N len byt adK' adV' A U H := by
  refine ⟨fun i hi => ?_, fun i j hi hj e => h.2 i j hi hj (by rw [← e1 i hi, ← e1 j hj]; exact e)⟩
  rw [e1 i hi, e2 i]
  exact h.1 i hi
theorem va_fnP {D : va_G} {cl : List vw_C} {ws : va_W} {H : Heap} {a : Nat} {cA : ClassId} {x x' : vp_A} {k : Nat} (hP : va_P D cl ws H) (ha : ws[k]? = some (a, .inl (cA, x))) (e : vp_cell cA x = vp_cell cA x') : va_P D cl (ws.set k (a, .inl (cA, x'))) H := by
  intro i q hq
  rw [List.getElem?_set] at hq
  by_cases h : k = i
  · subst h
    rw [if_pos rfl, if_pos (List.getElem?_eq_some_iff.mp ha).1] at hq
    cases hq
    have h1 : H[a]? = some (vp_cell cA x) := hP k _ ha
    show H[a]? = some (vp_cell cA x')
    rw [h1, e]
  · rw [if_neg h] at hq
    exact hP i q hq
theorem s_x {xs : Nat → Int32} (j : Nat) : -2147483648 ≤ (xs j).toInt ∧ (xs j).toInt < 2147483648 := by
  have h1 := Int32.le_toInt (xs j)
  have h2 := Int32.toInt_lt (xs j)
  omega
