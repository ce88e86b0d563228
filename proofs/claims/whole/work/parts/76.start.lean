/-! the cells at the start -/
def s0 : ev_M := fun k j => if k = 1 ∨ k = 10 ∨ k = 19 then (if j = 1 then 3 else 0) else if k = 2 ∨ k = 11 ∨ k = 20 then (if 0 ≤ j ∧ j < 48 then 10 else 0) else if k = 47 then (if j = 3 then 3 else if 4 ≤ j ∧ j < 52 then 10 else 0) else 0
theorem s0_okP {f : Int → Int} (h0 : f 0 = 0) (h1 : f 1 = 0) (h2 : f 2 = 0) (h3 : 0 ≤ f 3 ∧ f 3 ≤ 20) (hw : ∀ c : Int, 0 ≤ c ∧ c < 48 → 0 ≤ f (4 + c) ∧ f (4 + c) ≤ 99) : okP (wr f) := by
  have e3 : wr f 0 3 = f 0 := rfl
  have e8 : wr f 0 8 = f 1 := rfl
  have e2 : wr f 0 2 = f 2 := rfl
  refine ⟨h3, by rw [e2]; omega, by rw [e3]; omega, by rw [e8]; omega, hw, fun k hk => ?_, fun l hl => ?_⟩
  · rw [e3] at hk; omega
  · rw [e8] at hl; omega
theorem s0_inv : INV s0 := by
  refine ⟨⟨?_, fun z => ?_, rfl, rfl, fun i hi => ?_, fun q hq => ?_, fun i hi => rfl⟩, ⟨⟨?_, ?_, Or.inl rfl, ⟨?_, fun i hi => ?_⟩, fun q hq => ?_⟩, ?_, ?_, fun i hi => ?_⟩, rfl⟩
  · rw [prj_1]
    refine ⟨rfl, rfl, rfl, rfl, fun c hc => ?_, fun k hk => ?_, fun l hl => ?_⟩
    · show (if 0 ≤ c ∧ c < 48 then (10 : Int) else 0) = (if 4 + c = 3 then 3 else if 4 ≤ 4 + c ∧ 4 + c < 52 then 10 else 0)
      rw [if_pos hc, if_neg (by omega), if_pos (by omega)]
    · have e : wr (s0 47) 0 3 = 0 := rfl
      rw [e] at hk; omega
    · have e : wr (s0 47) 0 8 = 0 := rfl
      rw [e] at hl; omega
  · exact absurd (show (0 : Int) = 1 from z) (by decide)
  · have e : prj s0 34 1 = 0 := rfl
    rw [e] at hi; omega
  · rcases hq with rfl | rfl | rfl | rfl <;> exact ⟨rfl, rfl, fun _ _ => rfl⟩
  · rw [prj_1]
    refine s0_okP rfl rfl rfl ?_ (fun c hc => ?_)
    · show (0 : Int) ≤ 3 ∧ (3 : Int) ≤ 20
      decide
    · show 0 ≤ (if 4 + c = 3 then (3 : Int) else if 4 ≤ 4 + c ∧ 4 + c < 52 then 10 else 0) ∧ (if 4 + c = 3 then (3 : Int) else if 4 ≤ 4 + c ∧ 4 + c < 52 then 10 else 0) ≤ 99
      rw [if_neg (by omega), if_pos (by omega)]
      decide
  · rw [prj_10]
    refine s0_okP rfl rfl rfl ?_ (fun c hc => ?_)
    · show (0 : Int) ≤ 0 ∧ (0 : Int) ≤ 20
      decide
    · show (0 : Int) ≤ 0 ∧ (0 : Int) ≤ 99
      decide
  · show (0 : Int) ≤ 0 ∧ (0 : Int) ≤ 120
    decide
  · have e : prj s0 34 1 = 0 := rfl
    rw [e] at hi; omega
  · rcases hq with rfl | rfl | rfl | rfl <;> exact ⟨Or.inl rfl, ⟨Int.le_refl 0, by decide⟩, fun _ _ => (show (-9223372036854775808 : Int) ≤ 0 ∧ (0 : Int) < 9223372036854775808 from ⟨by decide, by decide⟩)⟩
  · show (0 : Int) ≤ 9999
    decide
  · show (0 : Int) ≤ 9999
    decide
  · have e : prj s0 34 1 = 0 := rfl
    rw [e] at hi; omega
