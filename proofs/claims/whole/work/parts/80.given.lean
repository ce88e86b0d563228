/-! what the Statement gives of the start -/
theorem t_ka : Cond.laysStatic RX5 "KIND_ABOVE" "[I" ∈ lw_tbl := (ev_t2 86 rfl)
theorem t_cs : Cond.laysStatic RJ0 "COMPACT_STRINGS" "Z" ∈ lw_tbl := (ev_t3 81 rfl)
theorem t_sf : Cond.laysStatic RJ3 "SIOOBE_FORMATTER" "Ljava/util/function/BiFunction;" ∈ lw_tbl := (ev_t3 97 rfl)
theorem t_i0 : Cond.initialized RJ0 ∈ lw_tbl := (ev_t1 12 rfl)
theorem t_i3 : Cond.initialized RJ3 ∈ lw_tbl := (ev_t1 14 rfl)
theorem t_i5 : Cond.initialized RX5 ∈ lw_tbl := (ev_t1 1 rfl)
theorem t_n0 : Cond.methodLinkNest RX0 105 yX5_distanceOf RX5 ∈ lw_tbl := (ev_t2 18 rfl)
theorem t_n1 : Cond.methodLinkNest RX2 76 yX5_sumOf RX5 ∈ lw_tbl := (ev_t2 158 rfl)
theorem t_n2 : Cond.methodLinkNest RX4 111 yX5_isWithin RX5 ∈ lw_tbl := (ev_t3 134 rfl)
theorem t_n3 : Cond.fieldLinkNest RX1 9 RX5 "KIND_ABOVE" "[I" RX5 ∈ lw_tbl := (ev_t2 85 rfl)
theorem t_s0 : Cond.stringRef RX4 129 "sitter" ∈ lw_tbl := (ev_t3 67 rfl)
theorem t_s1 : Cond.stringRef RX4 119 "bailiff" ∈ lw_tbl := (ev_t3 62 rfl)
theorem t_s2 : Cond.stringRef RX4 121 "laughed" ∈ lw_tbl := (ev_t3 63 rfl)
theorem t_s3 : Cond.stringRef RX4 123 "dead" ∈ lw_tbl := (ev_t3 64 rfl)
theorem t_s4 : Cond.stringRef RX4 125 "lady" ∈ lw_tbl := (ev_t3 65 rfl)
theorem t_s5 : Cond.stringRef RX4 127 "stranger" ∈ lw_tbl := (ev_t3 66 rfl)
theorem t_s6 : Cond.stringRef RX4 71 "temper" ∈ lw_tbl := (ev_t3 125 rfl)
theorem t_s7 : Cond.stringRef RX4 86 "fee" ∈ lw_tbl := (ev_t3 135 rfl)
theorem t_s8 : Cond.stringRef RX4 43 "likeness" ∈ lw_tbl := (ev_t3 136 rfl)
theorem t_s9 : Cond.stringRef RX4 94 "at" ∈ lw_tbl := (ev_t3 141 rfl)
theorem t_s10 : Cond.stringRef RX4 52 "wheat" ∈ lw_tbl := (ev_t3 143 rfl)
theorem t_s11 : Cond.stringRef RX4 100 "to" ∈ lw_tbl := (ev_t3 148 rfl)
theorem t_s12 : Cond.stringRef RX4 57 "crows" ∈ lw_tbl := (ev_t3 149 rfl)
theorem ev_gt {w : Cond} (h : w ∈ ev_gw) : w ∈ lw_tbl := (List.mem_filter.mp h).1
def stm (i : Nat) : Term := .string RX4 (ev_sn.getD i (0, "")).1
abbrev fl1 : List Cond := flatC (Jvm.Cond.and given_1 narrow_1)
set_option maxRecDepth 100000 in
theorem fl_ex : ∀ i : Nat, i < 13 → Cond.exactly (stm i) "java/lang/String" ∈ fl1 := by decide +kernel
set_option maxRecDepth 100000 in
theorem fl_co : ∀ i : Nat, i < 13 → Cond.eq (.field (stm i) "java/lang/String" "coder" "B") (.int 0) ∈ fl1 := by decide +kernel
set_option maxRecDepth 100000 in
theorem fl_ar : ∀ i : Nat, i < 13 → Cond.arrayOf (.field (stm i) "java/lang/String" "value" "[B") .byte ∈ fl1 := by decide +kernel
set_option maxRecDepth 100000 in
theorem fl_le : ∀ i : Nat, i < 13 → Cond.eq (.length (.field (stm i) "java/lang/String" "value" "[B")) (.int (Int32.ofNat (ev_sl.getD i 0))) ∈ fl1 := by decide +kernel
set_option maxRecDepth 100000 in
theorem fl_el : ∀ i : Nat, i < 13 → ∀ j : Nat, j < ev_sl.getD i 0 → Cond.eq (.elem (.field (stm i) "java/lang/String" "value" "[B") (.int (Int32.ofNat j))) (.int ((ev_sb.getD i []).getD j 0)) ∈ fl1 := by decide +kernel
set_option maxRecDepth 100000 in
theorem fl_ne : ∀ i : Nat, i < 13 → ∀ j : Nat, j < 13 → i ≠ j → Cond.not (Cond.eq (stm i) (stm j)) ∈ fl1 ∨ Cond.not (Cond.eq (stm j) (stm i)) ∈ fl1 := by decide +kernel
set_option maxRecDepth 100000 in
theorem fl_k : Cond.arrayOf (.static RX5 "KIND_ABOVE" "[I") .int ∈ fl1 ∧ Cond.eq (.length (.static RX5 "KIND_ABOVE" "[I")) (.int (Int32.ofNat 6)) ∈ fl1 ∧ Cond.eq (.static RJ0 "COMPACT_STRINGS" "Z") (.int 1) ∈ fl1 ∧ Cond.isRef (.static RJ3 "SIOOBE_FORMATTER" "Ljava/util/function/BiFunction;") ∈ fl1 := by decide +kernel
set_option maxRecDepth 100000 in
theorem fl_ke : ∀ j : Nat, j < 6 → Cond.eq (.elem (.static RX5 "KIND_ABOVE" "[I") (.int (Int32.ofNat j))) (.int (([-1, 0, 0, 0, 2, 3] : List Int32).getD j 0)) ∈ fl1 := by decide +kernel
theorem st_sn {s : State} {b : Nat} (hts : ∀ w ∈ lw_tbl, w.before #[Value.ref b] s = true) : ∀ (i : Nat) (q : Nat × String), ev_sn[i]? = some q → (Cond.stringRef RX4 q.1 q.2).before #[Value.ref b] s = true := by
  intro i q h
  have hi : i < 13 := (List.getElem?_eq_some_iff.mp h).1
  rcases (show i = 0 ∨ i = 1 ∨ i = 2 ∨ i = 3 ∨ i = 4 ∨ i = 5 ∨ i = 6 ∨ i = 7 ∨ i = 8 ∨ i = 9 ∨ i = 10 ∨ i = 11 ∨ i = 12 by omega) with rfl | rfl | rfl | rfl | rfl | rfl | rfl | rfl | rfl | rfl | rfl | rfl | rfl
  · cases h; exact hts _ t_s0
  · cases h; exact hts _ t_s1
  · cases h; exact hts _ t_s2
  · cases h; exact hts _ t_s3
  · cases h; exact hts _ t_s4
  · cases h; exact hts _ t_s5
  · cases h; exact hts _ t_s6
  · cases h; exact hts _ t_s7
  · cases h; exact hts _ t_s8
  · cases h; exact hts _ t_s9
  · cases h; exact hts _ t_s10
  · cases h; exact hts _ t_s11
  · cases h; exact hts _ t_s12
/-- the facts of the start -/
def stF (s : State) (b L : Nat) (xs : Nat → Int32) (D : va_G) (cs : Nat → ClassId) (fv : Value) (a6 : Nat) (adK adV : Nat → Nat) (A : Nat → Prop) : Prop :=
  kF D cs s ∧ (∀ w ∈ ev_nw, va_Nw w s) ∧ (fv = .null ∨ ∃ a, fv = .ref a) ∧ (∀ (i : Nat) (q : Nat × String), ev_sn[i]? = some q → vk_R RX4 q.1 q.2 (adK i) s) ∧
  va_Z RX5 "KIND_ABOVE" "[I" (.ref a6) A s s.heap ∧ va_T .int a6 6 ev_ka A s s.heap ∧ vk_S 13 ev_sl ev_sb adK adV A s s.heap ∧ va_Z RJ0 "COMPACT_STRINGS" "Z" (.int 1) A s s.heap ∧ va_Z RJ3 "SIOOBE_FORMATTER" "Ljava/util/function/BiFunction;" fv A s s.heap ∧ va_T .int b L (fun j => .int (Int32.ofInt (xs j).toInt)) A s s.heap
theorem st_all {s : State} {b L : Nat} {xs : Nat → Int32} {A : Nat → Prop} (hL : L ≤ 3072) (hA : ∀ a : Nat, a < s.heap.size → ¬ A a) (hts : ∀ w ∈ lw_tbl, w.before #[Value.ref b] s = true) (hgv : (Jvm.Cond.and given_1 narrow_1).before #[Value.ref b] s = true) (hX : va_X b L xs s s.heap) (hbl : b < s.heap.size) : ∃ (D : va_G) (cs : Nat → ClassId) (fv : Value) (a6 : Nat) (adK adV : Nat → Nat), stF s b L xs D cs fv a6 adK adV A := by
  have hs := flat_of_before _ hgv
  have kn : ∀ {C : String} {T : u_T} {N : Nat}, (∀ w ∈ u_ws C T N, w ∈ ev_gw) → Cond.instantiable C N ∈ ev_gw → ∃ (cC : ClassId) (iS : Nat → Nat), u_Kn s C T N cC iS := fun h1 h2 => u_known hts (fun w hw => ev_gt (h1 w hw)) (hts _ (ev_gt h2))
  obtain ⟨c0, i0, k0⟩ := kn iwX0 kiX0
  obtain ⟨c1, i1, k1⟩ := kn iwX2 kiX2
  obtain ⟨c2, i2, k2⟩ := kn iwX3 kiX3
  obtain ⟨c3, i3, k3⟩ := kn iwX4 kiX4
  obtain ⟨c4, i4, k4⟩ := kn iwX5 kiX5
  obtain ⟨c5, i5, k5⟩ := kn iwX6 kiX6
  obtain ⟨aI, kI, pI, f1, f2, f3⟩ := Cond.arrayClass_spec (hts _ (ev_gt ka_i))
  obtain ⟨aL, kL, pL, g1, g2, g3⟩ := Cond.arrayClass_spec (hts _ (ev_gt ka_l))
  obtain ⟨pO, aO, kO, o1, o2, o3, o4, o5⟩ := Cond.arrayOver_spec (hts _ ka_o)
  obtain ⟨adK, adV, hS, hE⟩ := vk_Sof (N := 13) (tm := stm) (len := ev_sl) (byt := ev_sb) (A := A) (by decide) (fun i hi => hs _ (fl_ex i hi)) (fun i hi => hs _ (fl_co i hi)) (fun i hi => hs _ (fl_ar i hi)) (fun i hi => hs _ (fl_le i hi)) (fun i hi j hj => hs _ (fl_el i hi j hj)) (fun i j hi hj hij => (fl_ne i hi j hj hij).elim (fun h => Or.inl (hs _ h)) (fun h => Or.inr (hs _ h))) hA
  obtain ⟨a6, e6, T6⟩ := va_Tof (tm := .static RX5 "KIND_ABOVE" "[I") (ty := .int) (N := 6) (f := ev_ka) (A := A) (by decide) (hs _ fl_k.1) (va_eqt (hs _ fl_k.2.1)) (fun j hj => va_eqt (hs _ (fl_ke j hj))) hA
  have zq := va_Zqof (A := A) (hts _ t_sf) (hts _ t_i3) (hs _ fl_k.2.2.2) hA
  have zf : ∃ fv : Value, (fv = .null ∨ ∃ a, fv = .ref a) ∧ va_Z RJ3 "SIOOBE_FORMATTER" "Ljava/util/function/BiFunction;" fv A s s.heap := by
    rcases zq with h | ⟨t, h⟩
    · exact ⟨_, Or.inl rfl, h⟩
    · exact ⟨_, Or.inr ⟨t, rfl⟩, h⟩
  obtain ⟨fv, hfv, zf⟩ := zf
  refine ⟨(fun c => [c0, c1, c2, c3, c4, c5].getD c c0, fun c => [i0, i1, i2, i3, i4, i5].getD c i0), fun k => [aI, aL, aO].getD k aI, fv, a6, adK, adV, ⟨⟨fun c q hq => ?_, fun k q hq => ?_⟩, fun w hw => ?_, hts _ ka_o⟩, fun w hw => ?_, hfv, fun i q hq => ?_, va_Zof (hts _ t_ka) (hts _ t_i5) e6 hA, T6, hS, va_Zof (hts _ t_cs) (hts _ t_i0) (va_eqt (hs _ fl_k.2.2.1)) hA, zf, ?_⟩
  · have hc : c < 6 := (List.getElem?_eq_some_iff.mp hq).1
    rcases (show c = 0 ∨ c = 1 ∨ c = 2 ∨ c = 3 ∨ c = 4 ∨ c = 5 by omega) with rfl | rfl | rfl | rfl | rfl | rfl
    · cases hq; exact k0
    · cases hq; exact k1
    · cases hq; exact k2
    · cases hq; exact k3
    · cases hq; exact k4
    · cases hq; exact k5
  · have hk : k < 3 := (List.getElem?_eq_some_iff.mp hq).1
    rcases (show k = 0 ∨ k = 1 ∨ k = 2 by omega) with rfl | rfl | rfl
    · cases hq; exact ⟨fun n z => ⟨fun k h => (by cases h), kI, f2, pI, f3⟩, f1⟩
    · cases hq; exact ⟨fun n z => ⟨fun k h => (by cases h), kL, g2, pL, g3⟩, g1⟩
    · cases hq; exact ⟨fun n z => ⟨fun k h => (by cases h), kO, o3, pO, o4⟩, ⟨kO, pO, o3, o4, o1, o5⟩⟩
  · simp only [kb_nw, List.mem_cons, List.not_mem_nil, or_false] at hw
    rcases hw with rfl | rfl | rfl
    · exact va_any rfl (hts _ kxX0)
    · exact va_any rfl (hts _ kxX4)
    · exact va_any rfl (hts _ kxX3)
  · simp only [ev_nw, List.mem_cons, List.not_mem_nil, or_false] at hw
    rcases hw with rfl | rfl | rfl | rfl
    · exact va_any rfl (hts _ t_n0)
    · exact va_any rfl (hts _ t_n1)
    · exact va_any rfl (hts _ t_n2)
    · exact va_any rfl (hts _ t_n3)
  · have hi : i < 13 := (List.getElem?_eq_some_iff.mp hq).1
    have e : stm i = .string RX4 q.1 := by unfold stm; rw [List.getD_eq_getElem?_getD, hq]; rfl
    have h2 := hE i hi
    rw [e] at h2
    exact vk_R.of (st_sn hts i q hq) h2
  · obtain ⟨scr, h1, h2, h3, h4, h5⟩ := hX
    exact ⟨scr, h1, h2, h3, by omega, by rw [h4], fun j hj => by
      rw [h5 j hj]
      show some (Value.int (xs j)) = some (Value.int (Int32.ofInt (xs j).toInt))
      rw [Int32.ofInt_toInt], hA b hbl⟩
