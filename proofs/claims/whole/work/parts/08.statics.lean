/-! arraycopy, statics, texts -/
theorem ev_cpyi {σ : ev_M} {k0 k : Nat} {sp dp n : Int} (h1 : 0 ≤ sp) (h2 : 0 ≤ dp) (h3 : 0 ≤ n) : va_cpy (fun j : Nat => Int32.ofInt (σ k0 j)) (fun j : Nat => Int32.ofInt (σ k j)) sp.toNat dp.toNat n.toNat = fun j : Nat => Int32.ofInt (mcp σ k0 sp k dp n k j) := by
  funext j
  by_cases h : dp ≤ (j : Int) ∧ (j : Int) < dp + n
  · simp only [va_cpy, mcp]
    rw [if_pos (by omega), if_pos ⟨trivial, h⟩]
    congr 2
    omega
  · simp only [va_cpy, mcp]
    rw [if_neg (by omega), if_neg (fun q => h q.2)]
theorem ev_cpyl {σ : ev_M} {k0 k : Nat} {sp dp n : Int} (h1 : 0 ≤ sp) (h2 : 0 ≤ dp) (h3 : 0 ≤ n) : va_cpy (fun j : Nat => Int64.ofInt (σ k0 j)) (fun j : Nat => Int64.ofInt (σ k j)) sp.toNat dp.toNat n.toNat = fun j : Nat => Int64.ofInt (mcp σ k0 sp k dp n k j) := by
  funext j
  by_cases h : dp ≤ (j : Int) ∧ (j : Int) < dp + n
  · simp only [va_cpy, mcp]
    rw [if_pos (by omega), if_pos ⟨trivial, h⟩]
    congr 2
    omega
  · simp only [va_cpy, mcp]
    rw [if_neg (by omega), if_neg (fun q => h q.2)]
theorem ev_nlt {z : Int} (h : 0 ≤ z ∧ z < 1000) : ¬ Int32.ofInt z < 0 := by
  rw [show (0 : Int32) = Int32.ofInt 0 from rfl, ev_lt (by omega) (by omega)]; omega
section EVA
variable {b : ev_B} {y z : ev_Y} {pc : Nat} {ls : List (Nat × ev_V)} {st stk : List ev_V} {σ : ev_M} {Q Q1 : Option ev_V → ev_M → Prop}
theorem ev_copyi {i k0 k1 n0 n1 : Nat} {sp dp n : Int} (hd : decode y.2.1 pc = .ok (.invokestatic i, 3)) (hw : Cond.methodLink y.1.cls i arraycopyName ∈ ev_gw) (hw2 : Cond.native arraycopyName ∈ lw_tbl ∧ goodWord (Cond.native arraycopyName) = true) (hw3 : Cond.static arraycopyName ∈ ev_gw) (hw4 : Cond.initialized "java/lang/System" ∈ ev_gw)
    (hk0 : ev_kds[k0]? = some (.inr (0, n0))) (hk1 : ev_kds[k1]? = some (.inr (0, n1))) (h1 : 0 ≤ sp) (h2 : 0 ≤ dp) (h3 : 0 ≤ n) (h4 : sp + n ≤ n0) (h5 : dp + n ≤ n1) (hR : 1 ≤ y.2.2.2.2.frames ∧ ev_wd st + (nativeFrameWords "java/lang/System" "arraycopy" 5 + 11) ≤ y.2.2.2.2.locals)
    (k : Ev b y (pc + 3) ls st (mcp σ k0 sp k1 dp n) Q) : Ev b y pc ls (vI n :: vI dp :: vR k1 :: vI sp :: vR k0 :: st) σ Q := by
  intro p l e s m args below meth c H locs cells slots A Z lsA C E hP hS hl
  have hF := C.2.2.2.2.2.2.2.1
  have hts := C.2.2.2.2.2.2.1
  have hn0 := ev_small _ _ _ hk0
  have hn1 := ev_small _ _ _ hk1
  refine va_copyi C.1 C.2.1 (C.2.2.1.trans hl.1.symm) C.2.2.2.2.2.1 (hts _ hw) (hts _ (ev_gm hw2.1 hw2.2)) (hts _ hw3) (hts _ hw4) hF.1 hP (ev_D hF σ) hS k0 k1 0 0 (ty := .int) (ev_at hk0) (ev_at hk1) rfl rfl rfl (ev_nlt (by omega)) (ev_nlt (by omega)) (ev_nlt (by omega)) (by rw [ev_nn (by omega), ev_nn (by omega)]; omega) (by rw [ev_nn (by omega), ev_nn (by omega)]; omega) (fun _ _ => rfl) hR.1 (by rw [ev_wd_cat hF.2.2.2.1]; exact hR.2) hd (fun H1 locs1 hP1 hD1 hS1 => ?_)
  refine k p l e s m args below meth c H1 locs1 cells slots A Z lsA C E ?_ hS1 hl
  rw [ev_nn (by omega), ev_nn (by omega), ev_nn (by omega), ev_cpyi h1 h2 h3] at hP1
  rw [← ev_set (b := b) (σ := σ) (τ := mcp σ k0 sp k1 dp n) hk1 (fun q hq => (mcp_ne hq).symm)]
  exact hP1
theorem ev_copyl {i k0 k1 n0 n1 : Nat} {sp dp n : Int} (hd : decode y.2.1 pc = .ok (.invokestatic i, 3)) (hw : Cond.methodLink y.1.cls i arraycopyName ∈ ev_gw) (hw2 : Cond.native arraycopyName ∈ lw_tbl ∧ goodWord (Cond.native arraycopyName) = true) (hw3 : Cond.static arraycopyName ∈ ev_gw) (hw4 : Cond.initialized "java/lang/System" ∈ ev_gw)
    (hk0 : ev_kds[k0]? = some (.inr (1, n0))) (hk1 : ev_kds[k1]? = some (.inr (1, n1))) (h1 : 0 ≤ sp) (h2 : 0 ≤ dp) (h3 : 0 ≤ n) (h4 : sp + n ≤ n0) (h5 : dp + n ≤ n1) (hR : 1 ≤ y.2.2.2.2.frames ∧ ev_wd st + (nativeFrameWords "java/lang/System" "arraycopy" 5 + 11) ≤ y.2.2.2.2.locals)
    (k : Ev b y (pc + 3) ls st (mcp σ k0 sp k1 dp n) Q) : Ev b y pc ls (vI n :: vI dp :: vR k1 :: vI sp :: vR k0 :: st) σ Q := by
  intro p l e s m args below meth c H locs cells slots A Z lsA C E hP hS hl
  have hF := C.2.2.2.2.2.2.2.1
  have hts := C.2.2.2.2.2.2.1
  have hn0 := ev_small _ _ _ hk0
  have hn1 := ev_small _ _ _ hk1
  refine va_copyl C.1 C.2.1 (C.2.2.1.trans hl.1.symm) C.2.2.2.2.2.1 (hts _ hw) (hts _ (ev_gm hw2.1 hw2.2)) (hts _ hw3) (hts _ hw4) hF.1 hP (ev_D hF σ) hS k0 k1 1 1 (ty := .long) (ev_at hk0) (ev_at hk1) rfl rfl rfl (ev_nlt (by omega)) (ev_nlt (by omega)) (ev_nlt (by omega)) (by rw [ev_nn (by omega), ev_nn (by omega)]; omega) (by rw [ev_nn (by omega), ev_nn (by omega)]; omega) (fun _ _ => rfl) hR.1 (by rw [ev_wd_cat hF.2.2.2.1]; exact hR.2) hd (fun H1 locs1 hP1 hD1 hS1 => ?_)
  refine k p l e s m args below meth c H1 locs1 cells slots A Z lsA C E ?_ hS1 hl
  rw [ev_nn (by omega), ev_nn (by omega), ev_nn (by omega), ev_cpyl h1 h2 h3] at hP1
  rw [← ev_set (b := b) (σ := σ) (τ := mcp σ k0 sp k1 dp n) hk1 (fun q hq => (mcp_ne hq).symm)]
  exact hP1
theorem ev_getKA (hd : decode y.2.1 pc = .ok (.getstatic 9, 3)) (hy : y.1.cls = RX1) (k : Ev b y (pc + 3) ls (vR 60 :: st) σ Q) : Ev b y pc ls st σ Q := by
  intro p l e s m args below meth c H locs cells slots A Z lsA C E hP hS hl
  have hF := C.2.2.2.2.2.2.2.1
  exact va_getsN (own := RX1) (ref := RX5) (host := RX5) C.1 C.2.1 hF.2.2.2.2.2.1 hS (by rw [← hy]; exact C.2.2.2.2.2.1) (va_Nw.use rfl (hF.2.1 _ (by simp [ev_nw]))) (fun _ h => h) hd (k p l e s m args below meth c H locs cells slots A Z lsA C E hP hS hl)
theorem ev_kald {i : Int} {v : Int} (hd : decode y.2.1 pc = .ok (.iaload, 1)) (hi : 0 ≤ i ∧ i < 6) (hv : ev_ka i.toNat = .int (Int32.ofInt v)) (k : Ev b y (pc + 1) ls (vI v :: st) σ Q) : Ev b y pc ls (vI i :: vR 60 :: st) σ Q := by
  intro p l e s m args below meth c H locs cells slots A Z lsA C E hP hS hl
  have hF := C.2.2.2.2.2.2.2.1
  refine va_ti (v := .int (Int32.ofInt v)) C.1 C.2.1 hF.2.2.2.2.2.2.1 hS (i := Int32.ofInt i) (ev_in (n := 6) hi (by decide)) ?_ hd (k p l e s m args below meth c H locs cells slots A Z lsA C E hP hS hl)
  rw [ev_nn (by omega)]; exact hv
theorem ev_getCS {i : Nat} (hd : decode y.2.1 pc = .ok (.getstatic i, 3)) (hw : Cond.fieldLink y.1.cls i RJ0 "COMPACT_STRINGS" "Z" ∈ ev_gw) (k : Ev b y (pc + 3) ls (vI 1 :: st) σ Q) : Ev b y pc ls st σ Q := by
  intro p l e s m args below meth c H locs cells slots A Z lsA C E hP hS hl
  have hF := C.2.2.2.2.2.2.2.1
  exact va_gets (ref := RJ0) C.1 C.2.1 hF.2.2.2.2.2.2.2.2.1 hS C.2.2.2.2.2.1 (C.2.2.2.2.2.2.1 _ hw) (fun _ h => h) hd (k p l e s m args below meth c H locs cells slots A Z lsA C E hP hS hl)
theorem ev_getSF {i : Nat} (hd : decode y.2.1 pc = .ok (.getstatic i, 3)) (hw : Cond.fieldLink y.1.cls i RJ3 "SIOOBE_FORMATTER" "Ljava/util/function/BiFunction;" ∈ ev_gw) (k : Ev b y (pc + 3) ls (vX :: st) σ Q) : Ev b y pc ls st σ Q := by
  intro p l e s m args below meth c H locs cells slots A Z lsA C E hP hS hl
  have hF := C.2.2.2.2.2.2.2.1
  exact va_gets (ref := RJ3) C.1 C.2.1 hF.2.2.2.2.2.2.2.2.2.1 hS C.2.2.2.2.2.1 (C.2.2.2.2.2.2.1 _ hw) (fun _ h => h) hd (k p l e s m args below meth c H locs cells slots A Z lsA C E hP hS hl)
theorem ev_getTc {i j : Nat} (hd : decode y.2.1 pc = .ok (.getfield i, 3)) (hw : Cond.fieldLink y.1.cls i RJ0 "coder" "B" ∈ ev_gw) (hj : j < 13) (k : Ev b y (pc + 3) ls (vI 0 :: st) σ Q) : Ev b y pc ls (vR (61 + j) :: st) σ Q := by
  intro p l e s m args below meth c H locs cells slots A Z lsA C E hP hS hl
  have hF := C.2.2.2.2.2.2.2.1
  exact vk_getf (ref := RJ0) C.1 C.2.1 (hF.2.2.2.2.2.2.2.1.1 j hj).2.1 hS C.2.2.2.2.2.1 (C.2.2.2.2.2.2.1 _ hw) (fun _ h => h) hd (k p l e s m args below meth c H locs cells slots A Z lsA C E hP hS hl)
theorem ev_getTv {i j : Nat} (hd : decode y.2.1 pc = .ok (.getfield i, 3)) (hw : Cond.fieldLink y.1.cls i RJ0 "value" "[B" ∈ ev_gw) (hj : j < 13) (k : Ev b y (pc + 3) ls (vR (80 + j) :: st) σ Q) : Ev b y pc ls (vR (61 + j) :: st) σ Q := by
  intro p l e s m args below meth c H locs cells slots A Z lsA C E hP hS hl
  have hF := C.2.2.2.2.2.2.2.1
  exact vk_getf (ref := RJ0) C.1 C.2.1 (hF.2.2.2.2.2.2.2.1.1 j hj).2.2.1 hS C.2.2.2.2.2.1 (C.2.2.2.2.2.2.1 _ hw) (fun _ h => h) hd (k p l e s m args below meth c H locs cells slots A Z lsA C E hP hS hl)
theorem ev_tlen {j : Nat} (hd : decode y.2.1 pc = .ok (.arraylength, 1)) (hj : j < 13) (k : Ev b y (pc + 1) ls (vI (ev_sl.getD j 0) :: st) σ Q) : Ev b y pc ls (vR (80 + j) :: st) σ Q := by
  intro p l e s m args below meth c H locs cells slots A Z lsA C E hP hS hl
  have hF := C.2.2.2.2.2.2.2.1
  exact va_tlen (v := Int32.ofInt (ev_sl.getD j 0)) C.1 C.2.1 (hF.2.2.2.2.2.2.2.1.1 j hj).2.2.2 hS (by rfl) hd (k p l e s m args below meth c H locs cells slots A Z lsA C E hP hS hl)
theorem ev_tbyte {j : Nat} {i : Int} (hd : decode y.2.1 pc = .ok (.baload, 1)) (hj : j < 13) (hi : 0 ≤ i ∧ i < (ev_sl.getD j 0 : Nat)) (k : Ev b y (pc + 1) ls (vI ((ev_sb.getD j []).getD i.toNat 0).toInt :: st) σ Q) : Ev b y pc ls (vI i :: vR (80 + j) :: st) σ Q := by
  intro p l e s m args below meth c H locs cells slots A Z lsA C E hP hS hl
  have hF := C.2.2.2.2.2.2.2.1
  have hsm : ∀ j, j < 13 → ev_sl.getD j 0 < 1000 := by decide
  refine va_tb (v := .int (Int32.ofInt ((ev_sb.getD j []).getD i.toNat 0).toInt)) C.1 C.2.1 (hF.2.2.2.2.2.2.2.1.1 j hj).2.2.2 hS (i := Int32.ofInt i) (ev_in hi (hsm j hj)) ?_ hd (k p l e s m args below meth c H locs cells slots A Z lsA C E hP hS hl)
  have := hsm j hj
  rw [ev_nn (by omega), Int32.ofInt_toInt]
theorem ev_mmax {i : Nat} {x z : Int} (hd : decode y.2.1 pc = .ok (.invokestatic i, 3)) (hw : Cond.methodLink y.1.cls i Lib.Math.max.name ∈ ev_gw) (hw2 : Cond.static Lib.Math.max.name ∈ ev_gw ∧ Cond.initialized "java/lang/Math" ∈ ev_gw ∧ Cond.code Lib.Math.max.name Lib.Math.max.code 2 (some .int) ∈ ev_gw) (hx : -2147483648 ≤ x ∧ x < 2147483648) (hz : -2147483648 ≤ z ∧ z < 2147483648) (hR : 1 ≤ y.2.2.2.2.frames ∧ ev_wd st + 13 ≤ y.2.2.2.2.locals) (k : Ev b y (pc + 3) ls (vI (max x z) :: st) σ Q) : Ev b y pc ls (vI z :: vI x :: st) σ Q := by
  intro p l e s m args below meth c H locs cells slots A Z lsA C E hP hS hl
  have hF := C.2.2.2.2.2.2.2.1
  have hts := C.2.2.2.2.2.2.1
  refine va_mmax C.1 C.2.1 (C.2.2.1.trans hl.1.symm) C.2.2.2.2.2.1 (hts _ hw) (hts _ hw2.1) (hts _ hw2.2.1) (hts _ hw2.2.2) hR.1 (by rw [ev_wd_cat hF.2.2.2.1]; exact hR.2) C.2.2.2.2.2.2.2.2.1 C.2.2.2.2.2.2.2.2.2 hd ?_
  have e1 : (if Int32.ofInt x < Int32.ofInt z then Int32.ofInt z else Int32.ofInt x) = Int32.ofInt (max x z) := by
    by_cases h : x < z
    · rw [if_pos ((ev_lt hx hz).mpr h), show max x z = z by omega]
    · rw [if_neg (fun q => h ((ev_lt hx hz).mp q)), show max x z = x by omega]
  rw [e1]
  exact k p l e s m args below meth c H locs cells slots A Z lsA C E hP hS hl
theorem ev_mmin {i : Nat} {x z : Int} (hd : decode y.2.1 pc = .ok (.invokestatic i, 3)) (hw : Cond.methodLink y.1.cls i Lib.Math.min.name ∈ ev_gw) (hw2 : Cond.static Lib.Math.min.name ∈ ev_gw ∧ Cond.initialized "java/lang/Math" ∈ ev_gw ∧ Cond.code Lib.Math.min.name Lib.Math.min.code 2 (some .int) ∈ ev_gw) (hx : -2147483648 ≤ x ∧ x < 2147483648) (hz : -2147483648 ≤ z ∧ z < 2147483648) (hR : 1 ≤ y.2.2.2.2.frames ∧ ev_wd st + 13 ≤ y.2.2.2.2.locals) (k : Ev b y (pc + 3) ls (vI (min x z) :: st) σ Q) : Ev b y pc ls (vI z :: vI x :: st) σ Q := by
  intro p l e s m args below meth c H locs cells slots A Z lsA C E hP hS hl
  have hF := C.2.2.2.2.2.2.2.1
  have hts := C.2.2.2.2.2.2.1
  refine va_mmin C.1 C.2.1 (C.2.2.1.trans hl.1.symm) C.2.2.2.2.2.1 (hts _ hw) (hts _ hw2.1) (hts _ hw2.2.1) (hts _ hw2.2.2) hR.1 (by rw [ev_wd_cat hF.2.2.2.1]; exact hR.2) C.2.2.2.2.2.2.2.2.1 C.2.2.2.2.2.2.2.2.2 hd ?_
  have e1 : (if Int32.ofInt z < Int32.ofInt x then Int32.ofInt z else Int32.ofInt x) = Int32.ofInt (min x z) := by
    by_cases h : z < x
    · rw [if_pos ((ev_lt hz hx).mpr h), show min x z = z by omega]
    · rw [if_neg (fun q => h ((ev_lt hz hx).mp q)), show min x z = x by omega]
  rw [e1]
  exact k p l e s m args below meth c H locs cells slots A Z lsA C E hP hS hl
theorem ev_mabs {i : Nat} {x : Int} (hd : decode y.2.1 pc = .ok (.invokestatic i, 3)) (hw : Cond.methodLink y.1.cls i Lib.Math.abs.name ∈ ev_gw) (hw2 : Cond.static Lib.Math.abs.name ∈ ev_gw ∧ Cond.initialized "java/lang/Math" ∈ ev_gw ∧ Cond.code Lib.Math.abs.name Lib.Math.abs.code 1 (some .int) ∈ ev_gw) (hx : -2147483648 ≤ x ∧ x < 2147483648) (hR : 1 ≤ y.2.2.2.2.frames ∧ ev_wd st + 13 ≤ y.2.2.2.2.locals) (k : Ev b y (pc + 3) ls (vI (max x (-x)) :: st) σ Q) : Ev b y pc ls (vI x :: st) σ Q := by
  intro p l e s m args below meth c H locs cells slots A Z lsA C E hP hS hl
  have hF := C.2.2.2.2.2.2.2.1
  have hts := C.2.2.2.2.2.2.1
  refine va_mabs C.1 C.2.1 (C.2.2.1.trans hl.1.symm) C.2.2.2.2.2.1 (hts _ hw) (hts _ hw2.1) (hts _ hw2.2.1) (hts _ hw2.2.2) hR.1 (by rw [ev_wd_cat hF.2.2.2.1]; exact hR.2) C.2.2.2.2.2.2.2.2.1 C.2.2.2.2.2.2.2.2.2 hd ?_
  have e1 : (if 0 ≤ Int32.ofInt x then Int32.ofInt x else 0 - Int32.ofInt x) = Int32.ofInt (max x (-x)) := by
    have h0 : (0 : Int32) ≤ Int32.ofInt x ↔ 0 ≤ x := ev_le (x := 0) (by decide) hx
    by_cases h : 0 ≤ x
    · rw [if_pos (h0.mpr h), show max x (-x) = x by omega]
    · rw [if_neg (fun q => h (h0.mp q)), show max x (-x) = 0 - x by omega, Int32.ofInt_sub]; rfl
  rw [e1]
  exact k p l e s m args below meth c H locs cells slots A Z lsA C E hP hS hl
end EVA
