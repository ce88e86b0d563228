/-! numbers, fields, arrays -/
def cmpI (x z : Int) : Int := if z < x then 1 else if x = z then 0 else -1
theorem cmpI_in (x z : Int) : -2147483648 ≤ cmpI x z ∧ cmpI x z < 2147483648 := by
  unfold cmpI; split
  · decide
  · split <;> decide
theorem ev_cmp {x z : Int} (hx : -9223372036854775808 ≤ x ∧ x < 9223372036854775808) (hz : -9223372036854775808 ≤ z ∧ z < 9223372036854775808) : lg_cmp (Int64.ofInt x) (Int64.ofInt z) = Int32.ofInt (cmpI x z) := by
  have h1 : (Int64.ofInt x > Int64.ofInt z) ↔ z < x := by
    show Int64.ofInt z < Int64.ofInt x ↔ _
    rw [Int64.lt_iff_toInt_lt, ev_tl hx, ev_tl hz]
  have h2 : (Int64.ofInt x = Int64.ofInt z) ↔ x = z := by
    rw [← Int64.toInt_inj, ev_tl hx, ev_tl hz]
  unfold lg_cmp cmpI
  by_cases a : z < x
  · rw [if_pos (h1.mpr a), if_pos a]; rfl
  · rw [if_neg (fun q => a (h1.mp q)), if_neg a]
    by_cases c : x = z
    · rw [if_pos (h2.mpr c), if_pos c]; rfl
    · rw [if_neg (fun q => c (h2.mp q)), if_neg c]; rfl
theorem ev_dv {x z : Int} (hx : 0 ≤ x ∧ x < 2147483648) (hz : 0 < z ∧ z < 2147483648) : Int32.ofInt x / Int32.ofInt z = Int32.ofInt (x / z) := by
  have h0 : 0 ≤ x / z := Int.ediv_nonneg hx.1 (by omega)
  have h1 : x / z ≤ x := Int.ediv_le_self z hx.1
  rw [← Int32.toInt_inj, Int32.toInt_div, ev_ti (by omega), ev_ti (by omega), ev_ti (by omega), Int.tdiv_eq_ediv_of_nonneg hx.1, Int.bmod_def]
  split <;> omega
theorem ev_rm {x z : Int} (hx : 0 ≤ x ∧ x < 2147483648) (hz : 0 < z ∧ z < 2147483648) : Int32.ofInt x - Int32.ofInt x / Int32.ofInt z * Int32.ofInt z = Int32.ofInt (x % z) := by
  rw [ev_dv hx hz, ← Int32.ofInt_mul, ← Int32.ofInt_sub]
  congr 1
  have := Int.mul_ediv_add_emod x z
  rw [Int.mul_comm]
  omega
theorem ev_ne0 {z : Int} (hz : 0 < z ∧ z < 2147483648) : ¬ Int32.ofInt z = 0 := by
  rw [show (0 : Int32) = Int32.ofInt 0 from rfl, ev_eq (by omega) (by omega)]; omega
section EVS
variable {b : ev_B} {y : ev_Y} {pc : Nat} {ls : List (Nat × ev_V)} {st : List ev_V} {σ : ev_M} {Q : Option ev_V → ev_M → Prop}
theorem ev_idiv {x z : Int} (hd : decode y.2.1 pc = .ok (.idiv, 1)) (hx : 0 ≤ x ∧ x < 2147483648) (hz : 0 < z ∧ z < 2147483648) (k : Ev b y (pc + 1) ls (vI (x / z) :: st) σ Q) : Ev b y pc ls (vI z :: vI x :: st) σ Q := by
  intro p l e s m args below meth c H locs cells slots A Z lsA C E hP hS hl
  refine lv_idiv C.1 C.2.1 hd (ev_ne0 hz) ?_
  rw [ev_dv hx hz]
  exact k p l e s m args below meth c H locs cells slots A Z lsA C E hP hS hl
theorem ev_irem {x z : Int} (hd : decode y.2.1 pc = .ok (.irem, 1)) (hx : 0 ≤ x ∧ x < 2147483648) (hz : 0 < z ∧ z < 2147483648) (k : Ev b y (pc + 1) ls (vI (x % z) :: st) σ Q) : Ev b y pc ls (vI z :: vI x :: st) σ Q := by
  intro p l e s m args below meth c H locs cells slots A Z lsA C E hP hS hl
  refine lv_irem C.1 C.2.1 hd (ev_ne0 hz) ?_
  rw [ev_rm hx hz]
  exact k p l e s m args below meth c H locs cells slots A Z lsA C E hP hS hl
theorem ev_iand {x z w : Int} (hd : decode y.2.1 pc = .ok (.iand, 1)) (hw : Int32.ofInt x &&& Int32.ofInt z = Int32.ofInt w) (k : Ev b y (pc + 1) ls (vI w :: st) σ Q) : Ev b y pc ls (vI z :: vI x :: st) σ Q := by
  intro p l e s m args below meth c H locs cells slots A Z lsA C E hP hS hl
  refine lv_iand C.1 C.2.1 hd ?_
  rw [hw]
  exact k p l e s m args below meth c H locs cells slots A Z lsA C E hP hS hl
theorem ev_ior {x z w : Int} (hd : decode y.2.1 pc = .ok (.ior, 1)) (hw : Int32.ofInt x ||| Int32.ofInt z = Int32.ofInt w) (k : Ev b y (pc + 1) ls (vI w :: st) σ Q) : Ev b y pc ls (vI z :: vI x :: st) σ Q := by
  intro p l e s m args below meth c H locs cells slots A Z lsA C E hP hS hl
  refine lv_ior C.1 C.2.1 hd ?_
  rw [hw]
  exact k p l e s m args below meth c H locs cells slots A Z lsA C E hP hS hl
theorem ev_ixor {x z w : Int} (hd : decode y.2.1 pc = .ok (.ixor, 1)) (hw : Int32.ofInt x ^^^ Int32.ofInt z = Int32.ofInt w) (k : Ev b y (pc + 1) ls (vI w :: st) σ Q) : Ev b y pc ls (vI z :: vI x :: st) σ Q := by
  intro p l e s m args below meth c H locs cells slots A Z lsA C E hP hS hl
  refine lv_ixor C.1 C.2.1 hd ?_
  rw [hw]
  exact k p l e s m args below meth c H locs cells slots A Z lsA C E hP hS hl
theorem ev_ishl {x z w : Int} (hd : decode y.2.1 pc = .ok (.ishl, 1)) (hw : Int32.ofInt x <<< (Int32.ofInt z &&& 31) = Int32.ofInt w) (k : Ev b y (pc + 1) ls (vI w :: st) σ Q) : Ev b y pc ls (vI z :: vI x :: st) σ Q := by
  intro p l e s m args below meth c H locs cells slots A Z lsA C E hP hS hl
  refine lv_ishl C.1 C.2.1 hd ?_
  rw [hw]
  exact k p l e s m args below meth c H locs cells slots A Z lsA C E hP hS hl
theorem ev_ishr {x z w : Int} (hd : decode y.2.1 pc = .ok (.ishr, 1)) (hw : Int32.ofInt x >>> (Int32.ofInt z &&& 31) = Int32.ofInt w) (k : Ev b y (pc + 1) ls (vI w :: st) σ Q) : Ev b y pc ls (vI z :: vI x :: st) σ Q := by
  intro p l e s m args below meth c H locs cells slots A Z lsA C E hP hS hl
  refine lv_ishr C.1 C.2.1 hd ?_
  rw [hw]
  exact k p l e s m args below meth c H locs cells slots A Z lsA C E hP hS hl
theorem ev_iushr {x z w : Int} (hd : decode y.2.1 pc = .ok (.iushr, 1)) (hw : ((Int32.ofInt x).toUInt32 >>> ((Int32.ofInt z).toUInt32 &&& Int32.toUInt32 31)).toInt32 = Int32.ofInt w) (k : Ev b y (pc + 1) ls (vI w :: st) σ Q) : Ev b y pc ls (vI z :: vI x :: st) σ Q := by
  intro p l e s m args below meth c H locs cells slots A Z lsA C E hP hS hl
  exact lv_iushr C.1 C.2.1 hd hw (k p l e s m args below meth c H locs cells slots A Z lsA C E hP hS hl)
theorem ev_lshl {x z w : Int} (hd : decode y.2.1 pc = .ok (.lshl, 1)) (hw : Int64.ofInt x <<< ((Int32.ofInt z).toInt64 &&& 63) = Int64.ofInt w) (k : Ev b y (pc + 1) ls (vL w :: st) σ Q) : Ev b y pc ls (vI z :: vL x :: st) σ Q := by
  intro p l e s m args below meth c H locs cells slots A Z lsA C E hP hS hl
  exact lv_lshl C.1 C.2.1 hd hw (k p l e s m args below meth c H locs cells slots A Z lsA C E hP hS hl)
theorem ev_land {x z w : Int} (hd : decode y.2.1 pc = .ok (.land, 1)) (hw : Int64.ofInt x &&& Int64.ofInt z = Int64.ofInt w) (k : Ev b y (pc + 1) ls (vL w :: st) σ Q) : Ev b y pc ls (vL z :: vL x :: st) σ Q := by
  intro p l e s m args below meth c H locs cells slots A Z lsA C E hP hS hl
  refine lv_land C.1 C.2.1 hd ?_
  rw [hw]
  exact k p l e s m args below meth c H locs cells slots A Z lsA C E hP hS hl
theorem ev_lor {x z w : Int} (hd : decode y.2.1 pc = .ok (.lor, 1)) (hw : Int64.ofInt x ||| Int64.ofInt z = Int64.ofInt w) (k : Ev b y (pc + 1) ls (vL w :: st) σ Q) : Ev b y pc ls (vL z :: vL x :: st) σ Q := by
  intro p l e s m args below meth c H locs cells slots A Z lsA C E hP hS hl
  refine lv_lor C.1 C.2.1 hd ?_
  rw [hw]
  exact k p l e s m args below meth c H locs cells slots A Z lsA C E hP hS hl
theorem ev_i2b {x w : Int} (hd : decode y.2.1 pc = .ok (.i2b, 1)) (hw : (Int32.ofInt x).toInt8.toInt32 = Int32.ofInt w) (k : Ev b y (pc + 1) ls (vI w :: st) σ Q) : Ev b y pc ls (vI x :: st) σ Q := by
  intro p l e s m args below meth c H locs cells slots A Z lsA C E hP hS hl
  exact lv_i2b C.1 C.2.1 hd hw (k p l e s m args below meth c H locs cells slots A Z lsA C E hP hS hl)
theorem ev_i2s {x w : Int} (hd : decode y.2.1 pc = .ok (.i2s, 1)) (hw : (Int32.ofInt x).toInt16.toInt32 = Int32.ofInt w) (k : Ev b y (pc + 1) ls (vI w :: st) σ Q) : Ev b y pc ls (vI x :: st) σ Q := by
  intro p l e s m args below meth c H locs cells slots A Z lsA C E hP hS hl
  exact lv_i2s C.1 C.2.1 hd hw (k p l e s m args below meth c H locs cells slots A Z lsA C E hP hS hl)
theorem ev_i2c {x w : Int} (hd : decode y.2.1 pc = .ok (.i2c, 1)) (hw : ((Int32.ofInt x).toUInt32 % 65536).toInt32 = Int32.ofInt w) (k : Ev b y (pc + 1) ls (vI w :: st) σ Q) : Ev b y pc ls (vI x :: st) σ Q := by
  intro p l e s m args below meth c H locs cells slots A Z lsA C E hP hS hl
  exact lv_i2c C.1 C.2.1 hd hw (k p l e s m args below meth c H locs cells slots A Z lsA C E hP hS hl)
theorem ev_lcmp {x z : Int} (hd : decode y.2.1 pc = .ok (.lcmp, 1)) (hx : -9223372036854775808 ≤ x ∧ x < 9223372036854775808) (hz : -9223372036854775808 ≤ z ∧ z < 9223372036854775808) (k : Ev b y (pc + 1) ls (vI (cmpI x z) :: st) σ Q) : Ev b y pc ls (vL z :: vL x :: st) σ Q := by
  intro p l e s m args below meth c H locs cells slots A Z lsA C E hP hS hl
  refine W.lcmp C.1 C.2.1 hd ?_
  rw [ev_cmp hx hz]
  exact k p l e s m args below meth c H locs cells slots A Z lsA C E hP hS hl
theorem ev_lc_eq {x z : Int} {off : Int} {tgt : Nat} (hd : decode y.2.1 pc = .ok (.lcmp, 1)) (hd2 : decode y.2.1 (pc + 1) = .ok (.ifCond .eq off, 3)) (ht : ((pc + 1 : Nat) : Int) + off = (tgt : Int)) (hx : -9223372036854775808 ≤ x ∧ x < 9223372036854775808) (hz : -9223372036854775808 ≤ z ∧ z < 9223372036854775808) (kt : x = z → Ev b y tgt ls st σ Q) (kf : ¬ x = z → Ev b y (pc + 1 + 3) ls st σ Q) : Ev b y pc ls (vL z :: vL x :: st) σ Q :=
  ev_lcmp hd hx hz (ev_if_eq hd2 ht (cmpI_in x z) (fun q => kt (by unfold cmpI at q; split at q <;> first | omega | (split at q <;> omega))) (fun q => kf (by unfold cmpI at q; split at q <;> first | omega | (split at q <;> omega))))
theorem ev_lc_ne {x z : Int} {off : Int} {tgt : Nat} (hd : decode y.2.1 pc = .ok (.lcmp, 1)) (hd2 : decode y.2.1 (pc + 1) = .ok (.ifCond .ne off, 3)) (ht : ((pc + 1 : Nat) : Int) + off = (tgt : Int)) (hx : -9223372036854775808 ≤ x ∧ x < 9223372036854775808) (hz : -9223372036854775808 ≤ z ∧ z < 9223372036854775808) (kt : ¬ x = z → Ev b y tgt ls st σ Q) (kf : x = z → Ev b y (pc + 1 + 3) ls st σ Q) : Ev b y pc ls (vL z :: vL x :: st) σ Q :=
  ev_lcmp hd hx hz (ev_if_ne hd2 ht (cmpI_in x z) (fun q => kt (by unfold cmpI at q; split at q <;> first | omega | (split at q <;> omega))) (fun q => kf (by unfold cmpI at q; split at q <;> first | omega | (split at q <;> omega))))
theorem ev_lc_lt {x z : Int} {off : Int} {tgt : Nat} (hd : decode y.2.1 pc = .ok (.lcmp, 1)) (hd2 : decode y.2.1 (pc + 1) = .ok (.ifCond .lt off, 3)) (ht : ((pc + 1 : Nat) : Int) + off = (tgt : Int)) (hx : -9223372036854775808 ≤ x ∧ x < 9223372036854775808) (hz : -9223372036854775808 ≤ z ∧ z < 9223372036854775808) (kt : x < z → Ev b y tgt ls st σ Q) (kf : ¬ x < z → Ev b y (pc + 1 + 3) ls st σ Q) : Ev b y pc ls (vL z :: vL x :: st) σ Q :=
  ev_lcmp hd hx hz (ev_if_lt hd2 ht (cmpI_in x z) (fun q => kt (by unfold cmpI at q; split at q <;> first | omega | (split at q <;> omega))) (fun q => kf (by unfold cmpI at q; split at q <;> first | omega | (split at q <;> omega))))
theorem ev_lc_ge {x z : Int} {off : Int} {tgt : Nat} (hd : decode y.2.1 pc = .ok (.lcmp, 1)) (hd2 : decode y.2.1 (pc + 1) = .ok (.ifCond .ge off, 3)) (ht : ((pc + 1 : Nat) : Int) + off = (tgt : Int)) (hx : -9223372036854775808 ≤ x ∧ x < 9223372036854775808) (hz : -9223372036854775808 ≤ z ∧ z < 9223372036854775808) (kt : z ≤ x → Ev b y tgt ls st σ Q) (kf : ¬ z ≤ x → Ev b y (pc + 1 + 3) ls st σ Q) : Ev b y pc ls (vL z :: vL x :: st) σ Q :=
  ev_lcmp hd hx hz (ev_if_ge hd2 ht (cmpI_in x z) (fun q => kt (by unfold cmpI at q; split at q <;> first | omega | (split at q <;> omega))) (fun q => kf (by unfold cmpI at q; split at q <;> first | omega | (split at q <;> omega))))
theorem ev_lc_gt {x z : Int} {off : Int} {tgt : Nat} (hd : decode y.2.1 pc = .ok (.lcmp, 1)) (hd2 : decode y.2.1 (pc + 1) = .ok (.ifCond .gt off, 3)) (ht : ((pc + 1 : Nat) : Int) + off = (tgt : Int)) (hx : -9223372036854775808 ≤ x ∧ x < 9223372036854775808) (hz : -9223372036854775808 ≤ z ∧ z < 9223372036854775808) (kt : z < x → Ev b y tgt ls st σ Q) (kf : ¬ z < x → Ev b y (pc + 1 + 3) ls st σ Q) : Ev b y pc ls (vL z :: vL x :: st) σ Q :=
  ev_lcmp hd hx hz (ev_if_gt hd2 ht (cmpI_in x z) (fun q => kt (by unfold cmpI at q; split at q <;> first | omega | (split at q <;> omega))) (fun q => kf (by unfold cmpI at q; split at q <;> first | omega | (split at q <;> omega))))
theorem ev_lc_le {x z : Int} {off : Int} {tgt : Nat} (hd : decode y.2.1 pc = .ok (.lcmp, 1)) (hd2 : decode y.2.1 (pc + 1) = .ok (.ifCond .le off, 3)) (ht : ((pc + 1 : Nat) : Int) + off = (tgt : Int)) (hx : -9223372036854775808 ≤ x ∧ x < 9223372036854775808) (hz : -9223372036854775808 ≤ z ∧ z < 9223372036854775808) (kt : x ≤ z → Ev b y tgt ls st σ Q) (kf : ¬ x ≤ z → Ev b y (pc + 1 + 3) ls st σ Q) : Ev b y pc ls (vL z :: vL x :: st) σ Q :=
  ev_lcmp hd hx hz (ev_if_le hd2 ht (cmpI_in x z) (fun q => kt (by unfold cmpI at q; split at q <;> first | omega | (split at q <;> omega))) (fun q => kf (by unfold cmpI at q; split at q <;> first | omega | (split at q <;> omega))))
/-- the fields of the world's objects -/
theorem ev_geti {o ci i : Nat} (j : Nat) (jz : Int) {tm : List (Option Nat)} {CC : String} {T : u_T} {N : Nat} (hd : decode y.2.1 pc = .ok (.getfield i, 3)) (hk : ev_kds[o]? = some (.inl (ci, tm))) (hc : ev_cls[ci]? = some (CC, T, N)) (hw : Cond.fieldLink y.1.cls i (T j).1 (T j).2.1 (T j).2.2.1 ∈ ev_gw) (hin : ∀ w ∈ u_ws CC T N, w ∈ ev_gw) (hj : j < N) (ht : tm[j]? = some none) (hz : (j : Int) = jz) (k : Ev b y (pc + 3) ls (vI (σ o jz) :: st) σ Q) : Ev b y pc ls (vR o :: st) σ Q := by
  subst hz
  intro p l e s m args below meth c H locs cells slots A Z lsA C E hP hS hl
  exact va_get (C := CC) (v := .int (Int32.ofInt (σ o j))) C.1 C.2.1 C.2.2.2.2.2.2.1 hin C.2.2.2.2.2.1 C.2.2.2.2.2.2.2.1.1 hP o (ev_at hk) hc j hj (C.2.2.2.2.2.2.1 _ hw) (fun _ h => h) (by rw [List.getElem?_mapIdx, ht]; rfl) hd (k p l e s m args below meth c H locs cells slots A Z lsA C E hP hS hl)
theorem ev_getr {o ci i : Nat} (j : Nat) {t : Nat} {tm : List (Option Nat)} {CC : String} {T : u_T} {N : Nat} (hd : decode y.2.1 pc = .ok (.getfield i, 3)) (hk : ev_kds[o]? = some (.inl (ci, tm))) (hc : ev_cls[ci]? = some (CC, T, N)) (hw : Cond.fieldLink y.1.cls i (T j).1 (T j).2.1 (T j).2.2.1 ∈ ev_gw) (hin : ∀ w ∈ u_ws CC T N, w ∈ ev_gw) (hj : j < N) (ht : tm[j]? = some (some t)) (k : Ev b y (pc + 3) ls (vR t :: st) σ Q) : Ev b y pc ls (vR o :: st) σ Q := by
  intro p l e s m args below meth c H locs cells slots A Z lsA C E hP hS hl
  exact va_get (C := CC) (v := .ref (b.1 t)) C.1 C.2.1 C.2.2.2.2.2.2.1 hin C.2.2.2.2.2.1 C.2.2.2.2.2.2.2.1.1 hP o (ev_at hk) hc j hj (C.2.2.2.2.2.2.1 _ hw) (fun _ h => h) (by rw [List.getElem?_mapIdx, ht]; rfl) hd (k p l e s m args below meth c H locs cells slots A Z lsA C E hP hS hl)
theorem ev_put {o ci i : Nat} (j : Nat) (jz : Int) {z : Int} {tm : List (Option Nat)} {CC : String} {T : u_T} {N : Nat} {ty0 : Nat → FieldType} {ty : FieldType} (hd : decode y.2.1 pc = .ok (.putfield i, 3)) (hk : ev_kds[o]? = some (.inl (ci, tm))) (hc : ev_cls[ci]? = some (CC, T, N)) (hw : Cond.fieldLink y.1.cls i (T j).1 (T j).2.1 (T j).2.2.1 ∈ ev_gw) (hin : ∀ w ∈ u_ws CC T N, w ∈ ev_gw) (hty : ∀ k, k < N → parseFieldDescriptor (T k).2.2.1 = some (ty0 k)) (hnm : ∀ a, a < N → ∀ b, b < N → a ≠ b → (T a).2.1 ≠ (T b).2.1) (hj : j < N) (ht : tm[j]? = some none) (hf : (T j).2.2.2 = false) (hty2 : parseFieldDescriptor (T j).2.2.1 = some ty) (hna : narrow ty (.int (Int32.ofInt z)) = .int (Int32.ofInt z)) (hfi : fits ty (.int (Int32.ofInt z)) = true) (hz : (j : Int) = jz) (k : Ev b y (pc + 3) ls st (mup σ o jz z) Q) : Ev b y pc ls (vI z :: vR o :: st) σ Q := by
  subst hz
  intro p l e s m args below meth c H locs cells slots A Z lsA C E hP hS hl
  refine va_put (C := CC) (v := .int (Int32.ofInt z)) C.1 C.2.1 C.2.2.2.2.2.2.1 hin ty0 hty hnm C.2.2.2.2.2.1 C.2.2.2.2.2.2.2.1.1 hP (ev_D C.2.2.2.2.2.2.2.1 σ) hS o (ev_at hk) hc j hj (C.2.2.2.2.2.2.1 _ hw) (fun _ h => h) hf hty2 hna hfi (by rw [List.length_mapIdx]; exact (List.getElem?_eq_some_iff.mp ht).1) hd (fun H1 locs1 hP1 hD1 hS1 => ?_)
  refine k p l e s m args below meth c H1 locs1 cells slots A Z lsA C E ?_ hS1 hl
  have e1 := ev_set (b := b) (σ := σ) (τ := mup σ o j z) hk (fun a ha => (mup_ne ha).symm)
  rw [← e1]
  rw [ev_upf ht] at hP1
  exact hP1
theorem ev_iald {a n : Nat} {i : Int} (hd : decode y.2.1 pc = .ok (.iaload, 1)) (hk : ev_kds[a]? = some (.inr (0, n))) (hi : 0 ≤ i ∧ i < n) (k : Ev b y (pc + 1) ls (vI (σ a i) :: st) σ Q) : Ev b y pc ls (vI i :: vR a :: st) σ Q := by
  intro p l e s m args below meth c H locs cells slots A Z lsA C E hP hS hl
  have hn := ev_small _ _ _ hk
  refine va_iald C.1 C.2.1 C.2.2.2.2.2.2.2.1.1 hP a 0 (ev_at hk) rfl (ev_in hi hn) hd ?_
  have e1 : ((i.toNat : Nat) : Int) = i := by omega
  rw [ev_nn (by omega), e1]
  exact k p l e s m args below meth c H locs cells slots A Z lsA C E hP hS hl
theorem ev_lald {a n : Nat} {i : Int} (hd : decode y.2.1 pc = .ok (.laload, 1)) (hk : ev_kds[a]? = some (.inr (1, n))) (hi : 0 ≤ i ∧ i < n) (k : Ev b y (pc + 1) ls (vL (σ a i) :: st) σ Q) : Ev b y pc ls (vI i :: vR a :: st) σ Q := by
  intro p l e s m args below meth c H locs cells slots A Z lsA C E hP hS hl
  have hn := ev_small _ _ _ hk
  refine va_lald C.1 C.2.1 C.2.2.2.2.2.2.2.1.1 hP a 1 (ev_at hk) rfl (ev_in hi hn) hd ?_
  have e1 : ((i.toNat : Nat) : Int) = i := by omega
  rw [ev_nn (by omega), e1]
  exact k p l e s m args below meth c H locs cells slots A Z lsA C E hP hS hl
theorem ev_aald {a n : Nat} {i : Int} (hd : decode y.2.1 pc = .ok (.aaload, 1)) (hk : ev_kds[a]? = some (.inr (2, n))) (hi : 0 ≤ i ∧ i < n) (k : Ev b y (pc + 1) ls (vR (ev_rt i.toNat) :: st) σ Q) : Ev b y pc ls (vI i :: vR a :: st) σ Q := by
  intro p l e s m args below meth c H locs cells slots A Z lsA C E hP hS hl
  have hn := ev_small _ _ _ hk
  refine va_aldq C.1 C.2.1 C.2.2.2.2.2.2.2.1.1 hP a 2 (ev_at hk) rfl (ev_in hi hn) hd ?_
  rw [ev_nn (by omega)]
  exact k p l e s m args below meth c H locs cells slots A Z lsA C E hP hS hl
theorem ev_iast {a n : Nat} {i z : Int} (hd : decode y.2.1 pc = .ok (.iastore, 1)) (hk : ev_kds[a]? = some (.inr (0, n))) (hi : 0 ≤ i ∧ i < n) (k : Ev b y (pc + 1) ls st (mup σ a i z) Q) : Ev b y pc ls (vI z :: vI i :: vR a :: st) σ Q := by
  intro p l e s m args below meth c H locs cells slots A Z lsA C E hP hS hl
  have hn := ev_small _ _ _ hk
  refine va_iast (x := Int32.ofInt z) C.1 C.2.1 C.2.2.2.2.2.2.2.1.1 hP (ev_D C.2.2.2.2.2.2.2.1 σ) hS a 0 (ev_at hk) rfl (ev_in hi hn) hd (fun H1 locs1 hP1 hD1 hS1 => ?_)
  refine k p l e s m args below meth c H1 locs1 cells slots A Z lsA C E ?_ hS1 hl
  rw [ev_nn (by omega), ev_upi hi.1] at hP1
  rw [← ev_set (b := b) (σ := σ) (τ := mup σ a i z) hk (fun q hq => (mup_ne hq).symm)]
  exact hP1
theorem ev_last {a n : Nat} {i z : Int} (hd : decode y.2.1 pc = .ok (.lastore, 1)) (hk : ev_kds[a]? = some (.inr (1, n))) (hi : 0 ≤ i ∧ i < n) (k : Ev b y (pc + 1) ls st (mup σ a i z) Q) : Ev b y pc ls (vL z :: vI i :: vR a :: st) σ Q := by
  intro p l e s m args below meth c H locs cells slots A Z lsA C E hP hS hl
  have hn := ev_small _ _ _ hk
  refine va_last (x := Int64.ofInt z) C.1 C.2.1 C.2.2.2.2.2.2.2.1.1 hP (ev_D C.2.2.2.2.2.2.2.1 σ) hS a 1 (ev_at hk) rfl (ev_in hi hn) hd (fun H1 locs1 hP1 hD1 hS1 => ?_)
  refine k p l e s m args below meth c H1 locs1 cells slots A Z lsA C E ?_ hS1 hl
  rw [ev_nn (by omega), ev_upl hi.1] at hP1
  rw [← ev_set (b := b) (σ := σ) (τ := mup σ a i z) hk (fun q hq => (mup_ne hq).symm)]
  exact hP1
theorem ev_alen0 {a n : Nat} {nz : Int} (hd : decode y.2.1 pc = .ok (.arraylength, 1)) (hk : ev_kds[a]? = some (.inr (0, n))) (hz : (n : Int) = nz) (k : Ev b y (pc + 1) ls (vI nz :: st) σ Q) : Ev b y pc ls (vR a :: st) σ Q := by
  subst hz
  intro p l e s m args below meth c H locs cells slots A Z lsA C E hP hS hl
  exact va_alen (v := Int32.ofInt n) C.1 C.2.1 C.2.2.2.2.2.2.2.1.1 hP a 0 (ev_at hk) rfl (by rfl) hd (k p l e s m args below meth c H locs cells slots A Z lsA C E hP hS hl)
theorem ev_alen1 {a n : Nat} {nz : Int} (hd : decode y.2.1 pc = .ok (.arraylength, 1)) (hk : ev_kds[a]? = some (.inr (1, n))) (hz : (n : Int) = nz) (k : Ev b y (pc + 1) ls (vI nz :: st) σ Q) : Ev b y pc ls (vR a :: st) σ Q := by
  subst hz
  intro p l e s m args below meth c H locs cells slots A Z lsA C E hP hS hl
  exact va_alen (v := Int32.ofInt n) C.1 C.2.1 C.2.2.2.2.2.2.2.1.1 hP a 1 (ev_at hk) rfl (by rfl) hd (k p l e s m args below meth c H locs cells slots A Z lsA C E hP hS hl)
/-- the script -/
theorem ev_sald {i : Int} (hd : decode y.2.1 pc = .ok (.iaload, 1)) (hi : 0 ≤ i ∧ i < (b.2.2.2.2.1 : Int)) (k : Ev b y (pc + 1) ls (vI (b.2.2.2.2.2 i.toNat) :: st) σ Q) : Ev b y pc ls (vI i :: vR 74 :: st) σ Q := by
  intro p l e s m args below meth c H locs cells slots A Z lsA C E hP hS hl
  have hn := C.2.2.2.2.2.2.2.1.2.2.2.1.2.2
  refine va_ti (v := .int (Int32.ofInt (b.2.2.2.2.2 i.toNat))) C.1 C.2.1 C.2.2.2.2.2.2.2.1.2.2.2.2.2.2.2.2.2.2 hS (i := Int32.ofInt i) ?_ ?_ hd (k p l e s m args below meth c H locs cells slots A Z lsA C E hP hS hl)
  · rw [vp_in_iff, ev_ti (by omega)]; exact hi
  · rw [ev_nn (by omega)]
theorem ev_slen (hd : decode y.2.1 pc = .ok (.arraylength, 1)) (k : Ev b y (pc + 1) ls (vI b.2.2.2.2.1 :: st) σ Q) : Ev b y pc ls (vR 74 :: st) σ Q := by
  intro p l e s m args below meth c H locs cells slots A Z lsA C E hP hS hl
  exact va_tlen (v := Int32.ofInt b.2.2.2.2.1) C.1 C.2.1 C.2.2.2.2.2.2.2.1.2.2.2.2.2.2.2.2.2.2 hS (by rfl) hd (k p l e s m args below meth c H locs cells slots A Z lsA C E hP hS hl)
/-- returns -/
theorem ev_iret {z : Int} {ty : FieldType} (hd : decode y.2.1 pc = .ok (.ireturn, 1)) (hr : y.2.2.2.1 = some ty) (hn : narrow ty (.int (Int32.ofInt z)) = .int (Int32.ofInt z)) (hQ : Q (some (vI z)) σ) : Ev b y pc ls [vI z] σ Q := by
  intro p l e s m args below meth c H locs cells slots A Z lsA C E hP hS hl
  exact E (some (vI z)) σ H locs pc lsA .ireturn hQ hP hS hd (Or.inl ⟨rfl, z, ty, rfl, hr, hn⟩)
theorem ev_lret {z : Int} (hd : decode y.2.1 pc = .ok (.lreturn, 1)) (hr : y.2.2.2.1 = some .long) (hQ : Q (some (vL z)) σ) : Ev b y pc ls [vL z] σ Q := by
  intro p l e s m args below meth c H locs cells slots A Z lsA C E hP hS hl
  exact E (some (vL z)) σ H locs pc lsA .lreturn hQ hP hS hd (Or.inr (Or.inl ⟨rfl, z, rfl, hr⟩))
theorem ev_aret {t : Nat} {n : String} (hd : decode y.2.1 pc = .ok (.areturn, 1)) (hr : y.2.2.2.1 = some (.object n)) (hQ : Q (some (vR t)) σ) : Ev b y pc ls [vR t] σ Q := by
  intro p l e s m args below meth c H locs cells slots A Z lsA C E hP hS hl
  exact E (some (vR t)) σ H locs pc lsA .areturn hQ hP hS hd (Or.inr (Or.inr (Or.inl ⟨rfl, t, n, rfl, hr⟩)))
theorem ev_vret (hd : decode y.2.1 pc = .ok (.return_, 1)) (hr : y.2.2.2.1 = none) (hQ : Q none σ) : Ev b y pc ls [] σ Q := by
  intro p l e s m args below meth c H locs cells slots A Z lsA C E hP hS hl
  exact E none σ H locs pc lsA .return_ hQ hP hS hd (Or.inr (Or.inr (Or.inr ⟨rfl, rfl, hr⟩)))
theorem Ev.mono {Q2 : Option ev_V → ev_M → Prop} (h : Ev b y pc ls st σ Q) (hq : ∀ r τ, Q r τ → Q2 r τ) : Ev b y pc ls st σ Q2 := by
  intro p l e s m args below meth c H locs cells slots A Z lsA C E hP hS hl
  exact h p l e s m args below meth c H locs cells slots A Z lsA C (fun r τ H1 locs1 pc1 ls1 op q => E r τ H1 locs1 pc1 ls1 op (hq r τ q)) hP hS hl
theorem Ev.lsub {ls' : List (Nat × ev_V)} (hs : ∀ q ∈ ls', ev_lk ls q.1 = some q.2) (h : Ev b y pc ls' st σ Q) : Ev b y pc ls st σ Q := by
  intro p l e s m args below meth c H locs cells slots A Z lsA C E hP hS hl
  refine h p l e s m args below meth c H locs cells slots A Z lsA C E hP hS ⟨hl.1, hl.2.1, fun q hq => ?_⟩
  obtain ⟨x, hx, rfl⟩ := List.mem_map.mp hq
  exact ev_has_at hl (hs x hx)
end EVS
