/-! the rules, an instruction each -/
section EVR
variable {b : ev_B} {y : ev_Y} {pc : Nat} {ls : List (Nat × ev_V)} {st : List ev_V} {σ : ev_M} {Q : Option ev_V → ev_M → Prop}
theorem ev_iconst {n : Int} (hd : decode y.2.1 pc = .ok (.iconst n, 1)) (k : Ev b y (pc + 1) ls (vI n :: st) σ Q) : Ev b y pc ls st σ Q := by
  intro p l e s m args below meth c H locs cells slots A Z lsA C E hP hS hl
  exact lv_iconst C.1 C.2.1 hd rfl (k p l e s m args below meth c H locs cells slots A Z lsA C E hP hS hl)
theorem ev_bipush {n : Int} (hd : decode y.2.1 pc = .ok (.bipush n, 2)) (hv : (Int8.ofInt n).toInt32 = Int32.ofInt n) (k : Ev b y (pc + 2) ls (vI n :: st) σ Q) : Ev b y pc ls st σ Q := by
  intro p l e s m args below meth c H locs cells slots A Z lsA C E hP hS hl
  exact lv_bipush C.1 C.2.1 hd hv (k p l e s m args below meth c H locs cells slots A Z lsA C E hP hS hl)
theorem ev_sipush {n : Int} (hd : decode y.2.1 pc = .ok (.sipush n, 3)) (hv : (Int16.ofInt n).toInt32 = Int32.ofInt n) (k : Ev b y (pc + 3) ls (vI n :: st) σ Q) : Ev b y pc ls st σ Q := by
  intro p l e s m args below meth c H locs cells slots A Z lsA C E hP hS hl
  exact lv_sipush C.1 C.2.1 hd hv (k p l e s m args below meth c H locs cells slots A Z lsA C E hP hS hl)
theorem ev_lconst {n : Fin 2} {z : Int} (hd : decode y.2.1 pc = .ok (.lconst n, 1)) (hv : Int64.ofNat (n : Nat) = Int64.ofInt z) (k : Ev b y (pc + 1) ls (vL z :: st) σ Q) : Ev b y pc ls st σ Q := by
  intro p l e s m args below meth c H locs cells slots A Z lsA C E hP hS hl
  exact lv_lconst C.1 C.2.1 hd hv (k p l e s m args below meth c H locs cells slots A Z lsA C E hP hS hl)
theorem ev_ldc {i : Nat} {n : Int32} {z : Int} (hd : decode y.2.1 pc = .ok (.ldc i, 2)) (hw : Cond.constant y.1.cls i n ∈ ev_gw) (hv : n = Int32.ofInt z) (k : Ev b y (pc + 2) ls (vI z :: st) σ Q) : Ev b y pc ls st σ Q := by
  intro p l e s m args below meth c H locs cells slots A Z lsA C E hP hS hl
  subst hv
  exact lv_ldc C.1 C.2.1 C.2.2.2.2.2.1 (C.2.2.2.2.2.2.1 _ hw) hd (k p l e s m args below meth c H locs cells slots A Z lsA C E hP hS hl)
theorem ev_ldcw {i : Nat} {n : Int32} {z : Int} (hd : decode y.2.1 pc = .ok (.ldc_w i, 3)) (hw : Cond.constant y.1.cls i n ∈ ev_gw) (hv : n = Int32.ofInt z) (k : Ev b y (pc + 3) ls (vI z :: st) σ Q) : Ev b y pc ls st σ Q := by
  intro p l e s m args below meth c H locs cells slots A Z lsA C E hP hS hl
  subst hv
  exact lv_ldcw C.1 C.2.1 C.2.2.2.2.2.1 (C.2.2.2.2.2.2.1 _ hw) hd (k p l e s m args below meth c H locs cells slots A Z lsA C E hP hS hl)
theorem ev_ldc2 {i : Nat} {n : Int64} {z : Int} (hd : decode y.2.1 pc = .ok (.ldc2_w i, 3)) (hw : Cond.constantLong y.1.cls i n ∈ ev_gw) (hv : n = Int64.ofInt z) (k : Ev b y (pc + 3) ls (vL z :: st) σ Q) : Ev b y pc ls st σ Q := by
  intro p l e s m args below meth c H locs cells slots A Z lsA C E hP hS hl
  subst hv
  exact lv_ldc2 C.1 C.2.1 C.2.2.2.2.2.1 (C.2.2.2.2.2.2.1 _ hw) hd (k p l e s m args below meth c H locs cells slots A Z lsA C E hP hS hl)
theorem ev_ldcS {i j : Nat} {tx : String} (hd : decode y.2.1 pc = .ok (.ldc i, 2)) (hy : y.1.cls = RX4) (hs : ev_sn[j]? = some (i, tx)) (k : Ev b y (pc + 2) ls (vR (61 + j) :: st) σ Q) : Ev b y pc ls st σ Q := by
  intro p l e s m args below meth c H locs cells slots A Z lsA C E hP hS hl
  exact va_ldcS (own := RX4) C.1 C.2.1 (by rw [← hy]; exact C.2.2.2.2.2.1) (C.2.2.2.2.2.2.2.1.2.2.2.2.1 j _ hs) hd (k p l e s m args below meth c H locs cells slots A Z lsA C E hP hS hl)
theorem ev_iload_n {j : Fin 4} {x : Int} (hd : decode y.2.1 pc = .ok (.iload_n j, 1)) (hk : ev_lk ls j.val = some (vI x)) (k : Ev b y (pc + 1) ls (vI x :: st) σ Q) : Ev b y pc ls st σ Q := by
  intro p l e s m args below meth c H locs cells slots A Z lsA C E hP hS hl
  exact lv_iload_n C.1 C.2.1 hd rfl (ev_has_at hl hk) (k p l e s m args below meth c H locs cells slots A Z lsA C E hP hS hl)
theorem ev_iload {j : Nat} {x : Int} (hd : decode y.2.1 pc = .ok (.iload j, 2)) (hk : ev_lk ls j = some (vI x)) (k : Ev b y (pc + 2) ls (vI x :: st) σ Q) : Ev b y pc ls st σ Q := by
  intro p l e s m args below meth c H locs cells slots A Z lsA C E hP hS hl
  exact lv_iload C.1 C.2.1 hd (ev_has_at hl hk) (k p l e s m args below meth c H locs cells slots A Z lsA C E hP hS hl)
theorem ev_lload_n {j : Fin 4} {x : Int} (hd : decode y.2.1 pc = .ok (.lload_n j, 1)) (hk : ev_lk ls j.val = some (vL x)) (k : Ev b y (pc + 1) ls (vL x :: st) σ Q) : Ev b y pc ls st σ Q := by
  intro p l e s m args below meth c H locs cells slots A Z lsA C E hP hS hl
  exact lv_lload_n C.1 C.2.1 hd rfl (ev_has_at hl hk) (k p l e s m args below meth c H locs cells slots A Z lsA C E hP hS hl)
theorem ev_lload {j : Nat} {x : Int} (hd : decode y.2.1 pc = .ok (.lload j, 2)) (hk : ev_lk ls j = some (vL x)) (k : Ev b y (pc + 2) ls (vL x :: st) σ Q) : Ev b y pc ls st σ Q := by
  intro p l e s m args below meth c H locs cells slots A Z lsA C E hP hS hl
  exact lv_lload C.1 C.2.1 hd (ev_has_at hl hk) (k p l e s m args below meth c H locs cells slots A Z lsA C E hP hS hl)
theorem ev_aload_n {j : Fin 4} {x : Nat} (hd : decode y.2.1 pc = .ok (.aload_n j, 1)) (hk : ev_lk ls j.val = some (vR x)) (k : Ev b y (pc + 1) ls (vR x :: st) σ Q) : Ev b y pc ls st σ Q := by
  intro p l e s m args below meth c H locs cells slots A Z lsA C E hP hS hl
  exact lv_aload_n C.1 C.2.1 hd rfl (ev_has_at hl hk) (k p l e s m args below meth c H locs cells slots A Z lsA C E hP hS hl)
theorem ev_aload {j : Nat} {x : Nat} (hd : decode y.2.1 pc = .ok (.aload j, 2)) (hk : ev_lk ls j = some (vR x)) (k : Ev b y (pc + 2) ls (vR x :: st) σ Q) : Ev b y pc ls st σ Q := by
  intro p l e s m args below meth c H locs cells slots A Z lsA C E hP hS hl
  exact lv_aload C.1 C.2.1 hd (ev_has_at hl hk) (k p l e s m args below meth c H locs cells slots A Z lsA C E hP hS hl)
theorem ev_istore_n {j : Fin 4} {x : Int} {ls' : List (Nat × ev_V)} (hd : decode y.2.1 pc = .ok (.istore_n j, 1)) (hn : j.val < y.2.2.1) (hu : ev_s1 ls j.val (vI x) = ls') (k : Ev b y (pc + 1) ls' st σ Q) : Ev b y pc ls (vI x :: st) σ Q := by
  intro p l e s m args below meth c H locs cells slots A Z lsA C E hP hS hl
  subst hu
  exact lv_istore_n C.1 C.2.1 hd rfl hl hn rfl (fun l2 hl2 => k p l e s m args below meth c H locs cells slots A Z l2 C E hP hS (ev_has_s1 (v := vI x) C.2.2.2.2.2.2.2.1.2.2.2.1 hl2))
theorem ev_istore {j : Nat} {x : Int} {ls' : List (Nat × ev_V)} (hd : decode y.2.1 pc = .ok (.istore j, 2)) (hn : j < y.2.2.1) (hu : ev_s1 ls j (vI x) = ls') (k : Ev b y (pc + 2) ls' st σ Q) : Ev b y pc ls (vI x :: st) σ Q := by
  intro p l e s m args below meth c H locs cells slots A Z lsA C E hP hS hl
  subst hu
  exact lv_istore C.1 C.2.1 hd hl hn rfl (fun l2 hl2 => k p l e s m args below meth c H locs cells slots A Z l2 C E hP hS (ev_has_s1 (v := vI x) C.2.2.2.2.2.2.2.1.2.2.2.1 hl2))
theorem ev_astore_n {j : Fin 4} {x : Nat} {ls' : List (Nat × ev_V)} (hd : decode y.2.1 pc = .ok (.astore_n j, 1)) (hn : j.val < y.2.2.1) (hu : ev_s1 ls j.val (vR x) = ls') (k : Ev b y (pc + 1) ls' st σ Q) : Ev b y pc ls (vR x :: st) σ Q := by
  intro p l e s m args below meth c H locs cells slots A Z lsA C E hP hS hl
  subst hu
  exact lv_astore_n C.1 C.2.1 hd rfl hl hn rfl (fun l2 hl2 => k p l e s m args below meth c H locs cells slots A Z l2 C E hP hS (ev_has_s1 (v := vR x) C.2.2.2.2.2.2.2.1.2.2.2.1 hl2))
theorem ev_astore {j : Nat} {x : Nat} {ls' : List (Nat × ev_V)} (hd : decode y.2.1 pc = .ok (.astore j, 2)) (hn : j < y.2.2.1) (hu : ev_s1 ls j (vR x) = ls') (k : Ev b y (pc + 2) ls' st σ Q) : Ev b y pc ls (vR x :: st) σ Q := by
  intro p l e s m args below meth c H locs cells slots A Z lsA C E hP hS hl
  subst hu
  exact lv_astore C.1 C.2.1 hd hl hn rfl (fun l2 hl2 => k p l e s m args below meth c H locs cells slots A Z l2 C E hP hS (ev_has_s1 (v := vR x) C.2.2.2.2.2.2.2.1.2.2.2.1 hl2))
theorem ev_lstore_n {j : Fin 4} {x : Int} {ls' : List (Nat × ev_V)} (hd : decode y.2.1 pc = .ok (.lstore_n j, 1)) (hn : j.val + 1 < y.2.2.1) (hu : ev_s2 ls j.val (vL x) = ls') (k : Ev b y (pc + 1) ls' st σ Q) : Ev b y pc ls (vL x :: st) σ Q := by
  intro p l e s m args below meth c H locs cells slots A Z lsA C E hP hS hl
  subst hu
  exact lv_lstore_n C.1 C.2.1 hd rfl hl hn rfl (fun l2 hl2 => k p l e s m args below meth c H locs cells slots A Z l2 C E hP hS (ev_has_s2 (v := vL x) C.2.2.2.2.2.2.2.1.2.2.2.1 hl2))
theorem ev_lstore {j : Nat} {x : Int} {ls' : List (Nat × ev_V)} (hd : decode y.2.1 pc = .ok (.lstore j, 2)) (hn : j + 1 < y.2.2.1) (hu : ev_s2 ls j (vL x) = ls') (k : Ev b y (pc + 2) ls' st σ Q) : Ev b y pc ls (vL x :: st) σ Q := by
  intro p l e s m args below meth c H locs cells slots A Z lsA C E hP hS hl
  subst hu
  exact lv_lstore C.1 C.2.1 hd hl hn rfl (fun l2 hl2 => k p l e s m args below meth c H locs cells slots A Z l2 C E hP hS (ev_has_s2 (v := vL x) C.2.2.2.2.2.2.2.1.2.2.2.1 hl2))
theorem ev_iinc {j : Nat} {n x : Int} {ls' : List (Nat × ev_V)} (hd : decode y.2.1 pc = .ok (.iinc j n, 3)) (hk : ev_lk ls j = some (vI x)) (hn : j < y.2.2.1) (hu : ev_s1 ls j (vI (x + n)) = ls') (k : Ev b y (pc + 3) ls' st σ Q) : Ev b y pc ls st σ Q := by
  intro p l e s m args below meth c H locs cells slots A Z lsA C E hP hS hl
  subst hu
  obtain ⟨q, hq⟩ := List.getElem?_of_mem (List.mem_map.mpr ⟨(j, vI x), ev_lk_mem hk, rfl⟩ : ev_cl b (j, vI x) ∈ ls.map (ev_cl b))
  exact lv_iinc C.1 C.2.1 hd hl hq rfl hn rfl (fun l2 hl2 => k p l e s m args below meth c H locs cells slots A Z l2 C E hP hS (ev_has_s1 (v := vI (x + n)) C.2.2.2.2.2.2.2.1.2.2.2.1 (by rw [← Int32.ofInt_add] at hl2; exact hl2)))
theorem ev_iadd {x z : Int} (hd : decode y.2.1 pc = .ok (.iadd, 1)) (k : Ev b y (pc + 1) ls (vI (x + z) :: st) σ Q) : Ev b y pc ls (vI z :: vI x :: st) σ Q := by
  intro p l e s m args below meth c H locs cells slots A Z lsA C E hP hS hl
  refine lv_iadd C.1 C.2.1 hd ?_
  rw [← Int32.ofInt_add]
  exact k p l e s m args below meth c H locs cells slots A Z lsA C E hP hS hl
theorem ev_isub {x z : Int} (hd : decode y.2.1 pc = .ok (.isub, 1)) (k : Ev b y (pc + 1) ls (vI (x - z) :: st) σ Q) : Ev b y pc ls (vI z :: vI x :: st) σ Q := by
  intro p l e s m args below meth c H locs cells slots A Z lsA C E hP hS hl
  refine lv_isub C.1 C.2.1 hd ?_
  rw [← Int32.ofInt_sub]
  exact k p l e s m args below meth c H locs cells slots A Z lsA C E hP hS hl
theorem ev_imul {x z : Int} (hd : decode y.2.1 pc = .ok (.imul, 1)) (k : Ev b y (pc + 1) ls (vI (x * z) :: st) σ Q) : Ev b y pc ls (vI z :: vI x :: st) σ Q := by
  intro p l e s m args below meth c H locs cells slots A Z lsA C E hP hS hl
  refine lv_imul C.1 C.2.1 hd ?_
  rw [← Int32.ofInt_mul]
  exact k p l e s m args below meth c H locs cells slots A Z lsA C E hP hS hl
theorem ev_ineg {x : Int} (hd : decode y.2.1 pc = .ok (.ineg, 1)) (k : Ev b y (pc + 1) ls (vI (-x) :: st) σ Q) : Ev b y pc ls (vI x :: st) σ Q := by
  intro p l e s m args below meth c H locs cells slots A Z lsA C E hP hS hl
  refine lv_ineg C.1 C.2.1 hd ?_
  rw [← Int32.ofInt_neg]
  exact k p l e s m args below meth c H locs cells slots A Z lsA C E hP hS hl
theorem ev_ladd {x z : Int} (hd : decode y.2.1 pc = .ok (.ladd, 1)) (k : Ev b y (pc + 1) ls (vL (x + z) :: st) σ Q) : Ev b y pc ls (vL z :: vL x :: st) σ Q := by
  intro p l e s m args below meth c H locs cells slots A Z lsA C E hP hS hl
  refine lv_ladd C.1 C.2.1 hd ?_
  rw [← Int64.ofInt_add]
  exact k p l e s m args below meth c H locs cells slots A Z lsA C E hP hS hl
theorem ev_lmul {x z : Int} (hd : decode y.2.1 pc = .ok (.lmul, 1)) (k : Ev b y (pc + 1) ls (vL (x * z) :: st) σ Q) : Ev b y pc ls (vL z :: vL x :: st) σ Q := by
  intro p l e s m args below meth c H locs cells slots A Z lsA C E hP hS hl
  refine lv_lmul C.1 C.2.1 hd ?_
  rw [← Int64.ofInt_mul]
  exact k p l e s m args below meth c H locs cells slots A Z lsA C E hP hS hl
theorem ev_i2l {x : Int} (hd : decode y.2.1 pc = .ok (.i2l, 1)) (hx : -2147483648 ≤ x ∧ x < 2147483648) (k : Ev b y (pc + 1) ls (vL x :: st) σ Q) : Ev b y pc ls (vI x :: st) σ Q := by
  intro p l e s m args below meth c H locs cells slots A Z lsA C E hP hS hl
  refine lv_i2l (v := Int64.ofInt x) C.1 C.2.1 hd ?_ (k p l e s m args below meth c H locs cells slots A Z lsA C E hP hS hl)
  rw [← Int64.toInt_inj, Int32.toInt_toInt64, ev_ti hx, ev_tl (by omega)]
theorem ev_l2i {x : Int} (hd : decode y.2.1 pc = .ok (.l2i, 1)) (k : Ev b y (pc + 1) ls (vI x :: st) σ Q) : Ev b y pc ls (vL x :: st) σ Q := by
  intro p l e s m args below meth c H locs cells slots A Z lsA C E hP hS hl
  refine lv_l2i (v := Int32.ofInt x) C.1 C.2.1 hd ?_ (k p l e s m args below meth c H locs cells slots A Z lsA C E hP hS hl)
  exact Int64.toInt32_ofInt
theorem ev_dup {v : ev_V} (hd : decode y.2.1 pc = .ok (.dup, 1)) (hv : ev_c2 v = false) (k : Ev b y (pc + 1) ls (v :: v :: st) σ Q) : Ev b y pc ls (v :: st) σ Q := by
  intro p l e s m args below meth c H locs cells slots A Z lsA C E hP hS hl
  exact lv_dup C.1 C.2.1 hd (by rw [ev_cat C.2.2.2.2.2.2.2.1.2.2.2.1, hv]; rfl) (k p l e s m args below meth c H locs cells slots A Z lsA C E hP hS hl)
theorem ev_pop {v : ev_V} (hd : decode y.2.1 pc = .ok (.pop, 1)) (hv : ev_c2 v = false) (k : Ev b y (pc + 1) ls st σ Q) : Ev b y pc ls (v :: st) σ Q := by
  intro p l e s m args below meth c H locs cells slots A Z lsA C E hP hS hl
  exact lv_pop C.1 C.2.1 hd (by rw [ev_cat C.2.2.2.2.2.2.2.1.2.2.2.1, hv]; rfl) (k p l e s m args below meth c H locs cells slots A Z lsA C E hP hS hl)
theorem ev_dup2 {v w : ev_V} (hd : decode y.2.1 pc = .ok (.dup2, 1)) (hv : ev_c2 v = false) (hw : ev_c2 w = false) (k : Ev b y (pc + 1) ls (v :: w :: v :: w :: st) σ Q) : Ev b y pc ls (v :: w :: st) σ Q := by
  intro p l e s m args below meth c H locs cells slots A Z lsA C E hP hS hl
  exact lv_dup2_11 C.1 C.2.1 hd (by rw [ev_cat C.2.2.2.2.2.2.2.1.2.2.2.1, hv]; rfl) (by rw [ev_cat C.2.2.2.2.2.2.2.1.2.2.2.1, hw]; rfl) (k p l e s m args below meth c H locs cells slots A Z lsA C E hP hS hl)
theorem ev_goto {off : Int} {tgt : Nat} (hd : decode y.2.1 pc = .ok (.goto off, 3)) (ht : (pc : Int) + off = (tgt : Int)) (k : Ev b y tgt ls st σ Q) : Ev b y pc ls st σ Q := by
  intro p l e s m args below meth c H locs cells slots A Z lsA C E hP hS hl
  exact lv_goto C.1 C.2.1 hd ht (k p l e s m args below meth c H locs cells slots A Z lsA C E hP hS hl)
theorem ev_icmp_eq {x z : Int} {off : Int} {tgt : Nat} (hd : decode y.2.1 pc = .ok (.if_icmp .eq off, 3)) (ht : (pc : Int) + off = (tgt : Int)) (hx : -2147483648 ≤ x ∧ x < 2147483648) (hz : -2147483648 ≤ z ∧ z < 2147483648) (kt : x = z → Ev b y tgt ls st σ Q) (kf : ¬ x = z → Ev b y (pc + 3) ls st σ Q) : Ev b y pc ls (vI z :: vI x :: st) σ Q := by
  intro p l e s m args below meth c H locs cells slots A Z lsA C E hP hS hl
  exact lv_icmp_eq C.1 C.2.1 hd ht (fun q => kt ((ev_eq hx hz).mp q) p l e s m args below meth c H locs cells slots A Z lsA C E hP hS hl) (fun q => kf (fun w => q ((ev_eq hx hz).mpr w)) p l e s m args below meth c H locs cells slots A Z lsA C E hP hS hl)
theorem ev_if_eq {x : Int} {off : Int} {tgt : Nat} (hd : decode y.2.1 pc = .ok (.ifCond .eq off, 3)) (ht : (pc : Int) + off = (tgt : Int)) (hx : -2147483648 ≤ x ∧ x < 2147483648) (kt : x = 0 → Ev b y tgt ls st σ Q) (kf : ¬ x = 0 → Ev b y (pc + 3) ls st σ Q) : Ev b y pc ls (vI x :: st) σ Q := by
  intro p l e s m args below meth c H locs cells slots A Z lsA C E hP hS hl
  have hz : -2147483648 ≤ (0 : Int) ∧ (0 : Int) < 2147483648 := by decide
  exact lv_if_eq C.1 C.2.1 hd ht (fun q => kt ((ev_eq hx hz).mp q) p l e s m args below meth c H locs cells slots A Z lsA C E hP hS hl) (fun q => kf (fun w => q ((ev_eq hx hz).mpr w)) p l e s m args below meth c H locs cells slots A Z lsA C E hP hS hl)
theorem ev_icmp_ne {x z : Int} {off : Int} {tgt : Nat} (hd : decode y.2.1 pc = .ok (.if_icmp .ne off, 3)) (ht : (pc : Int) + off = (tgt : Int)) (hx : -2147483648 ≤ x ∧ x < 2147483648) (hz : -2147483648 ≤ z ∧ z < 2147483648) (kt : ¬ x = z → Ev b y tgt ls st σ Q) (kf : x = z → Ev b y (pc + 3) ls st σ Q) : Ev b y pc ls (vI z :: vI x :: st) σ Q := by
  intro p l e s m args below meth c H locs cells slots A Z lsA C E hP hS hl
  exact lv_icmp_ne C.1 C.2.1 hd ht (fun q => kt (fun w => q ((ev_eq hx hz).mpr w)) p l e s m args below meth c H locs cells slots A Z lsA C E hP hS hl) (fun q => kf ((ev_eq hx hz).mp q) p l e s m args below meth c H locs cells slots A Z lsA C E hP hS hl)
theorem ev_if_ne {x : Int} {off : Int} {tgt : Nat} (hd : decode y.2.1 pc = .ok (.ifCond .ne off, 3)) (ht : (pc : Int) + off = (tgt : Int)) (hx : -2147483648 ≤ x ∧ x < 2147483648) (kt : ¬ x = 0 → Ev b y tgt ls st σ Q) (kf : x = 0 → Ev b y (pc + 3) ls st σ Q) : Ev b y pc ls (vI x :: st) σ Q := by
  intro p l e s m args below meth c H locs cells slots A Z lsA C E hP hS hl
  have hz : -2147483648 ≤ (0 : Int) ∧ (0 : Int) < 2147483648 := by decide
  exact lv_if_ne C.1 C.2.1 hd ht (fun q => kt (fun w => q ((ev_eq hx hz).mpr w)) p l e s m args below meth c H locs cells slots A Z lsA C E hP hS hl) (fun q => kf ((ev_eq hx hz).mp q) p l e s m args below meth c H locs cells slots A Z lsA C E hP hS hl)
theorem ev_icmp_lt {x z : Int} {off : Int} {tgt : Nat} (hd : decode y.2.1 pc = .ok (.if_icmp .lt off, 3)) (ht : (pc : Int) + off = (tgt : Int)) (hx : -2147483648 ≤ x ∧ x < 2147483648) (hz : -2147483648 ≤ z ∧ z < 2147483648) (kt : x < z → Ev b y tgt ls st σ Q) (kf : ¬ x < z → Ev b y (pc + 3) ls st σ Q) : Ev b y pc ls (vI z :: vI x :: st) σ Q := by
  intro p l e s m args below meth c H locs cells slots A Z lsA C E hP hS hl
  exact lv_icmp_lt C.1 C.2.1 hd ht (fun q => kt ((ev_lt hx hz).mp q) p l e s m args below meth c H locs cells slots A Z lsA C E hP hS hl) (fun q => kf (fun w => q ((ev_lt hx hz).mpr w)) p l e s m args below meth c H locs cells slots A Z lsA C E hP hS hl)
theorem ev_if_lt {x : Int} {off : Int} {tgt : Nat} (hd : decode y.2.1 pc = .ok (.ifCond .lt off, 3)) (ht : (pc : Int) + off = (tgt : Int)) (hx : -2147483648 ≤ x ∧ x < 2147483648) (kt : x < 0 → Ev b y tgt ls st σ Q) (kf : ¬ x < 0 → Ev b y (pc + 3) ls st σ Q) : Ev b y pc ls (vI x :: st) σ Q := by
  intro p l e s m args below meth c H locs cells slots A Z lsA C E hP hS hl
  have hz : -2147483648 ≤ (0 : Int) ∧ (0 : Int) < 2147483648 := by decide
  exact lv_if_lt C.1 C.2.1 hd ht (fun q => kt ((ev_lt hx hz).mp q) p l e s m args below meth c H locs cells slots A Z lsA C E hP hS hl) (fun q => kf (fun w => q ((ev_lt hx hz).mpr w)) p l e s m args below meth c H locs cells slots A Z lsA C E hP hS hl)
theorem ev_icmp_ge {x z : Int} {off : Int} {tgt : Nat} (hd : decode y.2.1 pc = .ok (.if_icmp .ge off, 3)) (ht : (pc : Int) + off = (tgt : Int)) (hx : -2147483648 ≤ x ∧ x < 2147483648) (hz : -2147483648 ≤ z ∧ z < 2147483648) (kt : z ≤ x → Ev b y tgt ls st σ Q) (kf : ¬ z ≤ x → Ev b y (pc + 3) ls st σ Q) : Ev b y pc ls (vI z :: vI x :: st) σ Q := by
  intro p l e s m args below meth c H locs cells slots A Z lsA C E hP hS hl
  exact lv_icmp_ge C.1 C.2.1 hd ht (fun q => kt ((ev_le hz hx).mp q) p l e s m args below meth c H locs cells slots A Z lsA C E hP hS hl) (fun q => kf (fun w => q ((ev_le hz hx).mpr w)) p l e s m args below meth c H locs cells slots A Z lsA C E hP hS hl)
theorem ev_if_ge {x : Int} {off : Int} {tgt : Nat} (hd : decode y.2.1 pc = .ok (.ifCond .ge off, 3)) (ht : (pc : Int) + off = (tgt : Int)) (hx : -2147483648 ≤ x ∧ x < 2147483648) (kt : 0 ≤ x → Ev b y tgt ls st σ Q) (kf : ¬ 0 ≤ x → Ev b y (pc + 3) ls st σ Q) : Ev b y pc ls (vI x :: st) σ Q := by
  intro p l e s m args below meth c H locs cells slots A Z lsA C E hP hS hl
  have hz : -2147483648 ≤ (0 : Int) ∧ (0 : Int) < 2147483648 := by decide
  exact lv_if_ge C.1 C.2.1 hd ht (fun q => kt ((ev_le hz hx).mp q) p l e s m args below meth c H locs cells slots A Z lsA C E hP hS hl) (fun q => kf (fun w => q ((ev_le hz hx).mpr w)) p l e s m args below meth c H locs cells slots A Z lsA C E hP hS hl)
theorem ev_icmp_gt {x z : Int} {off : Int} {tgt : Nat} (hd : decode y.2.1 pc = .ok (.if_icmp .gt off, 3)) (ht : (pc : Int) + off = (tgt : Int)) (hx : -2147483648 ≤ x ∧ x < 2147483648) (hz : -2147483648 ≤ z ∧ z < 2147483648) (kt : z < x → Ev b y tgt ls st σ Q) (kf : ¬ z < x → Ev b y (pc + 3) ls st σ Q) : Ev b y pc ls (vI z :: vI x :: st) σ Q := by
  intro p l e s m args below meth c H locs cells slots A Z lsA C E hP hS hl
  exact lv_icmp_gt C.1 C.2.1 hd ht (fun q => kt ((ev_lt hz hx).mp q) p l e s m args below meth c H locs cells slots A Z lsA C E hP hS hl) (fun q => kf (fun w => q ((ev_lt hz hx).mpr w)) p l e s m args below meth c H locs cells slots A Z lsA C E hP hS hl)
theorem ev_if_gt {x : Int} {off : Int} {tgt : Nat} (hd : decode y.2.1 pc = .ok (.ifCond .gt off, 3)) (ht : (pc : Int) + off = (tgt : Int)) (hx : -2147483648 ≤ x ∧ x < 2147483648) (kt : 0 < x → Ev b y tgt ls st σ Q) (kf : ¬ 0 < x → Ev b y (pc + 3) ls st σ Q) : Ev b y pc ls (vI x :: st) σ Q := by
  intro p l e s m args below meth c H locs cells slots A Z lsA C E hP hS hl
  have hz : -2147483648 ≤ (0 : Int) ∧ (0 : Int) < 2147483648 := by decide
  exact lv_if_gt C.1 C.2.1 hd ht (fun q => kt ((ev_lt hz hx).mp q) p l e s m args below meth c H locs cells slots A Z lsA C E hP hS hl) (fun q => kf (fun w => q ((ev_lt hz hx).mpr w)) p l e s m args below meth c H locs cells slots A Z lsA C E hP hS hl)
theorem ev_icmp_le {x z : Int} {off : Int} {tgt : Nat} (hd : decode y.2.1 pc = .ok (.if_icmp .le off, 3)) (ht : (pc : Int) + off = (tgt : Int)) (hx : -2147483648 ≤ x ∧ x < 2147483648) (hz : -2147483648 ≤ z ∧ z < 2147483648) (kt : x ≤ z → Ev b y tgt ls st σ Q) (kf : ¬ x ≤ z → Ev b y (pc + 3) ls st σ Q) : Ev b y pc ls (vI z :: vI x :: st) σ Q := by
  intro p l e s m args below meth c H locs cells slots A Z lsA C E hP hS hl
  exact lv_icmp_le C.1 C.2.1 hd ht (fun q => kt ((ev_le hx hz).mp q) p l e s m args below meth c H locs cells slots A Z lsA C E hP hS hl) (fun q => kf (fun w => q ((ev_le hx hz).mpr w)) p l e s m args below meth c H locs cells slots A Z lsA C E hP hS hl)
theorem ev_if_le {x : Int} {off : Int} {tgt : Nat} (hd : decode y.2.1 pc = .ok (.ifCond .le off, 3)) (ht : (pc : Int) + off = (tgt : Int)) (hx : -2147483648 ≤ x ∧ x < 2147483648) (kt : x ≤ 0 → Ev b y tgt ls st σ Q) (kf : ¬ x ≤ 0 → Ev b y (pc + 3) ls st σ Q) : Ev b y pc ls (vI x :: st) σ Q := by
  intro p l e s m args below meth c H locs cells slots A Z lsA C E hP hS hl
  have hz : -2147483648 ≤ (0 : Int) ∧ (0 : Int) < 2147483648 := by decide
  exact lv_if_le C.1 C.2.1 hd ht (fun q => kt ((ev_le hx hz).mp q) p l e s m args below meth c H locs cells slots A Z lsA C E hP hS hl) (fun q => kf (fun w => q ((ev_le hx hz).mpr w)) p l e s m args below meth c H locs cells slots A Z lsA C E hP hS hl)
theorem ev_tableOut {dflt lo hi : Int} {offs : Array Int} {len : Nat} {x : Int} {tgt : Nat} (hd : decode y.2.1 pc = .ok (.tableswitch dflt lo hi offs, len)) (hx : -2147483648 ≤ x ∧ x < 2147483648) (h : x < lo ∨ hi < x) (ht : (pc : Int) + dflt = (tgt : Int)) (k : Ev b y tgt ls st σ Q) : Ev b y pc ls (vI x :: st) σ Q := by
  intro p l e s m args below meth c H locs cells slots A Z lsA C E hP hS hl
  exact lv_tableOut C.1 C.2.1 hd (by rw [ev_ti hx]; exact h) ht (k p l e s m args below meth c H locs cells slots A Z lsA C E hP hS hl)
theorem ev_tableIn {dflt lo hi : Int} {offs : Array Int} {len : Nat} {x off : Int} {tgt : Nat} (hd : decode y.2.1 pc = .ok (.tableswitch dflt lo hi offs, len)) (hx : -2147483648 ≤ x ∧ x < 2147483648) (h1 : ¬ x < lo) (h2 : ¬ hi < x) (ho : offs[(x - lo).toNat]? = some off) (ht : (pc : Int) + off = (tgt : Int)) (k : Ev b y tgt ls st σ Q) : Ev b y pc ls (vI x :: st) σ Q := by
  intro p l e s m args below meth c H locs cells slots A Z lsA C E hP hS hl
  exact lv_tableIn C.1 C.2.1 hd (by rw [ev_ti hx]; exact h1) (by rw [ev_ti hx]; exact h2) (by rw [ev_ti hx]; exact ho) ht (k p l e s m args below meth c H locs cells slots A Z lsA C E hP hS hl)
theorem ev_lookup {dflt : Int} {ps : Array (Int × Int)} {len : Nat} {x off : Int} {tgt : Nat} (hd : decode y.2.1 pc = .ok (.lookupswitch dflt ps, len)) (hp : (ps.toList.zip (ps.toList.drop 1)).all (fun (a, next) => a.1 < next.1) = true) (hx : -2147483648 ≤ x ∧ x < 2147483648) (ho : Op.lookupswitch.offset ps.toList dflt x = off) (ht : (pc : Int) + off = (tgt : Int)) (k : Ev b y tgt ls st σ Q) : Ev b y pc ls (vI x :: st) σ Q := by
  intro p l e s m args below meth c H locs cells slots A Z lsA C E hP hS hl
  exact lv_lookup C.1 C.2.1 hd hp (by rw [ev_ti hx]; exact ho) ht (k p l e s m args below meth c H locs cells slots A Z lsA C E hP hS hl)
end EVR
