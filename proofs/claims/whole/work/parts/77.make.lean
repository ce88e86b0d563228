/-! constructors: worlds that grow -/
theorem koX5 : Cond.methodLink RX5 1 objectInit ∈ ev_gw := (ev_gm (ev_t1 21 rfl) rfl)
theorem koX2 : Cond.methodLink RX2 3 objectInit ∈ ev_gw := (ev_gm (ev_t1 29 rfl) rfl)
theorem koX0 : Cond.methodLink RX0 3 objectInit ∈ ev_gw := (ev_gm (ev_t1 104 rfl) rfl)
theorem koX4 : Cond.methodLink RX4 3 objectInit ∈ ev_gw := (ev_gm (ev_t1 127 rfl) rfl)
theorem koX3 : Cond.methodLink RX3 3 objectInit ∈ ev_gw := (ev_gm (ev_t1 157 rfl) rfl)
theorem koX6 : Cond.methodLink RX6 1 objectInit ∈ ev_gw := (ev_gm (ev_t4 1 rfl) rfl)
theorem ko_i : Cond.instanceMethod objectInit ∈ ev_gw := (ev_gm (ev_t1 22 rfl) rfl)
theorem ko_c : Cond.code objectInit ⟨#[0xb1]⟩ 1 none ∈ ev_gw := (ev_gm (ev_t1 23 rfl) rfl)
theorem ka_i : Cond.arrayClass .int ∈ ev_gw := (ev_gm (ev_t1 98 rfl) rfl)
theorem ka_o : Cond.arrayOver (.object RX3) ∈ lw_tbl := (ev_t1 152 rfl)
theorem ka_l : Cond.arrayClass .long ∈ ev_gw := (ev_gm (ev_t1 171 rfl) rfl)
theorem klL_7 : Cond.classLink RL 7 RX5 ∈ ev_gw := (ev_gm (ev_t1 16 rfl) rfl)
theorem klX5_7 : Cond.classLink RX5 7 RX2 ∈ ev_gw := (ev_gm (ev_t1 24 rfl) rfl)
theorem klX5_22 : Cond.classLink RX5 22 RX0 ∈ ev_gw := (ev_gm (ev_t1 99 rfl) rfl)
theorem klX5_29 : Cond.classLink RX5 29 RX4 ∈ ev_gw := (ev_gm (ev_t1 122 rfl) rfl)
theorem klX5_36 : Cond.classLink RX5 36 RX3 ∈ ev_gw := (ev_gm (ev_t1 151 rfl) rfl)
theorem klL_10 : Cond.classLink RL 10 RX6 ∈ ev_gw := (ev_gm (ev_t3 236 rfl) rfl)
theorem kiX0 : Cond.instantiable RX0 5 ∈ ev_gw := (ev_gm (ev_t1 100 rfl) rfl)
theorem knX0 : Cond.initialized RX0 ∈ ev_gw := (ev_gm (ev_t1 4 rfl) rfl)
theorem kcX0 : Cond.code yX0_init cX0_init 1 none ∈ ev_gw := (ev_gm (ev_t1 103 rfl) rfl)
theorem kjX0 : Cond.instanceMethod yX0_init ∈ ev_gw := (ev_gm (ev_t1 102 rfl) rfl)
theorem kiX2 : Cond.instantiable RX2 12 ∈ ev_gw := (ev_gm (ev_t1 25 rfl) rfl)
theorem knX2 : Cond.initialized RX2 ∈ ev_gw := (ev_gm (ev_t1 2 rfl) rfl)
theorem kcX2 : Cond.code yX2_init cX2_init 1 none ∈ ev_gw := (ev_gm (ev_t1 28 rfl) rfl)
theorem kjX2 : Cond.instanceMethod yX2_init ∈ ev_gw := (ev_gm (ev_t1 27 rfl) rfl)
theorem kiX3 : Cond.instantiable RX3 3 ∈ ev_gw := (ev_gm (ev_t1 153 rfl) rfl)
theorem knX3 : Cond.initialized RX3 ∈ ev_gw := (ev_gm (ev_t1 6 rfl) rfl)
theorem kcX3 : Cond.code yX3_init cX3_init 1 none ∈ ev_gw := (ev_gm (ev_t1 156 rfl) rfl)
theorem kjX3 : Cond.instanceMethod yX3_init ∈ ev_gw := (ev_gm (ev_t1 155 rfl) rfl)
theorem kiX4 : Cond.instantiable RX4 7 ∈ ev_gw := (ev_gm (ev_t1 123 rfl) rfl)
theorem knX4 : Cond.initialized RX4 ∈ ev_gw := (ev_gm (ev_t1 5 rfl) rfl)
theorem kcX4 : Cond.code yX4_init cX4_init 1 none ∈ ev_gw := (ev_gm (ev_t1 126 rfl) rfl)
theorem kjX4 : Cond.instanceMethod yX4_init ∈ ev_gw := (ev_gm (ev_t1 125 rfl) rfl)
theorem kiX5 : Cond.instantiable RX5 8 ∈ ev_gw := (ev_gm (ev_t1 17 rfl) rfl)
theorem knX5 : Cond.initialized RX5 ∈ ev_gw := (ev_gm (ev_t1 1 rfl) rfl)
theorem kcX5 : Cond.code yX5_init cX5_init 2 none ∈ ev_gw := (ev_gm (ev_t1 20 rfl) rfl)
theorem kjX5 : Cond.instanceMethod yX5_init ∈ ev_gw := (ev_gm (ev_t1 19 rfl) rfl)
theorem kiX6 : Cond.instantiable RX6 20 ∈ ev_gw := (ev_gm (ev_t3 237 rfl) rfl)
theorem knX6 : Cond.initialized RX6 ∈ ev_gw := (ev_gm (ev_t1 7 rfl) rfl)
theorem kcX6 : Cond.code yX6_init cX6_init 2 none ∈ ev_gw := (ev_gm (ev_t4 0 rfl) rfl)
theorem kjX6 : Cond.instanceMethod yX6_init ∈ ev_gw := (ev_gm (ev_t3 239 rfl) rfl)
theorem kxX0 : Cond.methodLinkNest RX5 24 yX0_init RX5 ∈ lw_tbl := (ev_t1 101 rfl)
theorem kxX4 : Cond.methodLinkNest RX5 31 yX4_init RX5 ∈ lw_tbl := (ev_t1 124 rfl)
theorem kxX3 : Cond.methodLinkNest RX5 46 yX3_init RX5 ∈ lw_tbl := (ev_t1 154 rfl)
def kb_nw : List Cond := [.methodLinkNest RX5 24 yX0_init RX5, .methodLinkNest RX5 31 yX4_init RX5, .methodLinkNest RX5 46 yX3_init RX5]
abbrev kt (cs : Nat → ClassId) : List (ClassId × FieldType) := [(cs 0, .int), (cs 1, .long), (cs 2, .object RX3)]
/-- what every constructor takes -/
def kF (D : va_G) (cs : Nat → ClassId) (U : State) : Prop := va_K D ev_cls (kt cs) U ∧ (∀ w ∈ kb_nw, va_Nw w U) ∧ va_AO RX3 U
theorem kF.warm {D : va_G} {cs : Nat → ClassId} {s U : State} (hW : s.WarmedH U.vm) (h : kF D cs s) : kF D cs U := by
  refine ⟨h.1.moved hW.alike, fun w hw => ?_, h.2.2.moved hW.alike⟩
  have h0 := h.2.1 w hw
  simp only [kb_nw, List.mem_cons, List.not_mem_nil, or_false] at hw
  rcases hw with rfl | rfl | rfl
  · exact h0.warmM hW
  · exact h0.warmM hW
  · exact h0.warmM hW
theorem kF.same {D : va_G} {cs : Nat → ClassId} {s U : State} (hv : U.vm = s.vm) (h : kF D cs s) : kF D cs U := by
  have hal : s.vm.Alike U.vm := by rw [hv]; exact Vm.Alike.refl _
  refine ⟨h.1.moved hal, fun w hw => ?_, h.2.2.moved hal⟩
  have h0 := h.2.1 w hw
  simp only [kb_nw, List.mem_cons, List.not_mem_nil, or_false] at hw
  rcases hw with rfl | rfl | rfl
  · exact h0.same rfl hv.symm
  · exact h0.same rfl hv.symm
  · exact h0.same rfl hv.symm
def kC (D : va_G) (cs : Nat → ClassId) (y : ev_Y) (p : Program) (s : State) (m : MethodId) (args : Array Value) (meth : Method) (c : Code) (A : Nat → Prop) : Prop :=
  p.tables.exec = Jvm.exec ∧ c.code = y.2.1 ∧ c.maxLocals = y.2.2.1 ∧ (y.1.name = "<init>" → meth.name = "<init>") ∧ s.vm.findClass y.1.cls = some m.cls ∧ (∀ w ∈ ev_gw, w.before args s = true) ∧ kF D cs s ∧ ∀ q, s.heap.size ≤ q → A q
abbrev kX : Type := Nat → Nat → Nat → List (Nat × Value) → List Value → va_W → Prop
def kE (D : va_G) (y : ev_Y) (p : Program) (l : Launch) (e : Env) (s : State) (m : MethodId) (args : Array Value) (below : List Frame) (meth : Method) (c : Code) (A : Nat → Prop) (Z : State → Prop) (Q : kX) : Prop :=
  ∀ (cells slots pc : Nat) (ls : List (Nat × Value)) (st : List Value) (w : va_W) (H : Heap) (locs : List Loc) (lsA : Array Slot), Q cells slots pc ls st w → va_P D ev_cls w H → va_D A w → va_S A s.heap H locs → lv_has lsA y.2.2.1 ls → W p l e y.2.2.2.2 s m args below meth c H locs cells slots Z (F0 m pc lsA st)
def Kv (D : va_G) (cs : Nat → ClassId) (y : ev_Y) (cells slots pc : Nat) (ls : List (Nat × Value)) (st : List Value) (ws : va_W) (Q : kX) : Prop :=
  ∀ (p : Program) (l : Launch) (e : Env) (s : State) (m : MethodId) (args : Array Value) (below : List Frame) (meth : Method) (c : Code) (H : Heap) (locs : List Loc) (A : Nat → Prop) (Z : State → Prop) (lsA : Array Slot),
    kC D cs y p s m args meth c A → kE D y p l e s m args below meth c A Z Q → va_P D ev_cls ws H → va_D A ws → va_S A s.heap H locs → lv_has lsA y.2.2.1 ls → W p l e y.2.2.2.2 s m args below meth c H locs cells slots Z (F0 m pc lsA st)
/-- a constructor's end -/
def kR (y : ev_Y) (Q : va_W → Prop) : kX := fun cells slots pc _ st w => decode y.2.1 pc = .ok (.return_, 1) ∧ st = [] ∧ cells ≤ y.2.2.2.2.cells ∧ slots ≤ y.2.2.2.2.slots ∧ Q w
/-- a constructor's contract: what the cell becomes, and what it makes -/
def Kc (D : va_G) (cs : Nat → ClassId) (y : ev_Y) (av : List Value) (h0 : Nat) (e0 : va_E) (Q : va_W → Prop) : Prop :=
  ∀ (l : Launch) (sz : Nat), Met l y.1 (Cond.code y.1 y.2.1 y.2.2.1 none :: ev_gw) y.2.2.2.2 (va_Pc av (fun U => U.heap.size = sz ∧ va_P D ev_cls [(h0, e0)] U.heap ∧ kF D cs U ∧ va_D (fun _ => True) [(h0, e0)]))
    (va_Qv Q (fun w t => va_P D ev_cls w t.heap ∧ va_D (va_A [(h0, e0)] sz) w) (va_A [(h0, e0)] sz)) y.2.2.2.2.cells y.2.2.2.2.slots (va_A [(h0, e0)] sz)
theorem kv_nd : ∀ (n : Nat), va_nd (List.range n) = true := by
  have key : ∀ (l : List Nat), l.Nodup → va_nd l = true := by
    intro l h
    induction l with
    | nil => rfl
    | cons a l ih =>
      rw [List.nodup_cons] at h
      unfold va_nd
      rw [decide_eq_true h.1, ih h.2]
      rfl
  exact fun n => key _ List.nodup_range
theorem va_joinL {A0 : Nat → Prop} {D : va_G} {cl : List vw_C} {wr w1 : va_W} {x : Nat × va_E} {H H1 : Heap} (hP : va_P D cl (wr ++ [x]) H) (hD : va_D A0 (wr ++ [x])) (hk : ∀ q : Nat, q < H.size → ¬ va_A [x] H.size q → H1[q]? = H[q]?) (hF : ∀ q, va_A [x] H.size q → A0 q) (hP1 : va_P D cl w1 H1) (hD1 : va_D (va_A [x] H.size) w1) : va_P D cl (wr ++ w1) H1 ∧ va_D A0 (wr ++ w1) := by
  refine va_join hP hD [wr.length] (List.range wr.length) (by simp) ?_ (kv_nd _) ?_ hk hF hP1 hD1
  · apply List.ext_getElem?
    intro i
    rw [List.getElem?_map, List.getElem?_map]
    by_cases h : i < wr.length
    · rw [List.getElem?_range h, List.getElem?_eq_getElem h]
      show some (wr ++ [x])[i]? = some (some wr[i])
      rw [List.getElem?_append_left h, List.getElem?_eq_getElem h]
    · rw [List.getElem?_eq_none (by simpa using h), List.getElem?_eq_none (by omega)]
      rfl
  · intro i hi
    have := List.mem_range.mp hi
    simp
    omega
section KVR
variable {D : va_G} {cs : Nat → ClassId} {y z : ev_Y} {cells slots pc : Nat} {ls : List (Nat × Value)} {st : List Value} {ws : va_W} {Q : kX}
theorem kv_exit (h : Q cells slots pc ls st ws) : Kv D cs y cells slots pc ls st ws Q := by
  intro p l e s m args below meth c H locs A Z lsA C E hP hD hS hl
  exact E cells slots pc ls st ws H locs lsA h hP hD hS hl
theorem kv_ret {Q : va_W → Prop} (hd : decode y.2.1 pc = .ok (.return_, 1)) (h1 : cells ≤ y.2.2.2.2.cells) (h2 : slots ≤ y.2.2.2.2.slots) (hQ : Q ws) : Kv D cs y cells slots pc ls [] ws (kR y Q) := kv_exit ⟨hd, rfl, h1, h2, hQ⟩
theorem kv_ls {ls' : List (Nat × Value)} (ks : List Nat) (h : lv_pick ls ks = ls') (kk : Kv D cs y cells slots pc ls' st ws Q) : Kv D cs y cells slots pc ls st ws Q := by
  intro p l e s m args below meth c H locs A Z lsA C E hP hD hS hl
  exact kk p l e s m args below meth c H locs A Z lsA C E hP hD hS (lv_sub hl ks h)
theorem kv_astore {j : Fin 4} {x : Nat} {ls' : List (Nat × Value)} (hd : decode y.2.1 pc = .ok (.astore_n j, 1)) (hn : j.val < y.2.2.1) (hu : (j.val, Value.ref x) :: ls.filter (fun q => !(q.1 == j.val) && !(q.1 + 1 == j.val && q.2.category == 2)) = ls') (kk : Kv D cs y cells slots (pc + 1) ls' st ws Q) : Kv D cs y cells slots pc ls (.ref x :: st) ws Q := by
  intro p l e s m args below meth c H locs A Z lsA C E hP hD hS hl
  exact lv_astore_n C.1 C.2.1 hd rfl hl hn hu (fun l2 hl2 => kk p l e s m args below meth c H locs A Z l2 C E hP hD hS hl2)
theorem kv_alen {a n : Nat} {f : Nat → Int32} (q0 : Nat) (hd : decode y.2.1 pc = .ok (.arraylength, 1)) (ha : ws[q0]? = some (a, .inl (cs 0, n, .inl f))) (kk : Kv D cs y cells slots (pc + 1) ls (.int (Int32.ofNat n) :: st) ws Q) : Kv D cs y cells slots pc ls (.ref a :: st) ws Q := by
  intro p l e s m args below meth c H locs A Z lsA C E hP hD hS hl
  exact va_alen C.1 C.2.1 C.2.2.2.2.2.2.1.1 hP q0 0 ha rfl rfl hd (kk p l e s m args below meth c H locs A Z lsA C E hP hD hS hl)
theorem kv_iast {a n : Nat} {f : Nat → Int32} {i x : Int32} (q0 : Nat) (hd : decode y.2.1 pc = .ok (.iastore, 1)) (ha : ws[q0]? = some (a, .inl (cs 0, n, .inl f))) (hin : vp_in i n) (kk : Kv D cs y cells slots (pc + 1) ls st (ws.set q0 (a, .inl (cs 0, n, .inl (upd f i.toNatClampNeg x)))) Q) : Kv D cs y cells slots pc ls (.int x :: .int i :: .ref a :: st) ws Q := by
  intro p l e s m args below meth c H locs A Z lsA C E hP hD hS hl
  exact va_iast C.1 C.2.1 C.2.2.2.2.2.2.1.1 hP hD hS q0 0 ha rfl hin hd (fun H1 locs1 hP1 hD1 hS1 => kk p l e s m args below meth c H1 locs1 A Z lsA C E hP1 hD1 hS1 hl)
theorem kv_aast {a n v : Nat} {f : Nat → Option Nat} {vs : List Value} {i : Int32} (q0 qk : Nat) (hd : decode y.2.1 pc = .ok (.aastore, 1)) (ha : ws[q0]? = some (a, .inl (cs 2, n, .inr (.inr (.inr (.inr f)))))) (hv : ws[qk]? = some (v, .inr (2, vs))) (hin : vp_in i n) (kk : Kv D cs y cells slots (pc + 1) ls st (ws.set q0 (a, .inl (cs 2, n, .inr (.inr (.inr (.inr (va_up f i.toNatClampNeg (some v)))))))) Q) : Kv D cs y cells slots pc ls (.ref v :: .int i :: .ref a :: st) ws Q := by
  intro p l e s m args below meth c H locs A Z lsA C E hP hD hS hl
  exact va_astq (r := (RX3, TX3, 3)) C.1 C.2.1 C.2.2.2.2.2.2.1.1 hP hD hS q0 2 qk 2 ha rfl hv rfl hin hd (fun H1 locs1 hP1 hD1 hS1 => kk p l e s m args below meth c H1 locs1 A Z lsA C E hP1 hD1 hS1 hl)
theorem kv_aload {j : Fin 4} {a : Nat} (k : Nat) (hd : decode y.2.1 pc = .ok (.aload_n j, 1)) (hk : ls[k]? = some (j.val, .ref a)) (kk : Kv D cs y cells slots (pc + 1) ls (.ref a :: st) ws Q) : Kv D cs y cells slots pc ls st ws Q := by
  intro p l e s m args below meth c H locs A Z lsA C E hP hD hS hl
  exact lv_aload_n C.1 C.2.1 hd rfl (lv_at hl k hk) (kk p l e s m args below meth c H locs A Z lsA C E hP hD hS hl)
theorem kv_iload {j : Fin 4} {x : Int32} (k : Nat) (hd : decode y.2.1 pc = .ok (.iload_n j, 1)) (hk : ls[k]? = some (j.val, .int x)) (kk : Kv D cs y cells slots (pc + 1) ls (.int x :: st) ws Q) : Kv D cs y cells slots pc ls st ws Q := by
  intro p l e s m args below meth c H locs A Z lsA C E hP hD hS hl
  exact lv_iload_n C.1 C.2.1 hd rfl (lv_at hl k hk) (kk p l e s m args below meth c H locs A Z lsA C E hP hD hS hl)
theorem kv_iconst {n : Int} (hd : decode y.2.1 pc = .ok (.iconst n, 1)) (kk : Kv D cs y cells slots (pc + 1) ls (.int (Int32.ofInt n) :: st) ws Q) : Kv D cs y cells slots pc ls st ws Q := by
  intro p l e s m args below meth c H locs A Z lsA C E hP hD hS hl
  exact lv_iconst C.1 C.2.1 hd rfl (kk p l e s m args below meth c H locs A Z lsA C E hP hD hS hl)
theorem kv_bipush {n : Int} (hd : decode y.2.1 pc = .ok (.bipush n, 2)) (hv : (Int8.ofInt n).toInt32 = Int32.ofInt n) (kk : Kv D cs y cells slots (pc + 2) ls (.int (Int32.ofInt n) :: st) ws Q) : Kv D cs y cells slots pc ls st ws Q := by
  intro p l e s m args below meth c H locs A Z lsA C E hP hD hS hl
  exact lv_bipush C.1 C.2.1 hd hv (kk p l e s m args below meth c H locs A Z lsA C E hP hD hS hl)
theorem kv_sipush {n : Int} (hd : decode y.2.1 pc = .ok (.sipush n, 3)) (hv : (Int16.ofInt n).toInt32 = Int32.ofInt n) (kk : Kv D cs y cells slots (pc + 3) ls (.int (Int32.ofInt n) :: st) ws Q) : Kv D cs y cells slots pc ls st ws Q := by
  intro p l e s m args below meth c H locs A Z lsA C E hP hD hS hl
  exact lv_sipush C.1 C.2.1 hd hv (kk p l e s m args below meth c H locs A Z lsA C E hP hD hS hl)
theorem kv_dup {v : Value} (hd : decode y.2.1 pc = .ok (.dup, 1)) (hv : v.category = 1) (kk : Kv D cs y cells slots (pc + 1) ls (v :: v :: st) ws Q) : Kv D cs y cells slots pc ls (v :: st) ws Q := by
  intro p l e s m args below meth c H locs A Z lsA C E hP hD hS hl
  exact lv_dup C.1 C.2.1 hd hv (kk p l e s m args below meth c H locs A Z lsA C E hP hD hS hl)
theorem kv_istore {j : Fin 4} {x : Int32} {ls' : List (Nat × Value)} (hd : decode y.2.1 pc = .ok (.istore_n j, 1)) (hn : j.val < y.2.2.1) (hu : (j.val, Value.int x) :: ls.filter (fun q => !(q.1 == j.val) && !(q.1 + 1 == j.val && q.2.category == 2)) = ls') (kk : Kv D cs y cells slots (pc + 1) ls' st ws Q) : Kv D cs y cells slots pc ls (.int x :: st) ws Q := by
  intro p l e s m args below meth c H locs A Z lsA C E hP hD hS hl
  exact lv_istore_n C.1 C.2.1 hd rfl hl hn hu (fun l2 hl2 => kk p l e s m args below meth c H locs A Z l2 C E hP hD hS hl2)
theorem kv_iinc {i k : Nat} {n : Int} {x v : Int32} {ls' : List (Nat × Value)} (hd : decode y.2.1 pc = .ok (.iinc i n, 3)) (hk : ls[k]? = some (i, .int x)) (hv : x + Int32.ofInt n = v) (hn : i < y.2.2.1) (hu : (i, Value.int v) :: ls.filter (fun q => !(q.1 == i) && !(q.1 + 1 == i && q.2.category == 2)) = ls') (kk : Kv D cs y cells slots (pc + 3) ls' st ws Q) : Kv D cs y cells slots pc ls st ws Q := by
  intro p l e s m args below meth c H locs A Z lsA C E hP hD hS hl
  exact lv_iinc C.1 C.2.1 hd hl hk hv hn hu (fun l2 hl2 => kk p l e s m args below meth c H locs A Z l2 C E hP hD hS hl2)
theorem kv_goto {off : Int} {tgt : Nat} (hd : decode y.2.1 pc = .ok (.goto off, 3)) (ht : (pc : Int) + off = (tgt : Int)) (kk : Kv D cs y cells slots tgt ls st ws Q) : Kv D cs y cells slots pc ls st ws Q := by
  intro p l e s m args below meth c H locs A Z lsA C E hP hD hS hl
  exact lv_goto C.1 C.2.1 hd ht (kk p l e s m args below meth c H locs A Z lsA C E hP hD hS hl)
theorem kv_ge {x w : Int32} {off : Int} {tgt : Nat} (hd : decode y.2.1 pc = .ok (.if_icmp .ge off, 3)) (ht : (pc : Int) + off = (tgt : Int)) (kt : w ≤ x → Kv D cs y cells slots tgt ls st ws Q) (kf : ¬ w ≤ x → Kv D cs y cells slots (pc + 3) ls st ws Q) : Kv D cs y cells slots pc ls (.int w :: .int x :: st) ws Q := by
  intro p l e s m args below meth c H locs A Z lsA C E hP hD hS hl
  exact lv_icmp_ge C.1 C.2.1 hd ht (fun q => kt q p l e s m args below meth c H locs A Z lsA C E hP hD hS hl) (fun q => kf q p l e s m args below meth c H locs A Z lsA C E hP hD hS hl)
theorem kv_iadd {x w : Int32} (hd : decode y.2.1 pc = .ok (.iadd, 1)) (kk : Kv D cs y cells slots (pc + 1) ls (.int (x + w) :: st) ws Q) : Kv D cs y cells slots pc ls (.int w :: .int x :: st) ws Q := by
  intro p l e s m args below meth c H locs A Z lsA C E hP hD hS hl
  exact lv_iadd C.1 C.2.1 hd (kk p l e s m args below meth c H locs A Z lsA C E hP hD hS hl)
theorem kv_obj {i a : Nat} (hd : decode y.2.1 pc = .ok (.invokespecial i, 3)) (hw : Cond.methodLink y.1.cls i objectInit ∈ ev_gw) (hR : 1 ≤ y.2.2.2.2.frames ∧ (st.map fun v => v.category).sum + 12 ≤ y.2.2.2.2.locals) (kk : Kv D cs y cells slots (pc + 3) ls st ws Q) : Kv D cs y cells slots pc ls (.ref a :: st) ws Q := by
  intro p l e s m args below meth c H locs A Z lsA C E hP hD hS hl
  have hts := C.2.2.2.2.2.1
  refine W.objInit C.1 C.2.1 C.2.2.2.2.1 (hts _ hw) (hts _ ko_i) (hts _ ko_c) rfl (by rw [C.2.2.1]; exact hl.1) rfl hd hR.1 (by show 2 * 0 + _ + 12 ≤ _; omega) ?_
  exact kk p l e s m args below meth c H locs A Z lsA C E hP hD hS hl
theorem kv_cI {cA : ClassId} {U : State} (h : va_K D ev_cls (kt cs ++ [(cA, .int)]) U) : cA = cs 0 := by
  have a : U.vm.findClass ("[" ++ FieldType.int.toString) = some (cs 0) := (h.2 0 (cs 0, .int) rfl).2
  have b : U.vm.findClass ("[" ++ FieldType.int.toString) = some cA := (h.2 3 (cA, .int) rfl).2
  exact (Option.some.inj (a.symm.trans b)).symm
theorem kv_cL {cA : ClassId} {U : State} (h : va_K D ev_cls (kt cs ++ [(cA, .long)]) U) : cA = cs 1 := by
  have a : U.vm.findClass ("[" ++ FieldType.long.toString) = some (cs 1) := (h.2 1 (cs 1, .long) rfl).2
  have b : U.vm.findClass ("[" ++ FieldType.long.toString) = some cA := (h.2 3 (cA, .long) rfl).2
  exact (Option.some.inj (a.symm.trans b)).symm
theorem kv_cO {cA : ClassId} {U : State} (h : va_K D ev_cls (kt cs ++ [(cA, .object RX3)]) U) : cA = cs 2 := by
  obtain ⟨_, _, _, _, _, a⟩ := (h.2 2 (cs 2, .object RX3) rfl).2
  obtain ⟨_, _, _, _, _, b⟩ := (h.2 3 (cA, .object RX3) rfl).2
  exact (Option.some.inj (a.symm.trans b)).symm
theorem kv_newi {n : Int32} {N : Nat} (hd : decode y.2.1 pc = .ok (.newarray .int, 2)) (hn : ¬ n < 0) (hN : n.toNatClampNeg = N) (hb : N * 4 ≤ 536870912) (hc : cells + 1 ≤ y.2.2.2.2.cells) (hs : slots + N ≤ y.2.2.2.2.slots) (kk : ∀ q : Nat, Kv D cs y (cells + 1) (slots + N) (pc + 2) ls (.ref q :: st) (ws ++ [(q, .inl (cs 0, N, .inl (fun _ => Int32.ofInt 0)))]) Q) : Kv D cs y cells slots pc ls (.int n :: st) ws Q := by
  intro p l e s m args below meth c H locs A Z lsA C E hP hD hS hl
  refine va_newa (atype := .int) (ty := .int) (a0 := (N, .inl (fun _ => Int32.ofInt 0))) C.1 C.2.1 (C.2.2.2.2.2.1 _ ka_i) rfl C.2.2.2.2.2.2.1.1 hP hD hS C.2.2.2.2.2.2.2 (fun cA => rfl) hn hN hb hc hs hd (fun q cA H1 hK1 hP1 hD1 hS1 => ?_)
  obtain rfl := kv_cI hK1
  exact kk q p l e s m args below meth c H1 locs A Z lsA C E hP1 hD1 hS1 hl
theorem kv_newl {n : Int32} {N : Nat} (hd : decode y.2.1 pc = .ok (.newarray .long, 2)) (hn : ¬ n < 0) (hN : n.toNatClampNeg = N) (hb : N * 8 ≤ 536870912) (hc : cells + 1 ≤ y.2.2.2.2.cells) (hs : slots + N ≤ y.2.2.2.2.slots) (kk : ∀ q : Nat, Kv D cs y (cells + 1) (slots + N) (pc + 2) ls (.ref q :: st) (ws ++ [(q, .inl (cs 1, N, .inr (.inl (fun _ => Int64.ofInt 0))))]) Q) : Kv D cs y cells slots pc ls (.int n :: st) ws Q := by
  intro p l e s m args below meth c H locs A Z lsA C E hP hD hS hl
  refine va_newa (atype := .long) (ty := .long) (a0 := (N, .inr (.inl (fun _ => Int64.ofInt 0)))) C.1 C.2.1 (C.2.2.2.2.2.1 _ ka_l) rfl C.2.2.2.2.2.2.1.1 hP hD hS C.2.2.2.2.2.2.2 (fun cA => rfl) hn hN hb hc hs hd (fun q cA H1 hK1 hP1 hD1 hS1 => ?_)
  obtain rfl := kv_cL hK1
  exact kk q p l e s m args below meth c H1 locs A Z lsA C E hP1 hD1 hS1 hl
theorem kv_newo {i : Nat} {n : Int32} {N : Nat} (hd : decode y.2.1 pc = .ok (.anewarray i, 3)) (hw : Cond.classLink y.1.cls i RX3 ∈ ev_gw) (hn : ¬ n < 0) (hN : n.toNatClampNeg = N) (hb : N * 4 ≤ 536870912) (hc : cells + 1 ≤ y.2.2.2.2.cells) (hs : slots + N ≤ y.2.2.2.2.slots) (kk : ∀ q : Nat, Kv D cs y (cells + 1) (slots + N) (pc + 3) ls (.ref q :: st) (ws ++ [(q, .inl (cs 2, N, .inr (.inr (.inr (.inr (fun _ => none))))))]) Q) : Kv D cs y cells slots pc ls (.int n :: st) ws Q := by
  intro p l e s m args below meth c H locs A Z lsA C E hP hD hS hl
  refine va_newq C.1 C.2.1 C.2.2.2.2.1 (C.2.2.2.2.2.1 _ hw) C.2.2.2.2.2.2.1.2.2 C.2.2.2.2.2.2.1.1 hP hD hS C.2.2.2.2.2.2.2 hn hN hb hc hs hd (fun q cA H1 hK1 hP1 hD1 hS1 => ?_)
  obtain rfl := kv_cO hK1
  exact kk q p l e s m args below meth c H1 locs A Z lsA C E hP1 hD1 hS1 hl
theorem kv_putr {h ci i q : Nat} (j : Nat) {fs : List Value} {CC : String} {T : u_T} {N : Nat} {ty0 : Nat → FieldType} {ty : FieldType} (hd : decode y.2.1 pc = .ok (.putfield i, 3)) (hcl : ev_cls[ci]? = some (CC, T, N)) (hw : Cond.fieldLink y.1.cls i (T j).1 (T j).2.1 (T j).2.2.1 ∈ ev_gw) (hin : ∀ w ∈ u_ws CC T N, w ∈ ev_gw) (hty : ∀ k, k < N → parseFieldDescriptor (T k).2.2.1 = some (ty0 k)) (hnm : ∀ a, a < N → ∀ b, b < N → a ≠ b → (T a).2.1 ≠ (T b).2.1) (hj : j < N) (hf : (T j).2.2.2 = true) (hy : y.1.name = "<init>") (hdc : (T j).1 = y.1.cls) (hp : parseFieldDescriptor (T j).2.2.1 = some ty) (hna : narrow ty (.ref q) = .ref q) (hfi : fits ty (.ref q) = true) (hlen : j < fs.length)
    (kk : Kv D cs y cells slots (pc + 3) ls st ((h, .inr (ci, fs.set j (.ref q))) :: ws) Q) : Kv D cs y cells slots pc ls (.ref q :: .ref h :: st) ((h, .inr (ci, fs)) :: ws) Q := by
  intro p l e s m args below meth c H locs A Z lsA C E hP hD hS hl
  refine va_putF (C := CC) (v := .ref q) C.1 C.2.1 C.2.2.2.2.2.1 hin ty0 hty hnm C.2.2.2.2.1 C.2.2.2.2.2.2.1.1 hP hD hS 0 rfl hcl j hj (C.2.2.2.2.2.1 _ hw) (fun _ h => h) hf (C.2.2.2.1 hy) hdc hp hna hfi hlen hd (fun H1 locs1 hP1 hD1 hS1 => ?_)
  exact kk p l e s m args below meth c H1 locs1 A Z lsA C E hP1 hD1 hS1 hl
theorem kv_puti {h ci i : Nat} (j : Nat) {x : Int32} {fs : List Value} {CC : String} {T : u_T} {N : Nat} {ty0 : Nat → FieldType} (hd : decode y.2.1 pc = .ok (.putfield i, 3)) (hcl : ev_cls[ci]? = some (CC, T, N)) (hw : Cond.fieldLink y.1.cls i (T j).1 (T j).2.1 (T j).2.2.1 ∈ ev_gw) (hin : ∀ w ∈ u_ws CC T N, w ∈ ev_gw) (hty : ∀ k, k < N → parseFieldDescriptor (T k).2.2.1 = some (ty0 k)) (hnm : ∀ a, a < N → ∀ b, b < N → a ≠ b → (T a).2.1 ≠ (T b).2.1) (hj : j < N) (hf : (T j).2.2.2 = false) (hp : parseFieldDescriptor (T j).2.2.1 = some .int) (hlen : j < fs.length)
    (kk : Kv D cs y cells slots (pc + 3) ls st ((h, .inr (ci, fs.set j (.int x))) :: ws) Q) : Kv D cs y cells slots pc ls (.int x :: .ref h :: st) ((h, .inr (ci, fs)) :: ws) Q := by
  intro p l e s m args below meth c H locs A Z lsA C E hP hD hS hl
  refine va_put (C := CC) (v := .int x) C.1 C.2.1 C.2.2.2.2.2.1 hin ty0 hty hnm C.2.2.2.2.1 C.2.2.2.2.2.2.1.1 hP hD hS 0 rfl hcl j hj (C.2.2.2.2.2.1 _ hw) (fun _ h => h) hf hp rfl rfl hlen hd (fun H1 locs1 hP1 hD1 hS1 => ?_)
  exact kk p l e s m args below meth c H1 locs1 A Z lsA C E hP1 hD1 hS1 hl
theorem kv_getr {h ci i q : Nat} (j : Nat) {fs : List Value} {CC : String} {T : u_T} {N : Nat} (hd : decode y.2.1 pc = .ok (.getfield i, 3)) (hcl : ev_cls[ci]? = some (CC, T, N)) (hw : Cond.fieldLink y.1.cls i (T j).1 (T j).2.1 (T j).2.2.1 ∈ ev_gw) (hin : ∀ w ∈ u_ws CC T N, w ∈ ev_gw) (hj : j < N) (hv : fs[j]? = some (.ref q))
    (kk : Kv D cs y cells slots (pc + 3) ls (.ref q :: st) ((h, .inr (ci, fs)) :: ws) Q) : Kv D cs y cells slots pc ls (.ref h :: st) ((h, .inr (ci, fs)) :: ws) Q := by
  intro p l e s m args below meth c H locs A Z lsA C E hP hD hS hl
  exact va_get (C := CC) (v := .ref q) C.1 C.2.1 C.2.2.2.2.2.1 hin C.2.2.2.2.1 C.2.2.2.2.2.2.1.1 hP 0 rfl hcl j hj (C.2.2.2.2.2.1 _ hw) (fun _ h => h) hv hd (kk p l e s m args below meth c H locs A Z lsA C E hP hD hS hl)
theorem kv_new {ci i : Nat} {CC : String} {T : u_T} {N : Nat} {ty0 : Nat → FieldType} (fs : List Value) (hd : decode y.2.1 pc = .ok (.new i, 3)) (hcl : ev_cls[ci]? = some (CC, T, N)) (hw : Cond.classLink y.1.cls i CC ∈ ev_gw) (hi : Cond.instantiable CC N ∈ ev_gw) (hn : Cond.initialized CC ∈ ev_gw) (hin : ∀ w ∈ u_ws CC T N, w ∈ ev_gw) (hty : ∀ k, k < N → parseFieldDescriptor (T k).2.2.1 = some (ty0 k)) (hfs : ∀ j, j < N → defaultValue (ty0 j) = vp_V fs j) (hc : cells + 1 ≤ y.2.2.2.2.cells) (hs : slots + N ≤ y.2.2.2.2.slots) (kk : ∀ q : Nat, Kv D cs y (cells + 1) (slots + N) (pc + 3) ls (.ref q :: st) (ws ++ [(q, .inr (ci, fs))]) Q) : Kv D cs y cells slots pc ls st ws Q := by
  intro p l e s m args below meth c H locs A Z lsA C E hP hD hS hl
  refine va_new (ci := ci) (fs := fs) (C := CC) (T := T) (N := N) C.1 C.2.1 C.2.2.2.2.2.1 hin ty0 hty C.2.2.2.2.1 (C.2.2.2.2.2.1 _ hw) (C.2.2.2.2.2.1 _ hi) (C.2.2.2.2.2.1 _ hn) C.2.2.2.2.2.2.1.1 hP hD hS C.2.2.2.2.2.2.2 hcl hfs hc hs hd (fun q H1 hP1 hD1 hS1 => ?_)
  exact kk q p l e s m args below meth c H1 locs A Z lsA C E hP1 hD1 hS1 hl
theorem kv_gc {w : Cond} (h : w ∈ ev_gw) : GoodIn ev_gw (w :: ev_gw) := by
  intro v hv
  rcases List.mem_cons.mp hv with rfl | hv
  · exact ev_gg _ h
  · exact ev_gg _ hv
def kOk (z : ev_Y) : Prop := Cond.code z.1 z.2.1 z.2.2.1 none ∈ ev_gw ∧ Cond.initialized z.1.cls ∈ ev_gw ∧ Cond.instanceMethod z.1 ∈ ev_gw ∧ z.1.name = "<init>" ∧ (z.1.cls ≠ "java/lang/invoke/MethodHandle" ∧ z.1.cls ≠ "java/lang/invoke/VarHandle" ∧ (parseMethodDescriptor z.1.desc).map (fun d => d.parameters.length) = some 0)
theorem kv_blind {av : List Value} {h0 sz : Nat} {e0 : va_E} : FrameBlind (va_Pc av (fun U => U.heap.size = sz ∧ va_P D ev_cls [(h0, e0)] U.heap ∧ kF D cs U ∧ va_D (fun _ => True) [(h0, e0)])) := by
  intro a U g mk h
  exact ⟨h.1, h.2.1, h.2.2.1, (h.2.2.2.1).same (s := U) (U := U.calling g mk a) rfl, h.2.2.2.2⟩
theorem kv_callI {i q : Nat} {e1 : va_E} {Q1 : va_W → Prop} (hc : Kc D cs z [.ref q] q e1 Q1) (ok : kOk z) (hd : decode y.2.1 pc = .ok (.invokespecial i, 3)) (hw : Cond.methodLink y.1.cls i z.1 ∈ ev_gw) (hR : z.2.2.2.2.frames + 1 ≤ y.2.2.2.2.frames ∧ 8 + (z.2.2.1 + 11) + z.2.2.2.2.locals ≤ y.2.2.2.2.locals) (hst : (st.map fun v => v.category).sum ≤ 8) (hcs : cells + z.2.2.2.2.cells ≤ y.2.2.2.2.cells ∧ slots + z.2.2.2.2.slots ≤ y.2.2.2.2.slots)
    (kk : ∀ w : va_W, Q1 w → Kv D cs y (cells + z.2.2.2.2.cells) (slots + z.2.2.2.2.slots) (pc + 3) ls st (ws ++ w) Q) : Kv D cs y cells slots pc ls (.ref q :: st) (ws ++ [(q, e1)]) Q := by
  intro p l e s m args below meth c H locs A Z lsA C E hP hD hS hl
  have hts := C.2.2.2.2.2.1
  have hPc : va_P D ev_cls [(q, e1)] H := hP.sub [ws.length] (by simp)
  have hDc : va_D A [(q, e1)] := hD.sub [ws.length] rfl (by simp)
  have hFc := va_free (wc := [(q, e1)]) hD hS C.2.2.2.2.2.2.2 [ws.length] (by simp)
  obtain ⟨ok1, ok2, ok3, ok4, ok5⟩ := ok
  refine va_callv (va_runI (As := []) (rest := st) (b := q) (Ts := ev_gw) (own := y.1.cls) (nL := y.2.2.1) (cc := y.2.1) (index := i) (bytes := z.2.1) (maxL := z.2.2.1) (n := 0) ⟨C.1, C.2.1, C.2.2.1, C.2.2.2.2.1, hts⟩ (hc l H.size) (cwI 0 hts (kv_gc ok1) rfl rfl rfl (hts _ ok2) (hts _ hw) (hts _ ok3) ok4 ok5 hR) ⟨kv_blind, fun U hU hW => ⟨rfl, by rw [hU], by rw [hU]; exact hPc, C.2.2.2.2.2.2.1.warm hW, hDc.weaken (fun _ _ _ _ => trivial)⟩⟩ rfl rfl hl.1 rfl (lv_room hst) hd hcs) hS (fun q _ h => hFc q h) hFc (fun w t H1 locs1 ht hvm hq hB hz hk hS1 => ?_)
  obtain ⟨hP1, hD1⟩ := hB
  rw [ht] at hP1
  obtain ⟨hP2, hD2⟩ := va_joinL hP hD hk hFc hP1 hD1
  exact kk w hq p l e s m args below meth c H1 locs1 A Z lsA C E hP2 hD2 hS1 hl
theorem kv_callIN {i q : Nat} {host : String} {e1 : va_E} {Q1 : va_W → Prop} (hc : Kc D cs z [.ref q] q e1 Q1) (ok : kOk z) (hd : decode y.2.1 pc = .ok (.invokespecial i, 3)) (hw : Cond.methodLinkNest y.1.cls i z.1 host ∈ kb_nw) (hR : z.2.2.2.2.frames + 1 ≤ y.2.2.2.2.frames ∧ 8 + (z.2.2.1 + 11) + z.2.2.2.2.locals ≤ y.2.2.2.2.locals) (hst : (st.map fun v => v.category).sum ≤ 8) (hcs : cells + z.2.2.2.2.cells ≤ y.2.2.2.2.cells ∧ slots + z.2.2.2.2.slots ≤ y.2.2.2.2.slots)
    (kk : ∀ w : va_W, Q1 w → Kv D cs y (cells + z.2.2.2.2.cells) (slots + z.2.2.2.2.slots) (pc + 3) ls st (ws ++ w) Q) : Kv D cs y cells slots pc ls (.ref q :: st) (ws ++ [(q, e1)]) Q := by
  intro p l e s m args below meth c H locs A Z lsA C E hP hD hS hl
  have hts := C.2.2.2.2.2.1
  have hPc : va_P D ev_cls [(q, e1)] H := hP.sub [ws.length] (by simp)
  have hDc : va_D A [(q, e1)] := hD.sub [ws.length] rfl (by simp)
  have hFc := va_free (wc := [(q, e1)]) hD hS C.2.2.2.2.2.2.2 [ws.length] (by simp)
  obtain ⟨ok1, ok2, ok3, ok4, ok5⟩ := ok
  refine va_callv (va_runIN (As := []) (rest := st) (b := q) (Ts := ev_gw) (own := y.1.cls) (host := host) (nL := y.2.2.1) (cc := y.2.1) (index := i) (bytes := z.2.1) (maxL := z.2.2.1) (n := 0) ⟨C.1, C.2.1, C.2.2.1, C.2.2.2.2.1, hts⟩ (hc l H.size) ⟨va_cnB 0 hts (kv_gc ok1) rfl rfl rfl (C.2.2.2.2.2.2.1.2.1 _ hw) (hts _ ok2) ok5 hR, ok4, hts _ ok3⟩ ⟨kv_blind, fun U hU hW => ⟨rfl, by rw [hU], by rw [hU]; exact hPc, C.2.2.2.2.2.2.1.warm hW, hDc.weaken (fun _ _ _ _ => trivial)⟩⟩ rfl rfl hl.1 rfl (lv_room hst) hd hcs) hS (fun q _ h => hFc q h) hFc (fun w t H1 locs1 ht hvm hq hB hz hk hS1 => ?_)
  obtain ⟨hP1, hD1⟩ := hB
  rw [ht] at hP1
  obtain ⟨hP2, hD2⟩ := va_joinL hP hD hk hFc hP1 hD1
  exact kk w hq p l e s m args below meth c H1 locs1 A Z lsA C E hP2 hD2 hS1 hl
theorem kv_sub {ws' : va_W} (is : List Nat) (hs : is.filterMap (fun i => ws[i]?) = ws') (hn : va_nd is = true) (hm : is.map (fun i => ws[i]?) = ws'.map some) (kk : Kv D cs y cells slots pc ls st ws' Q) : Kv D cs y cells slots pc ls st ws Q := by
  intro p l e s m args below meth c H locs A Z lsA C E hP hD hS hl
  exact kk p l e s m args below meth c H locs A Z lsA C E (hP.sub is hs) (hD.sub is hn hm) hS hl
theorem kv_callS {i a : Nat} {av : List Value} {e1 : va_E} {wr : va_W} {Q1 : va_W → Prop} {stk : List Value} (ic : Nat) (isR : List Nat) (hc : Kc D cs z av a e1 Q1) (ok1 : Cond.code z.1 z.2.1 z.2.2.1 none ∈ ev_gw) (ok2 : Cond.initialized z.1.cls ∈ ev_gw) (ok3 : Cond.static z.1 ∈ ev_gw) (ok5 : z.1.cls ≠ "java/lang/invoke/MethodHandle" ∧ z.1.cls ≠ "java/lang/invoke/VarHandle" ∧ (parseMethodDescriptor z.1.desc).map (fun d => d.parameters.length) = some av.length) (hd : decode y.2.1 pc = .ok (.invokestatic i, 3)) (hw : Cond.methodLink y.1.cls i z.1 ∈ ev_gw) (hR : z.2.2.2.2.frames + 1 ≤ y.2.2.2.2.frames ∧ 8 + (z.2.2.1 + 11) + z.2.2.2.2.locals ≤ y.2.2.2.2.locals) (hs : stk = av.reverse ++ st) (hst : (st.map fun v => v.category).sum ≤ 8) (hcs : cells + z.2.2.2.2.cells ≤ y.2.2.2.2.cells ∧ slots + z.2.2.2.2.slots ≤ y.2.2.2.2.slots)
    (hC : [ic].map (fun i => ws[i]?) = [(a, e1)].map some) (hRR : isR.map (fun i => ws[i]?) = wr.map some) (hn : va_nd isR = true) (hdis : ∀ i ∈ isR, i ∉ [ic])
    (kk : ∀ w : va_W, Q1 w → Kv D cs y (cells + z.2.2.2.2.cells) (slots + z.2.2.2.2.slots) (pc + 3) ls st (wr ++ w) Q) : Kv D cs y cells slots pc ls stk ws Q := by
  subst hs
  intro p l e s m args below meth c H locs A Z lsA C E hP hD hS hl
  have hts := C.2.2.2.2.2.1
  have hi : ws[ic]? = some (a, e1) := by
    have := hC
    simp only [List.map_cons, List.map_nil, List.cons.injEq, and_true] at this
    exact this
  have hPc : va_P D ev_cls [(a, e1)] H := hP.sub [ic] (by simp [hi])
  have hDc : va_D A [(a, e1)] := hD.sub [ic] rfl hC
  have hFc := va_free (wc := [(a, e1)]) hD hS C.2.2.2.2.2.2.2 [ic] hC
  refine va_callv (va_runS (As := av) (rest := st) (Ts := ev_gw) (own := y.1.cls) (nL := y.2.2.1) (cc := y.2.1) (index := i) (bytes := z.2.1) (maxL := z.2.2.1) (ret := none) (n := av.length) ⟨C.1, C.2.1, C.2.2.1, C.2.2.2.2.1, hts⟩ (hc l H.size) ⟨callB_of av.length hts (kv_gc ok1) rfl rfl rfl (hts _ ok2) (hts _ hw) ok5 hR, hts _ ok3⟩ ⟨kv_blind, fun U hU hW => ⟨rfl, by rw [hU], by rw [hU]; exact hPc, C.2.2.2.2.2.2.1.warm hW, hDc.weaken (fun _ _ _ _ => trivial)⟩⟩ rfl rfl hl.1 rfl (lv_room hst) hd hcs) hS (fun q _ h => hFc q h) hFc (fun w t H1 locs1 ht hvm hq hB hz hk hS1 => ?_)
  obtain ⟨hP1, hD1⟩ := hB
  rw [ht] at hP1
  obtain ⟨hP2, hD2⟩ := va_join hP hD [ic] isR hC hRR hn hdis hk hFc hP1 hD1
  exact kk w hq p l e s m args below meth c H1 locs1 A Z lsA C E hP2 hD2 hS1 hl
theorem kv_enter {av : List Value} {h0 : Nat} {e0 : va_E} {Q : va_W → Prop} (hpl : plainName y.1.cls = true) (hm : (lg_sl av).length ≤ y.2.2.1) (h : Kv D cs y 0 0 0 (lv_args 0 av) [] [(h0, e0)] (kR y Q)) : Kc D cs y av h0 e0 Q := by
  intro l sz
  refine Met.ofW (cc := y.2.1) (maxL := y.2.2.1) (ret := none) hpl rfl ?_
  intro p e s m args below meth c s₁ B hml hv
  obtain ⟨rfl, hsz, hP, hF, hD0⟩ := hv
  subst hsz
  have hx := B.exec
  have hb := B.bytes
  have hr := B.returns
  have hts := atoms_spec (ws := Cond.code y.1 y.2.1 y.2.2.1 none :: ev_gw) B.pre
  have hown : s.vm.findClass y.1.cls = some m.cls := findClass_of_methodNamed B.named
  have hlocks := B.notSynchronized
  have hin : meth.name = y.1.name := (name_of_methodNamed B.named B.method).1
  have hD := hD0.self (sz := s.heap.size)
  have hA : ∀ q : Nat, s.heap.size ≤ q → va_A [(h0, e0)] s.heap.size q := fun q h => Or.inr h
  have hS : va_S (va_A [(h0, e0)] s.heap.size) s.heap s.heap [] := va_S.rf
  have hl := lv_entry av (n := y.2.2.1) hm
  rw [lg_entry_eq]
  have C : kC D cs y p s m av.toArray meth c (va_A [(h0, e0)] s.heap.size) := ⟨hx, hb, hml, fun hn => hin.trans hn, hown, fun w hw => hts w (List.mem_cons_of_mem _ hw), hF, hA⟩
  refine h p l e s m _ below meth c s.heap [] (va_A [(h0, e0)] s.heap.size) _ _ C ?_ hP hD hS hl
  intro cells slots pc ls st w H locs lsA hQ hP1 hD1 hS1 hl1
  obtain ⟨hd, rfl, h1, h2, hq⟩ := hQ
  refine W.widen h1 h2 ?_
  exact W.vret hx hb hr (fun t ht hW => ⟨⟨w, rfl, hq, by rw [ht]; exact hP1, hD1⟩, hS1.F ht⟩) hS1.2.2 hd
end KVR
