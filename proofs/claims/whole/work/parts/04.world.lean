/-! what stands at every state: the tables, the statics, the texts; 'ev_A': the cells of the world -/
def ev_A (b : ev_B) : Nat → Prop := fun q => ∃ k, k < 60 ∧ q = b.1 k
def ev_nw : List Cond := [.methodLinkNest RX0 105 yX5_distanceOf RX5, .methodLinkNest RX2 76 yX5_sumOf RX5, .methodLinkNest RX4 111 yX5_isWithin RX5, .fieldLinkNest RX1 9 RX5 "KIND_ABOVE" "[I" RX5]
def ev_ka : Nat → Value := fun j => .int (([-1, 0, 0, 0, 2, 3] : List Int32).getD j 0)
def ev_sn : List (Nat × String) := [(129, "sitter"), (119, "bailiff"), (121, "laughed"), (123, "dead"), (125, "lady"), (127, "stranger"), (71, "temper"), (86, "fee"), (43, "likeness"), (94, "at"), (52, "wheat"), (100, "to"), (57, "crows")]
def ev_sb : List (List Int32) := [[115, 105, 116, 116, 101, 114], [98, 97, 105, 108, 105, 102, 102], [108, 97, 117, 103, 104, 101, 100], [100, 101, 97, 100], [108, 97, 100, 121], [115, 116, 114, 97, 110, 103, 101, 114], [116, 101, 109, 112, 101, 114], [102, 101, 101], [108, 105, 107, 101, 110, 101, 115, 115], [97, 116], [119, 104, 101, 97, 116], [116, 111], [99, 114, 111, 119, 115]]
def ev_sl : List Nat := [6, 7, 7, 4, 4, 8, 6, 3, 8, 2, 5, 2, 5]
/-- what is only read -/
def ev_Ro (b : ev_B) (A : Nat → Prop) (U : State) (H : Heap) : Prop :=
  va_Z RX5 "KIND_ABOVE" "[I" (.ref (b.1 60)) A U H ∧ va_T .int (b.1 60) 6 ev_ka A U H ∧
  vk_S 13 ev_sl ev_sb (fun i => b.1 (61 + i)) (fun i => b.1 (80 + i)) A U H ∧
  va_Z RJ0 "COMPACT_STRINGS" "Z" (.int 1) A U H ∧ va_Z RJ3 "SIOOBE_FORMATTER" "Ljava/util/function/BiFunction;" b.2.2.2.1 A U H ∧
  va_T .int (b.1 74) b.2.2.2.2.1 (fun j => .int (Int32.ofInt (b.2.2.2.2.2 j))) A U H
theorem ev_Ro.moved {b : ev_B} {A : Nat → Prop} {u U : State} {H : Heap} (hvm : u.vm.Alike U.vm) (h : ev_Ro b A u H) : ev_Ro b A U H :=
  ⟨h.1.moved hvm, h.2.1.moved hvm, h.2.2.1.moved hvm, h.2.2.2.1.moved hvm, h.2.2.2.2.1.moved hvm, h.2.2.2.2.2.moved hvm⟩
theorem ev_Ro.kept {b : ev_B} {A : Nat → Prop} {U : State} {H H1 : Heap} (h : ev_Ro b A U H) (hq : ∀ a : Nat, a < H.size → ¬ A a → H1[a]? = H[a]?) : ev_Ro b A U H1 :=
  ⟨h.1.kept hq, h.2.1.kept hq, h.2.2.1.kept hq, h.2.2.2.1.kept hq, h.2.2.2.2.1.kept hq, h.2.2.2.2.2.kept hq⟩
theorem ev_Ro.narrow {b : ev_B} {A B : Nat → Prop} {U : State} {H : Heap} (h : ev_Ro b A U H) (hAB : ∀ q, B q → A q) : ev_Ro b B U H :=
  ⟨h.1.narrow hAB, h.2.1.narrow hAB, h.2.2.1.narrow hAB, h.2.2.2.1.narrow hAB, h.2.2.2.2.1.narrow hAB, h.2.2.2.2.2.narrow hAB⟩
/-- the facts that every method takes: static ones of the base, then those of a state -/
def ev_Bs (b : ev_B) : Prop := (∀ i j, i < 60 → j < 60 → b.1 i = b.1 j → i = j) ∧ (b.2.2.2.1 = .null ∨ ∃ a, b.2.2.2.1 = .ref a) ∧ b.2.2.2.2.1 < 4000
def ev_F (b : ev_B) (A : Nat → Prop) (U : State) (H : Heap) : Prop :=
  va_K b.2.1 ev_cls (ev_tys b) U ∧ (∀ w ∈ ev_nw, va_Nw w U) ∧ (∀ k, k < 60 → A (b.1 k)) ∧ ev_Bs b ∧ (∀ (i : Nat) (q : Nat × String), ev_sn[i]? = some q → vk_R RX4 q.1 q.2 (b.1 (61 + i)) U) ∧ ev_Ro b A U H
theorem ev_F.warm {b : ev_B} {A : Nat → Prop} {s U : State} {H H1 : Heap} (hW : s.WarmedH U.vm) (h : ev_F b A s H) (hq : ∀ a : Nat, a < H.size → ¬ A a → H1[a]? = H[a]?) : ev_F b A U H1 := by
  refine ⟨h.1.moved hW.alike, ?_, h.2.2.1, h.2.2.2.1, fun i q hi => (h.2.2.2.2.1 i q hi).warm hW, (h.2.2.2.2.2.moved hW.alike).kept hq⟩
  intro w hw
  have h0 := h.2.1 w hw
  simp only [ev_nw, List.mem_cons, List.not_mem_nil, or_false] at hw
  rcases hw with rfl | rfl | rfl | rfl
  · exact h0.warmM hW
  · exact h0.warmM hW
  · exact h0.warmM hW
  · exact h0.warmF hW
theorem ev_F.same {b : ev_B} {A : Nat → Prop} {s U : State} {H : Heap} (hv : U.vm = s.vm) (h : ev_F b A s H) : ev_F b A U H := by
  have hal : s.vm.Alike U.vm := by rw [hv]; exact Vm.Alike.refl _
  refine ⟨h.1.moved hal, ?_, h.2.2.1, h.2.2.2.1, fun i q hi => (h.2.2.2.2.1 i q hi).same hv, h.2.2.2.2.2.moved hal⟩
  intro w hw
  have h0 := h.2.1 w hw
  simp only [ev_nw, List.mem_cons, List.not_mem_nil, or_false] at hw
  rcases hw with rfl | rfl | rfl | rfl
  · exact h0.same rfl hv.symm
  · exact h0.same rfl hv.symm
  · exact h0.same rfl hv.symm
  · exact h0.same rfl hv.symm
theorem ev_F.narrow {b : ev_B} {A : Nat → Prop} {s : State} {H : Heap} (h : ev_F b A s H) : ev_F b (ev_A b) s H :=
  ⟨h.1, h.2.1, fun k hk => ⟨k, hk, rfl⟩, h.2.2.2.1, h.2.2.2.2.1, h.2.2.2.2.2.narrow (fun q hq => by obtain ⟨k, hk, rfl⟩ := hq; exact h.2.2.1 k hk)⟩
theorem ev_D {b : ev_B} {A : Nat → Prop} {U : State} {H : Heap} (h : ev_F b A U H) (σ : ev_M) : va_D A (ev_ws b σ) := by
  have hn : ev_kds.length = 60 := rfl
  have key : ∀ (k : Nat) (q : Nat × va_E), (ev_ws b σ)[k]? = some q → k < 60 ∧ q.1 = b.1 k := by
    intro k q hq
    rw [ev_ws, List.getElem?_mapIdx] at hq
    cases hd : ev_kds[k]? with
    | none => rw [hd] at hq; cases hq
    | some d =>
      rw [hd] at hq
      cases hq
      exact ⟨by rw [← hn]; exact (List.getElem?_eq_some_iff.mp hd).1, rfl⟩
  refine ⟨fun i j p q hp hq e => ?_, fun k q hq => ?_⟩
  · obtain ⟨h1, h2⟩ := key i p hp
    obtain ⟨h3, h4⟩ := key j q hq
    exact h.2.2.2.1.1 i j h1 h3 (by rw [← h2, ← h4, e])
  · obtain ⟨h1, h2⟩ := key k q hq
    rw [h2]
    exact h.2.2.1 k h1
theorem ev_cat {b : ev_B} (hB : ev_Bs b) (v : ev_V) : (ev_cv b v).category = if ev_c2 v then 2 else 1 := by
  rcases v with z | z | k | u
  · rfl
  · rfl
  · rfl
  · show b.2.2.2.1.category = 1
    rcases hB.2.1 with h | ⟨a, h⟩ <;> rw [h] <;> rfl
/-- what a method's frame is -/
def ev_C (b : ev_B) (y : ev_Y) (p : Program) (s : State) (m : MethodId) (args : Array Value) (meth : Method) (c : Code) (cells slots : Nat) (A : Nat → Prop) : Prop :=
  p.tables.exec = Jvm.exec ∧ c.code = y.2.1 ∧ c.maxLocals = y.2.2.1 ∧ meth.sig.returnType = y.2.2.2.1 ∧ meth.locks = false ∧ s.vm.findClass y.1.cls = some m.cls ∧ (∀ w ∈ ev_gw, w.before args s = true) ∧ ev_F b A s s.heap ∧ cells ≤ y.2.2.2.2.cells ∧ slots ≤ y.2.2.2.2.slots
/-- which answer an instruction gives back -/
def ev_rk (y : ev_Y) (r : Option ev_V) (op : Instr) : Prop :=
  (op = .ireturn ∧ ∃ z ty, r = some (vI z) ∧ y.2.2.2.1 = some ty ∧ narrow ty (.int (Int32.ofInt z)) = .int (Int32.ofInt z)) ∨ (op = .lreturn ∧ ∃ z, r = some (vL z) ∧ y.2.2.2.1 = some .long) ∨ (op = .areturn ∧ ∃ k n, r = some (vR k) ∧ y.2.2.2.1 = some (.object n)) ∨ (op = .return_ ∧ r = none ∧ y.2.2.2.1 = none)
def ev_E (b : ev_B) (y : ev_Y) (p : Program) (l : Launch) (e : Env) (s : State) (m : MethodId) (args : Array Value) (below : List Frame) (meth : Method) (c : Code) (cells slots : Nat) (A : Nat → Prop) (Z : State → Prop) (Q : Option ev_V → ev_M → Prop) : Prop :=
  ∀ (r : Option ev_V) (σ : ev_M) (H : Heap) (locs : List Loc) (pc : Nat) (lsA : Array Slot) (op : Instr), Q r σ → va_P b.2.1 ev_cls (ev_ws b σ) H → va_S A s.heap H locs → decode y.2.1 pc = .ok (op, 1) → ev_rk y r op → W p l e y.2.2.2.2 s m args below meth c H locs cells slots Z (F0 m pc lsA (r.toList.map (ev_cv b)))
/-- from here on the method comes to its end with Q -/
def Ev (b : ev_B) (y : ev_Y) (pc : Nat) (ls : List (Nat × ev_V)) (st : List ev_V) (σ : ev_M) (Q : Option ev_V → ev_M → Prop) : Prop :=
  ∀ (p : Program) (l : Launch) (e : Env) (s : State) (m : MethodId) (args : Array Value) (below : List Frame) (meth : Method) (c : Code) (H : Heap) (locs : List Loc) (cells slots : Nat) (A : Nat → Prop) (Z : State → Prop) (lsA : Array Slot),
    ev_C b y p s m args meth c cells slots A → ev_E b y p l e s m args below meth c cells slots A Z Q → va_P b.2.1 ev_cls (ev_ws b σ) H → va_S A s.heap H locs → lv_has lsA y.2.2.1 (ls.map (ev_cl b)) →
    W p l e y.2.2.2.2 s m args below meth c H locs cells slots Z (F0 m pc lsA (st.map (ev_cv b)))
/-- a method's contract -/
def Cl (b : ev_B) (y : ev_Y) (av : List ev_V) (σ : ev_M) (Q : Option ev_V → ev_M → Prop) : Prop :=
  ∀ l, Met l y.1 (Cond.code y.1 y.2.1 y.2.2.1 y.2.2.2.1 :: ev_gw) y.2.2.2.2 (va_Pc (av.map (ev_cv b)) (fun U => ev_F b (ev_A b) U U.heap ∧ va_P b.2.1 ev_cls (ev_ws b σ) U.heap))
    (fun _ st oc t => (∃ r σ', oc = .returned (r.map (ev_cv b)) ∧ Q r σ' ∧ va_P b.2.1 ev_cls (ev_ws b σ') t.heap) ∧ va_F (ev_A b) st t) 0 0 (ev_A b)
/-! locals -/
def ev_lk : List (Nat × ev_V) → Nat → Option ev_V
  | [], _ => none
  | (j, w) :: t, i => if j = i then some w else ev_lk t i
theorem ev_lk_mem : ∀ {ls : List (Nat × ev_V)} {i : Nat} {v : ev_V}, ev_lk ls i = some v → (i, v) ∈ ls
  | [], i, v, h => by cases h
  | (j, w) :: t, i, v, h => by
    unfold ev_lk at h
    by_cases hj : j = i
    · rw [if_pos hj] at h
      cases h
      rw [hj]; exact List.mem_cons_self
    · rw [if_neg hj] at h
      exact List.mem_cons_of_mem _ (ev_lk_mem h)
def ev_ins (i : Nat) (v : ev_V) : List (Nat × ev_V) → List (Nat × ev_V)
  | [] => [(i, v)]
  | (j, w) :: t => if i < j then (i, v) :: (j, w) :: t else (j, w) :: ev_ins i v t
theorem ev_ins_mem {i : Nat} {v : ev_V} : ∀ {ls : List (Nat × ev_V)} {q : Nat × ev_V}, q ∈ ev_ins i v ls → q = (i, v) ∨ q ∈ ls
  | [], q, h => by
    unfold ev_ins at h
    exact Or.inl (List.mem_singleton.mp h)
  | (j, w) :: t, q, h => by
    unfold ev_ins at h
    split at h
    · rcases List.mem_cons.mp h with h | h
      · exact Or.inl h
      · exact Or.inr h
    · rcases List.mem_cons.mp h with h | h
      · exact Or.inr (by rw [h]; exact List.mem_cons_self)
      · rcases ev_ins_mem h with h | h
        · exact Or.inl h
        · exact Or.inr (List.mem_cons_of_mem _ h)
/-- a local of one word, of two words is stored -/
def ev_s1 (ls : List (Nat × ev_V)) (i : Nat) (v : ev_V) : List (Nat × ev_V) := ev_ins i v (ls.filter (fun q => !(q.1 == i) && !(q.1 + 1 == i && ev_c2 q.2)))
def ev_s2 (ls : List (Nat × ev_V)) (i : Nat) (v : ev_V) : List (Nat × ev_V) := ev_ins i v (ls.filter (fun q => !(q.1 == i) && (!(q.1 == i + 1) && !(q.1 + 1 == i && ev_c2 q.2))))
theorem ev_has_at {b : ev_B} {lsA : Array Slot} {n : Nat} {ls : List (Nat × ev_V)} (h : lv_has lsA n (ls.map (ev_cl b))) {i : Nat} {v : ev_V} (hk : ev_lk ls i = some v) : lsA[i]? = some (.val (ev_cv b v)) :=
  h.2.2 (i, ev_cv b v) (List.mem_map.mpr ⟨(i, v), ev_lk_mem hk, rfl⟩)
theorem ev_has_s1 {b : ev_B} (hB : ev_Bs b) {lsA : Array Slot} {n : Nat} {ls : List (Nat × ev_V)} {i : Nat} {v : ev_V} (h : lv_has lsA n ((i, ev_cv b v) :: (ls.map (ev_cl b)).filter (fun q => !(q.1 == i) && !(q.1 + 1 == i && q.2.category == 2)))) : lv_has lsA n ((ev_s1 ls i v).map (ev_cl b)) := by
  refine ⟨h.1, h.2.1, fun q hq => ?_⟩
  obtain ⟨x, hx, rfl⟩ := List.mem_map.mp hq
  rcases ev_ins_mem hx with rfl | hx
  · exact h.2.2 _ List.mem_cons_self
  · obtain ⟨h1, h2⟩ := List.mem_filter.mp hx
    refine h.2.2 _ (List.mem_cons_of_mem _ (List.mem_filter.mpr ⟨List.mem_map.mpr ⟨x, h1, rfl⟩, ?_⟩))
    have e : ((ev_cl b x).2.category == 2) = ev_c2 x.2 := by
      show ((ev_cv b x.2).category == 2) = _
      rw [ev_cat hB]; cases ev_c2 x.2 <;> rfl
    rw [e]; exact h2
theorem ev_has_s2 {b : ev_B} (hB : ev_Bs b) {lsA : Array Slot} {n : Nat} {ls : List (Nat × ev_V)} {i : Nat} {v : ev_V} (h : lv_has lsA n ((i, ev_cv b v) :: (ls.map (ev_cl b)).filter (fun q => !(q.1 == i) && (!(q.1 == i + 1) && !(q.1 + 1 == i && q.2.category == 2))))) : lv_has lsA n ((ev_s2 ls i v).map (ev_cl b)) := by
  refine ⟨h.1, h.2.1, fun q hq => ?_⟩
  obtain ⟨x, hx, rfl⟩ := List.mem_map.mp hq
  rcases ev_ins_mem hx with rfl | hx
  · exact h.2.2 _ List.mem_cons_self
  · obtain ⟨h1, h2⟩ := List.mem_filter.mp hx
    refine h.2.2 _ (List.mem_cons_of_mem _ (List.mem_filter.mpr ⟨List.mem_map.mpr ⟨x, h1, rfl⟩, ?_⟩))
    have e : ((ev_cl b x).2.category == 2) = ev_c2 x.2 := by
      show ((ev_cv b x.2).category == 2) = _
      rw [ev_cat hB]; cases ev_c2 x.2 <;> rfl
    rw [e]; exact h2
/-- a method's locals at its start -/
def ev_args : Nat → List ev_V → List (Nat × ev_V)
  | _, [] => []
  | i, v :: vs => (i, v) :: ev_args (if ev_c2 v then i + 2 else i + 1) vs
theorem ev_args_eq {b : ev_B} (hB : ev_Bs b) : ∀ (vs : List ev_V) (i : Nat), (ev_args i vs).map (ev_cl b) = lv_args i (vs.map (ev_cv b))
  | [], i => rfl
  | v :: vs, i => by
    unfold ev_args
    rw [List.map_cons, List.map_cons, lv_args, ev_args_eq hB vs]
    rw [ev_cat hB v]
    cases ev_c2 v <;> rfl
def ev_wd : List ev_V → Nat
  | [] => 0
  | v :: vs => (if ev_c2 v then 2 else 1) + ev_wd vs
theorem ev_wd_sl {b : ev_B} (hB : ev_Bs b) : ∀ (vs : List ev_V), (lg_sl (vs.map (ev_cv b))).length = ev_wd vs
  | [] => rfl
  | v :: vs => by
    have ih := ev_wd_sl hB vs
    simp only [lg_sl] at ih
    simp only [lg_sl, List.map_cons, List.flatMap_cons, List.length_append, ih, ev_wd, ev_cat hB v]
    cases ev_c2 v <;> rfl
theorem ev_wd_cat {b : ev_B} (hB : ev_Bs b) : ∀ (vs : List ev_V), ((vs.map (ev_cv b)).map fun v => v.category).sum = ev_wd vs
  | [] => rfl
  | v :: vs => by
    have ih := ev_wd_cat hB vs
    simp only [List.map_cons, List.sum_cons, ih, ev_wd, ev_cat hB v]
