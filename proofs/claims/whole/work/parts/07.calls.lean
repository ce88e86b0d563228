/-! calls -/
def ev_Okc (z : ev_Y) (n : Nat) : Prop := Cond.code z.1 z.2.1 z.2.2.1 z.2.2.2.1 ∈ ev_gw ∧ Cond.initialized z.1.cls ∈ ev_gw ∧ (z.1.cls ≠ "java/lang/invoke/MethodHandle" ∧ z.1.cls ≠ "java/lang/invoke/VarHandle" ∧ (parseMethodDescriptor z.1.desc).map (fun d => d.parameters.length) = some n) ∧ z.2.2.2.2.cells = 0 ∧ z.2.2.2.2.slots = 0 ∧ plainName z.1.cls = true
def ev_OkV (z : ev_Y) (n : Nat) : Prop := ev_Okc z n ∧ Cond.instanceMethod z.1 ∈ ev_gw ∧ Cond.selects z.1.cls z.1 z.1 ∈ ev_gw
def ev_OkS (z : ev_Y) (n : Nat) : Prop := ev_Okc z n ∧ Cond.static z.1 ∈ ev_gw
theorem ev_gc {z : ev_Y} {n : Nat} (h : ev_Okc z n) : GoodIn ev_gw (Cond.code z.1 z.2.1 z.2.2.1 z.2.2.2.1 :: ev_gw) := by
  intro w hw
  rcases List.mem_cons.mp hw with rfl | hw
  · exact ev_gg _ h.1
  · exact ev_gg _ hw
theorem ev_blind {b : ev_B} {av : List Value} {σ : ev_M} : FrameBlind (va_Pc av (fun U => ev_F b (ev_A b) U U.heap ∧ va_P b.2.1 ev_cls (ev_ws b σ) U.heap)) := by
  intro a U g mk h
  exact ⟨h.1, (h.2.1).same (s := U) (U := U.calling g mk a) rfl, h.2.2⟩
theorem ev_pre {b : ev_B} {A : Nat → Prop} {s : State} {H : Heap} {locs : List Loc} {σ : ev_M} (hF : ev_F b A s s.heap) (hS : va_S A s.heap H locs) (hP : va_P b.2.1 ev_cls (ev_ws b σ) H) {av : List Value} : ∀ U : State, U.heap = H → s.WarmedH U.vm → va_Pc av (fun U => ev_F b (ev_A b) U U.heap ∧ va_P b.2.1 ev_cls (ev_ws b σ) U.heap) av.toArray U := by
  intro U hU hW
  refine ⟨rfl, ?_, by rw [hU]; exact hP⟩
  rw [hU]
  exact (hF.warm hW hS.2.1).narrow
theorem ev_sub {b : ev_B} {A : Nat → Prop} {U : State} {H : Heap} (h : ev_F b A U H) : ∀ q, ev_A b q → A q := by
  intro q hq
  obtain ⟨k, hk, rfl⟩ := hq
  exact h.2.2.1 k hk
section EVC
variable {b : ev_B} {y z : ev_Y} {pc : Nat} {ls : List (Nat × ev_V)} {st stk : List ev_V} {σ : ev_M} {Q Q1 : Option ev_V → ev_M → Prop}
/-- what goes on behind a call -/
theorem ev_after {p : Program} {l : Launch} {e : Env} {s : State} {m : MethodId} {args : Array Value} {below : List Frame} {meth : Method} {c : Code} {H : Heap} {locs : List Loc} {cells slots : Nat} {A : Nat → Prop} {Z : State → Prop} {lsA : Array Slot} {st0 : List Value} {a : Array Value}
    (C : ev_C b y p s m args meth c cells slots A) (E : ev_E b y p l e s m args below meth c cells slots A Z Q) (hS : va_S A s.heap H locs) (hl : lv_has lsA y.2.2.1 (ls.map (ev_cl b)))
    (hr : va_Run p l e y.2.2.2.2 s m args below meth c H locs cells slots 0 0 (F0 m pc lsA st0) (st.map (ev_cv b)) ((fun _ st oc t => (∃ r σ', oc = .returned (r.map (ev_cv b)) ∧ Q1 r σ' ∧ va_P b.2.1 ev_cls (ev_ws b σ') t.heap) ∧ va_F (ev_A b) st t) a) (ev_A b))
    (k : ∀ r σ', Q1 r σ' → Ev b y (pc + 3) ls (r.toList ++ st) σ' Q) : W p l e y.2.2.2.2 s m args below meth c H locs cells slots Z (F0 m pc lsA st0) := by
  intro T hT X
  obtain ⟨v, st₀, t, T', L, h0, X', hL, e1, e2, ⟨⟨r, σ', hv, hq, hP'⟩, hz, hk⟩, st1⟩ := hr T hT X
  have hv' : v = r.map (ev_cv b) := by cases hv; rfl
  subst hv'
  rw [h0] at hz hk
  have hsub := ev_sub C.2.2.2.2.2.2.2.1
  have hS' : va_S A s.heap T'.heap (locs ++ L) := ⟨Nat.le_trans hS.1 (by rw [e1]; exact hz), fun q h1 h2 => by
      rw [e1, hk q (Nat.lt_of_lt_of_le h1 hS.1) (fun w => h2 (hsub q w))]; exact hS.2.1 q h1 h2, fun q hq' => by
      rcases List.mem_append.mp hq' with h | h
      · exact hS.2.2 q h
      · exact hsub _ (hL q h)⟩
  have kk := k r σ' hq p l e s m args below meth c T'.heap (locs ++ L) cells slots A Z lsA C E (by rw [e1]; exact hP') hS' hl T' rfl X'
  obtain ⟨t2, a1, b1⟩ := kk
  refine ⟨t2, st1 t2 ?_, b1⟩
  have e3 : (r.toList ++ st).map (ev_cv b) = (r.map (ev_cv b)).toList ++ st.map (ev_cv b) := by
    cases r <;> simp
  rw [e3] at a1
  exact a1
theorem ev_callV {av : List ev_V} {o ci i : Nat} {tm : List (Option Nat)} {T : u_T} {N : Nat} (hc : Cl b z (vR o :: av) σ Q1) (ok : ev_OkV z av.length) (hd : decode y.2.1 pc = .ok (.invokevirtual i, 3)) (hw : Cond.methodLink y.1.cls i z.1 ∈ ev_gw) (hk : ev_kds[o]? = some (.inl (ci, tm))) (hcl : ev_cls[ci]? = some (z.1.cls, T, N)) (hR : z.2.2.2.2.frames + 1 ≤ y.2.2.2.2.frames ∧ 8 + (z.2.2.1 + 11) + z.2.2.2.2.locals ≤ y.2.2.2.2.locals) (hs : stk = av.reverse ++ vR o :: st) (hst : ev_wd st ≤ 8) (k : ∀ r σ', Q1 r σ' → Ev b y (pc + 3) ls (r.toList ++ st) σ' Q) : Ev b y pc ls stk σ Q := by
  intro p l e s m args below meth c H locs cells slots A Z lsA C E hP hS hl
  subst hs
  have hF := C.2.2.2.2.2.2.2.1
  have hts := C.2.2.2.2.2.2.1
  obtain ⟨⟨ok1, ok2, ok3, ok4, ok5, ok6⟩, ok7, ok8⟩ := id ok
  refine ev_after (a := (Value.ref (b.1 o) :: av.map (ev_cv b)).toArray) C E hS hl ?_ k
  refine va_runV (As := av.map (ev_cv b)) (b := b.1 o) (C := z.1.cls) (Ts := ev_gw) (own := y.1.cls) (nL := y.2.2.1) (cc := y.2.1) (index := i) (bytes := z.2.1) (maxL := z.2.2.1) (ret := z.2.2.2.1) (n := av.length) ⟨C.1, C.2.1, C.2.2.1, C.2.2.2.2.2.1, hts⟩ (hc l) ?_ ⟨ev_blind, va_recv hF.1 hP hcl (ev_at hk), ev_pre hF hS hP⟩ rfl (by simp) hl.1 ?_ (lv_room (by rw [ev_wd_cat hF.2.2.2.1]; exact hst)) hd ⟨C.2.2.2.2.2.2.2.2.1, C.2.2.2.2.2.2.2.2.2⟩
  · exact ⟨callB_of av.length hts (ev_gc ok.1) rfl ok4 ok5 (hts _ ok2) (hts _ hw) ok3 hR, hts _ ok7, hts _ ok8⟩
  · simp [ev_cv]
theorem ev_callS {av : List ev_V} {i : Nat} (hc : Cl b z av σ Q1) (ok : ev_OkS z av.length) (hd : decode y.2.1 pc = .ok (.invokestatic i, 3)) (hw : Cond.methodLink y.1.cls i z.1 ∈ ev_gw) (hR : z.2.2.2.2.frames + 1 ≤ y.2.2.2.2.frames ∧ 8 + (z.2.2.1 + 11) + z.2.2.2.2.locals ≤ y.2.2.2.2.locals) (hs : stk = av.reverse ++ st) (hst : ev_wd st ≤ 8) (k : ∀ r σ', Q1 r σ' → Ev b y (pc + 3) ls (r.toList ++ st) σ' Q) : Ev b y pc ls stk σ Q := by
  intro p l e s m args below meth c H locs cells slots A Z lsA C E hP hS hl
  subst hs
  have hF := C.2.2.2.2.2.2.2.1
  have hts := C.2.2.2.2.2.2.1
  obtain ⟨⟨ok1, ok2, ok3, ok4, ok5, ok6⟩, ok7⟩ := id ok
  refine ev_after (a := (av.map (ev_cv b)).toArray) C E hS hl ?_ k
  refine va_runS (As := av.map (ev_cv b)) (Ts := ev_gw) (own := y.1.cls) (nL := y.2.2.1) (cc := y.2.1) (index := i) (bytes := z.2.1) (maxL := z.2.2.1) (ret := z.2.2.2.1) (n := av.length) ⟨C.1, C.2.1, C.2.2.1, C.2.2.2.2.2.1, hts⟩ (hc l) ?_ ⟨ev_blind, ev_pre hF hS hP⟩ rfl (by simp) hl.1 ?_ (lv_room (by rw [ev_wd_cat hF.2.2.2.1]; exact hst)) hd ⟨C.2.2.2.2.2.2.2.2.1, C.2.2.2.2.2.2.2.2.2⟩
  · exact ⟨callB_of av.length hts (ev_gc ok.1) rfl ok4 ok5 (hts _ ok2) (hts _ hw) ok3 hR, hts _ ok7⟩
  · simp
theorem ev_callSN {av : List ev_V} {i : Nat} {host : String} (hc : Cl b z av σ Q1) (ok : ev_OkS z av.length) (hd : decode y.2.1 pc = .ok (.invokestatic i, 3)) (hw : Cond.methodLinkNest y.1.cls i z.1 host ∈ ev_nw) (hR : z.2.2.2.2.frames + 1 ≤ y.2.2.2.2.frames ∧ 8 + (z.2.2.1 + 11) + z.2.2.2.2.locals ≤ y.2.2.2.2.locals) (hs : stk = av.reverse ++ st) (hst : ev_wd st ≤ 8) (k : ∀ r σ', Q1 r σ' → Ev b y (pc + 3) ls (r.toList ++ st) σ' Q) : Ev b y pc ls stk σ Q := by
  intro p l e s m args below meth c H locs cells slots A Z lsA C E hP hS hl
  subst hs
  have hF := C.2.2.2.2.2.2.2.1
  have hts := C.2.2.2.2.2.2.1
  obtain ⟨⟨ok1, ok2, ok3, ok4, ok5, ok6⟩, ok7⟩ := id ok
  refine ev_after (a := (av.map (ev_cv b)).toArray) C E hS hl ?_ k
  refine va_runSN (As := av.map (ev_cv b)) (Ts := ev_gw) (own := y.1.cls) (host := host) (nL := y.2.2.1) (cc := y.2.1) (index := i) (bytes := z.2.1) (maxL := z.2.2.1) (ret := z.2.2.2.1) (n := av.length) ⟨C.1, C.2.1, C.2.2.1, C.2.2.2.2.2.1, hts⟩ (hc l) ?_ ⟨ev_blind, ev_pre hF hS hP⟩ rfl (by simp) hl.1 ?_ (lv_room (by rw [ev_wd_cat hF.2.2.2.1]; exact hst)) hd ⟨C.2.2.2.2.2.2.2.2.1, C.2.2.2.2.2.2.2.2.2⟩
  · exact ⟨va_cnB av.length hts (ev_gc ok.1) rfl ok4 ok5 (hF.2.1 _ hw) (hts _ ok2) ok3 hR, hts _ ok7, trivial⟩
  · simp
/-- a text's own methods -/
theorem ev_callT {av : List ev_V} {i j : Nat} (hc : Cl b z (vR (61 + j) :: av) σ Q1) (ok : ev_OkV z av.length) (hd : decode y.2.1 pc = .ok (.invokevirtual i, 3)) (hw : Cond.methodLink y.1.cls i z.1 ∈ ev_gw) (hj : j < 13) (hcl : z.1.cls = RJ0) (hR : z.2.2.2.2.frames + 1 ≤ y.2.2.2.2.frames ∧ 8 + (z.2.2.1 + 11) + z.2.2.2.2.locals ≤ y.2.2.2.2.locals) (hs : stk = av.reverse ++ vR (61 + j) :: st) (hst : ev_wd st ≤ 8) (k : ∀ r σ', Q1 r σ' → Ev b y (pc + 3) ls (r.toList ++ st) σ' Q) : Ev b y pc ls stk σ Q := by
  intro p l e s m args below meth c H locs cells slots A Z lsA C E hP hS hl
  subst hs
  have hF := C.2.2.2.2.2.2.2.1
  have hts := C.2.2.2.2.2.2.1
  obtain ⟨⟨ok1, ok2, ok3, ok4, ok5, ok6⟩, ok7, ok8⟩ := id ok
  refine ev_after (a := (Value.ref (b.1 (61 + j)) :: av.map (ev_cv b)).toArray) C E hS hl ?_ k
  have hrec : ∃ cell : Cell, H[b.1 (61 + j)]? = some cell ∧ cell.vm.isStatics = false ∧ s.vm.findClass z.1.cls = some cell.cls := by
    rw [hcl]
    exact vk_recv (N := 13) (adK := fun i => b.1 (61 + i)) (i := j) (hF.2.2.2.2.2.2.2.1) hj hS
  refine va_runV (As := av.map (ev_cv b)) (b := b.1 (61 + j)) (C := z.1.cls) (Ts := ev_gw) (own := y.1.cls) (nL := y.2.2.1) (cc := y.2.1) (index := i) (bytes := z.2.1) (maxL := z.2.2.1) (ret := z.2.2.2.1) (n := av.length) ⟨C.1, C.2.1, C.2.2.1, C.2.2.2.2.2.1, hts⟩ (hc l) ?_ ⟨ev_blind, hrec, ev_pre hF hS hP⟩ rfl (by simp) hl.1 ?_ (lv_room (by rw [ev_wd_cat hF.2.2.2.1]; exact hst)) hd ⟨C.2.2.2.2.2.2.2.2.1, C.2.2.2.2.2.2.2.2.2⟩
  · exact ⟨callB_of av.length hts (ev_gc ok.1) rfl ok4 ok5 (hts _ ok2) (hts _ hw) ok3 hR, hts _ ok7, hts _ ok8⟩
  · simp [ev_cv]
theorem Cl.mono {av : List ev_V} {Q2 : Option ev_V → ev_M → Prop} (h : Cl b y av σ Q) (hq : ∀ r τ, Q r τ → Q2 r τ) : Cl b y av σ Q2 := by
  intro l
  have h1 := h l
  intro p e ha hc hk s m args below hf happ hpre hx
  obtain ⟨t, o, w1, w2, w3, ⟨⟨⟨r, σ', g1, g2, g3⟩, g4⟩, w5⟩⟩ := h1 p e ha hc hk s m args below hf happ hpre hx
  exact ⟨t, o, w1, w2, w3, ⟨⟨⟨r, σ', g1, hq _ _ g2, g3⟩, g4⟩, w5⟩⟩
/-- a method's contract out of its walk -/
theorem ev_enter {av : List ev_V} {n : Nat} (ok : ev_Okc y n) (hm : ev_wd av ≤ y.2.2.1) (h : Ev b y 0 (ev_args 0 av) [] σ Q) : Cl b y av σ Q := by
  intro l
  refine Met.ofW (cc := y.2.1) (maxL := y.2.2.1) (ret := y.2.2.2.1) ok.2.2.2.2.2 rfl ?_
  intro p e s m args below meth c s₁ B hml hv
  obtain ⟨rfl, hF, hP⟩ := hv
  have hx := B.exec
  have hb := B.bytes
  have hr := B.returns
  have hts := atoms_spec (ws := Cond.code y.1 y.2.1 y.2.2.1 y.2.2.2.1 :: ev_gw) B.pre
  have hown : s.vm.findClass y.1.cls = some m.cls := findClass_of_methodNamed B.named
  have hlocks := B.notSynchronized
  have hS : va_S (ev_A b) s.heap s.heap [] := va_S.rf
  have hl := lv_entry (av.map (ev_cv b)) (n := y.2.2.1) (by rw [ev_wd_sl hF.2.2.2.1]; exact hm)
  rw [← ev_args_eq hF.2.2.2.1] at hl
  rw [lg_entry_eq]
  have C : ev_C b y p s m (av.map (ev_cv b)).toArray meth c 0 0 (ev_A b) := ⟨hx, hb, hml, hr, hlocks, hown, fun w hw => hts w (List.mem_cons_of_mem _ hw), hF, Nat.zero_le _, Nat.zero_le _⟩
  refine h p l e s m _ below meth c s.heap [] 0 0 (ev_A b) _ _ C ?_ hP hS hl
  intro r τ H locs pc lsA op hQ hP1 hS1 hd hk
  rcases hk with ⟨rfl, z, ty, rfl, h1, h2⟩ | ⟨rfl, z, rfl, h1⟩ | ⟨rfl, k, nm, rfl, h1⟩ | ⟨rfl, rfl, h1⟩
  · exact W.zret (v := Int32.ofInt z) (ty := ty) hx hb (hr.trans h1) h2 (fun t ht hW => ⟨⟨_, τ, rfl, hQ, by rw [ht]; exact hP1⟩, hS1.F ht⟩) hS1.2.2 hd
  · exact W.lret (v := Int64.ofInt z) hx hb (hr.trans h1) (fun t ht hW => ⟨⟨_, τ, rfl, hQ, by rw [ht]; exact hP1⟩, hS1.F ht⟩) hS1.2.2 hd
  · exact W.aret (v := .ref (b.1 k)) (rt := .object nm) hx hb (hr.trans h1) (Or.inl ⟨nm, rfl⟩) (Or.inr ⟨_, rfl⟩) (fun t ht hW => ⟨⟨_, τ, rfl, hQ, by rw [ht]; exact hP1⟩, hS1.F ht⟩) hS1.2.2 hd
  · exact W.vret hx hb (hr.trans h1) (fun t ht hW => ⟨⟨none, τ, rfl, hQ, by rw [ht]; exact hP1⟩, hS1.F ht⟩) hS1.2.2 hd
end EVC

/-- a contract whose answer and memory are told -/
def CF (b : ev_B) (y : ev_Y) (av : List ev_V) (σ : ev_M) (r : Option ev_V) (τ : ev_M) : Prop := Cl b y av σ (fun r' τ' => r' = r ∧ τ' = τ)
section EVF
variable {b : ev_B} {y z : ev_Y} {pc : Nat} {ls : List (Nat × ev_V)} {st stk : List ev_V} {σ τ : ev_M} {Q : Option ev_V → ev_M → Prop}
theorem ev_V1 {av : List ev_V} {v : ev_V} {o ci i : Nat} {tm : List (Option Nat)} {T : u_T} {N : Nat} (hc : CF b z (vR o :: av) σ (some v) τ) (ok : ev_OkV z av.length) (hd : decode y.2.1 pc = .ok (.invokevirtual i, 3)) (hw : Cond.methodLink y.1.cls i z.1 ∈ ev_gw) (hk : ev_kds[o]? = some (.inl (ci, tm))) (hcl : ev_cls[ci]? = some (z.1.cls, T, N)) (hR : z.2.2.2.2.frames + 1 ≤ y.2.2.2.2.frames ∧ 8 + (z.2.2.1 + 11) + z.2.2.2.2.locals ≤ y.2.2.2.2.locals) (hs : stk = av.reverse ++ vR o :: st) (hst : ev_wd st ≤ 8) (k : Ev b y (pc + 3) ls (v :: st) τ Q) : Ev b y pc ls stk σ Q :=
  ev_callV hc ok hd hw hk hcl hR hs hst (fun r σ' h => by obtain ⟨rfl, rfl⟩ := h; exact k)
theorem ev_V0 {av : List ev_V} {o ci i : Nat} {tm : List (Option Nat)} {T : u_T} {N : Nat} (hc : CF b z (vR o :: av) σ none τ) (ok : ev_OkV z av.length) (hd : decode y.2.1 pc = .ok (.invokevirtual i, 3)) (hw : Cond.methodLink y.1.cls i z.1 ∈ ev_gw) (hk : ev_kds[o]? = some (.inl (ci, tm))) (hcl : ev_cls[ci]? = some (z.1.cls, T, N)) (hR : z.2.2.2.2.frames + 1 ≤ y.2.2.2.2.frames ∧ 8 + (z.2.2.1 + 11) + z.2.2.2.2.locals ≤ y.2.2.2.2.locals) (hs : stk = av.reverse ++ vR o :: st) (hst : ev_wd st ≤ 8) (k : Ev b y (pc + 3) ls st τ Q) : Ev b y pc ls stk σ Q :=
  ev_callV hc ok hd hw hk hcl hR hs hst (fun r σ' h => by obtain ⟨rfl, rfl⟩ := h; exact k)
theorem ev_Vbeq {av : List ev_V} {P : Prop} [Decidable P] {off : Int} {tgt : Nat} {o ci i : Nat} {tm : List (Option Nat)} {T : u_T} {N : Nat} (hc : CF b z (vR o :: av) σ (some (vI (if P then 1 else 0))) τ) (ok : ev_OkV z av.length) (hd : decode y.2.1 pc = .ok (.invokevirtual i, 3)) (hw : Cond.methodLink y.1.cls i z.1 ∈ ev_gw) (hk : ev_kds[o]? = some (.inl (ci, tm))) (hcl : ev_cls[ci]? = some (z.1.cls, T, N)) (hR : z.2.2.2.2.frames + 1 ≤ y.2.2.2.2.frames ∧ 8 + (z.2.2.1 + 11) + z.2.2.2.2.locals ≤ y.2.2.2.2.locals) (hs : stk = av.reverse ++ vR o :: st) (hst : ev_wd st ≤ 8) (hd2 : decode y.2.1 (pc + 3) = .ok (.ifCond .eq off, 3)) (ht : ((pc + 3 : Nat) : Int) + off = (tgt : Int)) (kt : ¬ P → Ev b y tgt ls st τ Q) (kf : P → Ev b y (pc + 3 + 3) ls st τ Q) : Ev b y pc ls stk σ Q := by
  refine ev_V1 hc ok hd hw hk hcl hR hs hst ?_
  by_cases h : P
  · rw [if_pos h]
    exact ev_if_eq hd2 ht (by decide) (fun q => absurd q (by decide)) (fun q => kf h)
  · rw [if_neg h]
    exact ev_if_eq hd2 ht (by decide) (fun q => kt h) (fun q => absurd rfl q)
theorem ev_Vbne {av : List ev_V} {P : Prop} [Decidable P] {off : Int} {tgt : Nat} {o ci i : Nat} {tm : List (Option Nat)} {T : u_T} {N : Nat} (hc : CF b z (vR o :: av) σ (some (vI (if P then 1 else 0))) τ) (ok : ev_OkV z av.length) (hd : decode y.2.1 pc = .ok (.invokevirtual i, 3)) (hw : Cond.methodLink y.1.cls i z.1 ∈ ev_gw) (hk : ev_kds[o]? = some (.inl (ci, tm))) (hcl : ev_cls[ci]? = some (z.1.cls, T, N)) (hR : z.2.2.2.2.frames + 1 ≤ y.2.2.2.2.frames ∧ 8 + (z.2.2.1 + 11) + z.2.2.2.2.locals ≤ y.2.2.2.2.locals) (hs : stk = av.reverse ++ vR o :: st) (hst : ev_wd st ≤ 8) (hd2 : decode y.2.1 (pc + 3) = .ok (.ifCond .ne off, 3)) (ht : ((pc + 3 : Nat) : Int) + off = (tgt : Int)) (kt : P → Ev b y tgt ls st τ Q) (kf : ¬ P → Ev b y (pc + 3 + 3) ls st τ Q) : Ev b y pc ls stk σ Q := by
  refine ev_V1 hc ok hd hw hk hcl hR hs hst ?_
  by_cases h : P
  · rw [if_pos h]
    exact ev_if_ne hd2 ht (by decide) (fun q => kt h) (fun q => absurd q (by decide))
  · rw [if_neg h]
    exact ev_if_ne hd2 ht (by decide) (fun q => absurd rfl q) (fun q => kf h)
theorem ev_S1 {av : List ev_V} {v : ev_V} {i : Nat} (hc : CF b z av σ (some v) τ) (ok : ev_OkS z av.length) (hd : decode y.2.1 pc = .ok (.invokestatic i, 3)) (hw : Cond.methodLink y.1.cls i z.1 ∈ ev_gw) (hR : z.2.2.2.2.frames + 1 ≤ y.2.2.2.2.frames ∧ 8 + (z.2.2.1 + 11) + z.2.2.2.2.locals ≤ y.2.2.2.2.locals) (hs : stk = av.reverse ++ st) (hst : ev_wd st ≤ 8) (k : Ev b y (pc + 3) ls (v :: st) τ Q) : Ev b y pc ls stk σ Q :=
  ev_callS hc ok hd hw hR hs hst (fun r σ' h => by obtain ⟨rfl, rfl⟩ := h; exact k)
theorem ev_S0 {av : List ev_V} {i : Nat} (hc : CF b z av σ none τ) (ok : ev_OkS z av.length) (hd : decode y.2.1 pc = .ok (.invokestatic i, 3)) (hw : Cond.methodLink y.1.cls i z.1 ∈ ev_gw) (hR : z.2.2.2.2.frames + 1 ≤ y.2.2.2.2.frames ∧ 8 + (z.2.2.1 + 11) + z.2.2.2.2.locals ≤ y.2.2.2.2.locals) (hs : stk = av.reverse ++ st) (hst : ev_wd st ≤ 8) (k : Ev b y (pc + 3) ls st τ Q) : Ev b y pc ls stk σ Q :=
  ev_callS hc ok hd hw hR hs hst (fun r σ' h => by obtain ⟨rfl, rfl⟩ := h; exact k)
theorem ev_Sbeq {av : List ev_V} {P : Prop} [Decidable P] {off : Int} {tgt : Nat} {i : Nat} (hc : CF b z av σ (some (vI (if P then 1 else 0))) τ) (ok : ev_OkS z av.length) (hd : decode y.2.1 pc = .ok (.invokestatic i, 3)) (hw : Cond.methodLink y.1.cls i z.1 ∈ ev_gw) (hR : z.2.2.2.2.frames + 1 ≤ y.2.2.2.2.frames ∧ 8 + (z.2.2.1 + 11) + z.2.2.2.2.locals ≤ y.2.2.2.2.locals) (hs : stk = av.reverse ++ st) (hst : ev_wd st ≤ 8) (hd2 : decode y.2.1 (pc + 3) = .ok (.ifCond .eq off, 3)) (ht : ((pc + 3 : Nat) : Int) + off = (tgt : Int)) (kt : ¬ P → Ev b y tgt ls st τ Q) (kf : P → Ev b y (pc + 3 + 3) ls st τ Q) : Ev b y pc ls stk σ Q := by
  refine ev_S1 hc ok hd hw hR hs hst ?_
  by_cases h : P
  · rw [if_pos h]
    exact ev_if_eq hd2 ht (by decide) (fun q => absurd q (by decide)) (fun q => kf h)
  · rw [if_neg h]
    exact ev_if_eq hd2 ht (by decide) (fun q => kt h) (fun q => absurd rfl q)
theorem ev_Sbne {av : List ev_V} {P : Prop} [Decidable P] {off : Int} {tgt : Nat} {i : Nat} (hc : CF b z av σ (some (vI (if P then 1 else 0))) τ) (ok : ev_OkS z av.length) (hd : decode y.2.1 pc = .ok (.invokestatic i, 3)) (hw : Cond.methodLink y.1.cls i z.1 ∈ ev_gw) (hR : z.2.2.2.2.frames + 1 ≤ y.2.2.2.2.frames ∧ 8 + (z.2.2.1 + 11) + z.2.2.2.2.locals ≤ y.2.2.2.2.locals) (hs : stk = av.reverse ++ st) (hst : ev_wd st ≤ 8) (hd2 : decode y.2.1 (pc + 3) = .ok (.ifCond .ne off, 3)) (ht : ((pc + 3 : Nat) : Int) + off = (tgt : Int)) (kt : P → Ev b y tgt ls st τ Q) (kf : ¬ P → Ev b y (pc + 3 + 3) ls st τ Q) : Ev b y pc ls stk σ Q := by
  refine ev_S1 hc ok hd hw hR hs hst ?_
  by_cases h : P
  · rw [if_pos h]
    exact ev_if_ne hd2 ht (by decide) (fun q => kt h) (fun q => absurd q (by decide))
  · rw [if_neg h]
    exact ev_if_ne hd2 ht (by decide) (fun q => absurd rfl q) (fun q => kf h)
theorem ev_SN1 {av : List ev_V} {v : ev_V} {i : Nat} {host : String} (hc : CF b z av σ (some v) τ) (ok : ev_OkS z av.length) (hd : decode y.2.1 pc = .ok (.invokestatic i, 3)) (hw : Cond.methodLinkNest y.1.cls i z.1 host ∈ ev_nw) (hR : z.2.2.2.2.frames + 1 ≤ y.2.2.2.2.frames ∧ 8 + (z.2.2.1 + 11) + z.2.2.2.2.locals ≤ y.2.2.2.2.locals) (hs : stk = av.reverse ++ st) (hst : ev_wd st ≤ 8) (k : Ev b y (pc + 3) ls (v :: st) τ Q) : Ev b y pc ls stk σ Q :=
  ev_callSN hc ok hd hw hR hs hst (fun r σ' h => by obtain ⟨rfl, rfl⟩ := h; exact k)
theorem ev_SN0 {av : List ev_V} {i : Nat} {host : String} (hc : CF b z av σ none τ) (ok : ev_OkS z av.length) (hd : decode y.2.1 pc = .ok (.invokestatic i, 3)) (hw : Cond.methodLinkNest y.1.cls i z.1 host ∈ ev_nw) (hR : z.2.2.2.2.frames + 1 ≤ y.2.2.2.2.frames ∧ 8 + (z.2.2.1 + 11) + z.2.2.2.2.locals ≤ y.2.2.2.2.locals) (hs : stk = av.reverse ++ st) (hst : ev_wd st ≤ 8) (k : Ev b y (pc + 3) ls st τ Q) : Ev b y pc ls stk σ Q :=
  ev_callSN hc ok hd hw hR hs hst (fun r σ' h => by obtain ⟨rfl, rfl⟩ := h; exact k)
theorem ev_SNbeq {av : List ev_V} {P : Prop} [Decidable P] {off : Int} {tgt : Nat} {i : Nat} {host : String} (hc : CF b z av σ (some (vI (if P then 1 else 0))) τ) (ok : ev_OkS z av.length) (hd : decode y.2.1 pc = .ok (.invokestatic i, 3)) (hw : Cond.methodLinkNest y.1.cls i z.1 host ∈ ev_nw) (hR : z.2.2.2.2.frames + 1 ≤ y.2.2.2.2.frames ∧ 8 + (z.2.2.1 + 11) + z.2.2.2.2.locals ≤ y.2.2.2.2.locals) (hs : stk = av.reverse ++ st) (hst : ev_wd st ≤ 8) (hd2 : decode y.2.1 (pc + 3) = .ok (.ifCond .eq off, 3)) (ht : ((pc + 3 : Nat) : Int) + off = (tgt : Int)) (kt : ¬ P → Ev b y tgt ls st τ Q) (kf : P → Ev b y (pc + 3 + 3) ls st τ Q) : Ev b y pc ls stk σ Q := by
  refine ev_SN1 hc ok hd hw hR hs hst ?_
  by_cases h : P
  · rw [if_pos h]
    exact ev_if_eq hd2 ht (by decide) (fun q => absurd q (by decide)) (fun q => kf h)
  · rw [if_neg h]
    exact ev_if_eq hd2 ht (by decide) (fun q => kt h) (fun q => absurd rfl q)
theorem ev_SNbne {av : List ev_V} {P : Prop} [Decidable P] {off : Int} {tgt : Nat} {i : Nat} {host : String} (hc : CF b z av σ (some (vI (if P then 1 else 0))) τ) (ok : ev_OkS z av.length) (hd : decode y.2.1 pc = .ok (.invokestatic i, 3)) (hw : Cond.methodLinkNest y.1.cls i z.1 host ∈ ev_nw) (hR : z.2.2.2.2.frames + 1 ≤ y.2.2.2.2.frames ∧ 8 + (z.2.2.1 + 11) + z.2.2.2.2.locals ≤ y.2.2.2.2.locals) (hs : stk = av.reverse ++ st) (hst : ev_wd st ≤ 8) (hd2 : decode y.2.1 (pc + 3) = .ok (.ifCond .ne off, 3)) (ht : ((pc + 3 : Nat) : Int) + off = (tgt : Int)) (kt : P → Ev b y tgt ls st τ Q) (kf : ¬ P → Ev b y (pc + 3 + 3) ls st τ Q) : Ev b y pc ls stk σ Q := by
  refine ev_SN1 hc ok hd hw hR hs hst ?_
  by_cases h : P
  · rw [if_pos h]
    exact ev_if_ne hd2 ht (by decide) (fun q => kt h) (fun q => absurd q (by decide))
  · rw [if_neg h]
    exact ev_if_ne hd2 ht (by decide) (fun q => absurd rfl q) (fun q => kf h)
theorem ev_T1 {av : List ev_V} {v : ev_V} {i j : Nat} (hc : CF b z (vR (61 + j) :: av) σ (some v) τ) (ok : ev_OkV z av.length) (hd : decode y.2.1 pc = .ok (.invokevirtual i, 3)) (hw : Cond.methodLink y.1.cls i z.1 ∈ ev_gw) (hj : j < 13) (hcl : z.1.cls = RJ0) (hR : z.2.2.2.2.frames + 1 ≤ y.2.2.2.2.frames ∧ 8 + (z.2.2.1 + 11) + z.2.2.2.2.locals ≤ y.2.2.2.2.locals) (hs : stk = av.reverse ++ vR (61 + j) :: st) (hst : ev_wd st ≤ 8) (k : Ev b y (pc + 3) ls (v :: st) τ Q) : Ev b y pc ls stk σ Q :=
  ev_callT hc ok hd hw hj hcl hR hs hst (fun r σ' h => by obtain ⟨rfl, rfl⟩ := h; exact k)
theorem ev_T0 {av : List ev_V} {i j : Nat} (hc : CF b z (vR (61 + j) :: av) σ none τ) (ok : ev_OkV z av.length) (hd : decode y.2.1 pc = .ok (.invokevirtual i, 3)) (hw : Cond.methodLink y.1.cls i z.1 ∈ ev_gw) (hj : j < 13) (hcl : z.1.cls = RJ0) (hR : z.2.2.2.2.frames + 1 ≤ y.2.2.2.2.frames ∧ 8 + (z.2.2.1 + 11) + z.2.2.2.2.locals ≤ y.2.2.2.2.locals) (hs : stk = av.reverse ++ vR (61 + j) :: st) (hst : ev_wd st ≤ 8) (k : Ev b y (pc + 3) ls st τ Q) : Ev b y pc ls stk σ Q :=
  ev_callT hc ok hd hw hj hcl hR hs hst (fun r σ' h => by obtain ⟨rfl, rfl⟩ := h; exact k)
theorem ev_Tbeq {av : List ev_V} {P : Prop} [Decidable P] {off : Int} {tgt : Nat} {i j : Nat} (hc : CF b z (vR (61 + j) :: av) σ (some (vI (if P then 1 else 0))) τ) (ok : ev_OkV z av.length) (hd : decode y.2.1 pc = .ok (.invokevirtual i, 3)) (hw : Cond.methodLink y.1.cls i z.1 ∈ ev_gw) (hj : j < 13) (hcl : z.1.cls = RJ0) (hR : z.2.2.2.2.frames + 1 ≤ y.2.2.2.2.frames ∧ 8 + (z.2.2.1 + 11) + z.2.2.2.2.locals ≤ y.2.2.2.2.locals) (hs : stk = av.reverse ++ vR (61 + j) :: st) (hst : ev_wd st ≤ 8) (hd2 : decode y.2.1 (pc + 3) = .ok (.ifCond .eq off, 3)) (ht : ((pc + 3 : Nat) : Int) + off = (tgt : Int)) (kt : ¬ P → Ev b y tgt ls st τ Q) (kf : P → Ev b y (pc + 3 + 3) ls st τ Q) : Ev b y pc ls stk σ Q := by
  refine ev_T1 hc ok hd hw hj hcl hR hs hst ?_
  by_cases h : P
  · rw [if_pos h]
    exact ev_if_eq hd2 ht (by decide) (fun q => absurd q (by decide)) (fun q => kf h)
  · rw [if_neg h]
    exact ev_if_eq hd2 ht (by decide) (fun q => kt h) (fun q => absurd rfl q)
theorem ev_Tbne {av : List ev_V} {P : Prop} [Decidable P] {off : Int} {tgt : Nat} {i j : Nat} (hc : CF b z (vR (61 + j) :: av) σ (some (vI (if P then 1 else 0))) τ) (ok : ev_OkV z av.length) (hd : decode y.2.1 pc = .ok (.invokevirtual i, 3)) (hw : Cond.methodLink y.1.cls i z.1 ∈ ev_gw) (hj : j < 13) (hcl : z.1.cls = RJ0) (hR : z.2.2.2.2.frames + 1 ≤ y.2.2.2.2.frames ∧ 8 + (z.2.2.1 + 11) + z.2.2.2.2.locals ≤ y.2.2.2.2.locals) (hs : stk = av.reverse ++ vR (61 + j) :: st) (hst : ev_wd st ≤ 8) (hd2 : decode y.2.1 (pc + 3) = .ok (.ifCond .ne off, 3)) (ht : ((pc + 3 : Nat) : Int) + off = (tgt : Int)) (kt : P → Ev b y tgt ls st τ Q) (kf : ¬ P → Ev b y (pc + 3 + 3) ls st τ Q) : Ev b y pc ls stk σ Q := by
  refine ev_T1 hc ok hd hw hj hcl hR hs hst ?_
  by_cases h : P
  · rw [if_pos h]
    exact ev_if_ne hd2 ht (by decide) (fun q => kt h) (fun q => absurd q (by decide))
  · rw [if_neg h]
    exact ev_if_ne hd2 ht (by decide) (fun q => absurd rfl q) (fun q => kf h)
end EVF
theorem ev_nb {P : Prop} [Decidable P] : narrow .boolean (.int (Int32.ofInt (if P then 1 else 0))) = .int (Int32.ofInt (if P then 1 else 0)) := by
  split <;> rfl
