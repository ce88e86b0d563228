/-! the world of both objects: 60 cells whose references never change; their contents as whole numbers -/
abbrev ev_V : Type := Int ⊕ (Int ⊕ (Nat ⊕ Unit))
abbrev ev_M : Type := Nat → Int → Int
abbrev ev_B : Type := (Nat → Nat) × (va_G × ((Nat → ClassId) × (Value × (Nat × (Nat → Int)))))
abbrev ev_Kd : Type := (Nat × List (Option Nat)) ⊕ (Nat × Nat)
abbrev ev_Y : Type := MethodName × (ByteArray × (Nat × (Option FieldType × Room)))
abbrev vI (z : Int) : ev_V := .inl z
abbrev vL (z : Int) : ev_V := .inr (.inl z)
abbrev vR (k : Nat) : ev_V := .inr (.inr (.inl k))
abbrev vX : ev_V := .inr (.inr (.inr ()))
def ev_kds : List ev_Kd := [
  .inl (4, [some 1, some 10, some 19, some 28, some 34, some 36, some 45, none]),
  .inl (1, [some 2, none, none, none, some 3, some 4, some 5, some 6, none, some 7, some 8, some 9]),
  .inr (0, 48),
  .inr (0, 6),
  .inr (0, 6),
  .inr (0, 6),
  .inr (0, 6),
  .inr (0, 8),
  .inr (0, 8),
  .inr (0, 8),
  .inl (1, [some 11, none, none, none, some 12, some 13, some 14, some 15, none, some 16, some 17, some 18]),
  .inr (0, 48),
  .inr (0, 6),
  .inr (0, 6),
  .inr (0, 6),
  .inr (0, 6),
  .inr (0, 8),
  .inr (0, 8),
  .inr (0, 8),
  .inl (1, [some 20, none, none, none, some 21, some 22, some 23, some 24, none, some 25, some 26, some 27]),
  .inr (0, 48),
  .inr (0, 6),
  .inr (0, 6),
  .inr (0, 6),
  .inr (0, 6),
  .inr (0, 8),
  .inr (0, 8),
  .inr (0, 8),
  .inl (0, [some 29, some 30, some 31, some 32, some 33]),
  .inr (0, 48),
  .inr (0, 8),
  .inr (0, 104),
  .inr (0, 6),
  .inr (0, 6),
  .inl (3, [some 35, none, none, none, none, none, none]),
  .inr (0, 120),
  .inr (2, 4),
  .inl (2, [some 38, none, none]),
  .inr (1, 40),
  .inl (2, [some 40, none, none]),
  .inr (1, 40),
  .inl (2, [some 42, none, none]),
  .inr (1, 40),
  .inl (2, [some 44, none, none]),
  .inr (1, 40),
  .inr (0, 7),
  .inl (5, [some 47, some 48, some 49, some 50, some 51, none, none, some 52, some 53, some 54, some 55, none, none, none, none, none, some 56, some 57, some 58, some 59]),
  .inr (0, 100),
  .inr (0, 100),
  .inr (0, 100),
  .inr (0, 100),
  .inr (0, 7),
  .inr (0, 48),
  .inr (0, 104),
  .inr (0, 6),
  .inr (0, 120),
  .inr (0, 4),
  .inr (0, 4),
  .inr (1, 160),
  .inr (1, 40)]
abbrev ev_cls : List vw_C := [(RX0, TX0, 5), (RX2, TX2, 12), (RX3, TX3, 3), (RX4, TX4, 7), (RX5, TX5, 8), (RX6, TX6, 20)]
def ev_tyo : Nat → (Nat → FieldType) := fun ci => match ci with
  | 0 => tyX0
  | 1 => tyX2
  | 2 => tyX3
  | 3 => tyX4
  | 4 => tyX5
  | _ => tyX6
abbrev ev_tys (b : ev_B) : List (ClassId × FieldType) := [(b.2.2.1 0, .int), (b.2.2.1 1, .long), (b.2.2.1 2, .object RX3)]
def ev_cv (b : ev_B) : ev_V → Value
  | .inl z => .int (Int32.ofInt z)
  | .inr (.inl z) => .long (Int64.ofInt z)
  | .inr (.inr (.inl k)) => .ref (b.1 k)
  | .inr (.inr (.inr _)) => b.2.2.2.1
def ev_c2 : ev_V → Bool
  | .inr (.inl _) => true
  | _ => false
def ev_cl (b : ev_B) (q : Nat × ev_V) : Nat × Value := (q.1, ev_cv b q.2)
def ev_fd (b : ev_B) (σ : ev_M) (k : Nat) (j : Nat) (o : Option Nat) : Value := match o with
  | none => .int (Int32.ofInt (σ k j))
  | some t => .ref (b.1 t)
def ev_rt (j : Nat) : Nat := 37 + 2 * j
def ev_cell (b : ev_B) (σ : ev_M) (k : Nat) (d : ev_Kd) : va_E := match d with
  | .inl (ci, tm) => .inr (ci, tm.mapIdx (fun j o => ev_fd b σ k j o))
  | .inr (0, n) => .inl (b.2.2.1 0, n, .inl (fun j => Int32.ofInt (σ k j)))
  | .inr (1, n) => .inl (b.2.2.1 1, n, .inr (.inl (fun j => Int64.ofInt (σ k j))))
  | .inr (_, n) => .inl (b.2.2.1 2, n, .inr (.inr (.inr (.inr (fun j => some (b.1 (ev_rt j)))))))
def ev_ws (b : ev_B) (σ : ev_M) : va_W := ev_kds.mapIdx (fun k d => (b.1 k, ev_cell b σ k d))
def mup (σ : ev_M) (k : Nat) (i z : Int) : ev_M := fun a j => if a = k ∧ j = i then z else σ a j
def mcp (σ : ev_M) (k0 : Nat) (sp : Int) (k : Nat) (dp n : Int) : ev_M := fun a j => if a = k ∧ dp ≤ j ∧ j < dp + n then σ k0 (sp + (j - dp)) else σ a j
theorem ev_at {b : ev_B} {σ : ev_M} {k : Nat} {d : ev_Kd} (h : ev_kds[k]? = some d) : (ev_ws b σ)[k]? = some (b.1 k, ev_cell b σ k d) := by
  rw [ev_ws, List.getElem?_mapIdx, h]; rfl
theorem ev_cell_congr {b : ev_B} {σ τ : ev_M} {k : Nat} {d : ev_Kd} (h : ∀ j, σ k j = τ k j) : ev_cell b σ k d = ev_cell b τ k d := by
  have e : σ k = τ k := funext h
  rcases d with ⟨ci, tm⟩ | ⟨t, n⟩
  · simp only [ev_cell, ev_fd, e]
  · match t with
    | 0 => simp only [ev_cell, e]
    | 1 => simp only [ev_cell, e]
    | n + 2 => rfl
theorem ev_set {b : ev_B} {σ τ : ev_M} {k : Nat} {d : ev_Kd} (h : ev_kds[k]? = some d) (ho : ∀ a, a ≠ k → σ a = τ a) : (ev_ws b σ).set k (b.1 k, ev_cell b τ k d) = ev_ws b τ := by
  apply List.ext_getElem?
  intro q
  rw [List.getElem?_set]
  by_cases hq : k = q
  · subst hq
    have hl : k < (ev_ws b σ).length := (List.getElem?_eq_some_iff.mp (ev_at (b := b) (σ := σ) h)).1
    rw [if_pos rfl, if_pos hl, ev_at h]
  · rw [if_neg hq]
    simp only [ev_ws, List.getElem?_mapIdx]
    cases ev_kds[q]? with
    | none => rfl
    | some x =>
      simp only [Option.map_some]
      rw [ev_cell_congr (σ := σ) (τ := τ) (fun j => by rw [ho q (Ne.symm hq)])]
theorem mup_ne {σ : ev_M} {k : Nat} {i z : Int} {a : Nat} (h : a ≠ k) : mup σ k i z a = σ a := by
  funext j; simp [mup, h]
theorem mup_at {σ : ev_M} {k : Nat} {i z : Int} : mup σ k i z k i = z := by simp [mup]
theorem mup_off {σ : ev_M} {k : Nat} {i z j : Int} (h : j ≠ i) : mup σ k i z k j = σ k j := by simp [mup, h]
theorem mcp_ne {σ : ev_M} {k0 k : Nat} {sp dp n : Int} {a : Nat} (h : a ≠ k) : mcp σ k0 sp k dp n a = σ a := by
  funext j; simp [mcp, h]
theorem ev_small : ∀ (k t n : Nat), ev_kds[k]? = some (.inr (t, n)) → n < 1000 := by
  have h : ∀ x ∈ ev_kds, ∀ t n, x = .inr (t, n) → n < 1000 := by
    intro x hx
    simp only [ev_kds, List.mem_cons, List.not_mem_nil, or_false] at hx
    rcases hx with rfl | rfl | rfl | rfl | rfl | rfl | rfl | rfl | rfl | rfl | rfl | rfl | rfl | rfl | rfl | rfl | rfl | rfl | rfl | rfl | rfl | rfl | rfl | rfl | rfl | rfl | rfl | rfl | rfl | rfl | rfl | rfl | rfl | rfl | rfl | rfl | rfl | rfl | rfl | rfl | rfl | rfl | rfl | rfl | rfl | rfl | rfl | rfl | rfl | rfl | rfl | rfl | rfl | rfl | rfl | rfl | rfl | rfl | rfl | rfl <;> intro t n e <;> cases e <;> decide
  intro k t n hk
  exact h _ (List.mem_of_getElem? hk) t n rfl
/-! whole numbers as ints and longs -/
theorem ev_ti {z : Int} (h : -2147483648 ≤ z ∧ z < 2147483648) : (Int32.ofInt z).toInt = z := by
  rw [Int32.toInt_ofInt, show Int32.size = 4294967296 from rfl, Int.bmod_def]; split <;> omega
theorem ev_tl {z : Int} (h : -9223372036854775808 ≤ z ∧ z < 9223372036854775808) : (Int64.ofInt z).toInt = z := by
  rw [Int64.toInt_ofInt, show Int64.size = 18446744073709551616 from rfl, Int.bmod_def]; split <;> omega
theorem ev_lt {x y : Int} (hx : -2147483648 ≤ x ∧ x < 2147483648) (hy : -2147483648 ≤ y ∧ y < 2147483648) : Int32.ofInt x < Int32.ofInt y ↔ x < y := by
  rw [Int32.lt_iff_toInt_lt, ev_ti hx, ev_ti hy]
theorem ev_le {x y : Int} (hx : -2147483648 ≤ x ∧ x < 2147483648) (hy : -2147483648 ≤ y ∧ y < 2147483648) : Int32.ofInt x ≤ Int32.ofInt y ↔ x ≤ y := by
  rw [Int32.le_iff_toInt_le, ev_ti hx, ev_ti hy]
theorem ev_eq {x y : Int} (hx : -2147483648 ≤ x ∧ x < 2147483648) (hy : -2147483648 ≤ y ∧ y < 2147483648) : Int32.ofInt x = Int32.ofInt y ↔ x = y := by
  rw [← Int32.toInt_inj, ev_ti hx, ev_ti hy]
theorem ev_in {z : Int} {n : Nat} (h : 0 ≤ z ∧ z < n) (hn : n < 1000) : vp_in (Int32.ofInt z) n := by
  rw [vp_in_iff, ev_ti (by omega)]; exact h
theorem ev_nn {z : Int} (h : 0 ≤ z ∧ z < 2147483648) : (Int32.ofInt z).toNatClampNeg = z.toNat := by
  show (Int32.ofInt z).toInt.toNat = _
  rw [ev_ti (by omega)]
theorem ev_upi {σ : ev_M} {k : Nat} {i z : Int} (hi : 0 ≤ i) : upd (fun j : Nat => Int32.ofInt (σ k j)) i.toNat (Int32.ofInt z) = fun j : Nat => Int32.ofInt (mup σ k i z k j) := by
  funext j
  by_cases h : j = i.toNat
  · have h2 : (j : Int) = i := by omega
    simp only [upd, mup]; rw [if_pos h, if_pos ⟨trivial, h2⟩]
  · have h2 : ¬ (j : Int) = i := by omega
    simp [upd, mup, h, h2]
theorem ev_upl {σ : ev_M} {k : Nat} {i z : Int} (hi : 0 ≤ i) : vp_updL (fun j : Nat => Int64.ofInt (σ k j)) i.toNat (Int64.ofInt z) = fun j : Nat => Int64.ofInt (mup σ k i z k j) := by
  funext j
  by_cases h : j = i.toNat
  · have h2 : (j : Int) = i := by omega
    simp only [vp_updL, mup]; rw [if_pos h, if_pos ⟨trivial, h2⟩]
  · have h2 : ¬ (j : Int) = i := by omega
    simp [vp_updL, mup, h, h2]
theorem ev_upf {b : ev_B} {σ : ev_M} {k : Nat} {tm : List (Option Nat)} {j : Nat} {z : Int} (h : tm[j]? = some none) : (tm.mapIdx (fun i o => ev_fd b σ k i o)).set j (.int (Int32.ofInt z)) = tm.mapIdx (fun i o => ev_fd b (mup σ k j z) k i o) := by
  apply List.ext_getElem?
  intro q
  rw [List.getElem?_set]
  by_cases hq : j = q
  · subst hq
    have hl : j < (tm.mapIdx (fun i o => ev_fd b σ k i o)).length := by
      rw [List.length_mapIdx]; exact (List.getElem?_eq_some_iff.mp h).1
    rw [if_pos rfl, if_pos hl, List.getElem?_mapIdx, h]
    simp [ev_fd, mup]
  · rw [if_neg hq, List.getElem?_mapIdx, List.getElem?_mapIdx]
    cases tm[q]? with
    | none => rfl
    | some o =>
      have h2 : ¬ (q : Int) = (j : Int) := by omega
      cases o <;> simp [ev_fd, mup, h2]
/-! the words -/
def ev_gw : List Cond := lw_tbl.filter goodWord
theorem ev_gm {w : Cond} (h : w ∈ lw_tbl) (hg : goodWord w = true) : w ∈ ev_gw := List.mem_filter.mpr ⟨h, hg⟩
theorem ev_gg : GoodIn ev_gw ev_gw := fun w h => ⟨h, good_of_word (List.mem_filter.mp h).2⟩
theorem ev_t1 (i : Nat) {w : Cond} (h : tables_1_1[i]? = some w) : w ∈ lw_tbl := List.mem_append_right _ (List.mem_append_left _ (List.mem_of_getElem? h))
theorem ev_t2 (i : Nat) {w : Cond} (h : tables_1_2[i]? = some w) : w ∈ lw_tbl := List.mem_append_right _ (List.mem_append_right _ (List.mem_append_left _ (List.mem_of_getElem? h)))
theorem ev_t3 (i : Nat) {w : Cond} (h : tables_1_3[i]? = some w) : w ∈ lw_tbl := List.mem_append_right _ (List.mem_append_right _ (List.mem_append_right _ (List.mem_append_left _ (List.mem_of_getElem? h))))
theorem ev_t4 (i : Nat) {w : Cond} (h : tables_1_4[i]? = some w) : w ∈ lw_tbl := List.mem_append_right _ (List.mem_append_right _ (List.mem_append_right _ (List.mem_append_right _ (List.mem_append_left _ (List.mem_of_getElem? h)))))
theorem ev_t5 (i : Nat) {w : Cond} (h : tables_1_5[i]? = some w) : w ∈ lw_tbl := List.mem_append_right _ (List.mem_append_right _ (List.mem_append_right _ (List.mem_append_right _ (List.mem_append_right _ (List.mem_append_left _ (List.mem_of_getElem? h))))))
theorem ev_t6 (i : Nat) {w : Cond} (h : tables_1_6[i]? = some w) : w ∈ lw_tbl := List.mem_append_right _ (List.mem_append_right _ (List.mem_append_right _ (List.mem_append_right _ (List.mem_append_right _ (List.mem_append_right _ (List.mem_of_getElem? h))))))
theorem ev_t0 (i : Nat) {q : MethodName × Nat} (h : lw_privs[i]? = some q) : Cond.selects q.1.cls q.1 q.1 ∈ lw_tbl := List.mem_append_left _ (List.mem_map.mpr ⟨q, List.mem_of_getElem? h, rfl⟩)
