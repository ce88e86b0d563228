/-! the mathematics of the plain: P 0 = numbers (1 crows, 2 day, 3 sitters, 8 likenesses), P 1 wheat, P 2 kinds, P 3 tempers, P 4 fees, P 5 sinces, P 6 cells, P 7 owners, P 8 ages -/
def sm (f : Int → Int) : Nat → Int
  | 0 => 0
  | n + 1 => sm f n + f n
theorem sm_congr {f g : Int → Int} : ∀ {n : Nat}, (∀ i : Nat, i < n → f i = g i) → sm f n = sm g n
  | 0, _ => rfl
  | n + 1, h => by
    show sm f n + f n = sm g n + g n
    rw [sm_congr (fun i hi => h i (by omega)), h n (by omega)]
theorem sm_bd {f : Int → Int} {lo hi : Int} : ∀ {n : Nat}, (∀ i : Nat, i < n → lo ≤ f i ∧ f i ≤ hi) → n * lo ≤ sm f n ∧ sm f n ≤ n * hi
  | 0, _ => by simp [sm]
  | n + 1, h => by
    have h1 := sm_bd (n := n) (fun i hi => h i (by omega))
    have h2 := h n (by omega)
    show ((n + 1 : Nat) : Int) * lo ≤ sm f n + f n ∧ sm f n + f n ≤ ((n + 1 : Nat) : Int) * hi
    have e1 : ((n + 1 : Nat) : Int) * lo = n * lo + lo := by rw [Int.natCast_add, Int.add_mul]; simp
    have e2 : ((n + 1 : Nat) : Int) * hi = n * hi + hi := by rw [Int.natCast_add, Int.add_mul]; simp
    omega
def sp_fade (kind temper age : Int) : Int :=
  if kind = 1 then max 0 (temper - age / 4) + 5
  else if kind = 2 then max 0 (temper - age / 4) / 2
  else if kind = 3 then (if age < 365 then temper else 0)
  else if kind = 4 then -(max 0 (temper - age / 4) / 2)
  else if kind = 5 then (if age < 7 then temper else 0)
  else max 0 (temper - age / 4)
def sp_scare (kind f d : Int) : Int :=
  if kind = 1 then max 0 (f - d)
  else if kind = 2 then max 0 (max 0 (f - 3 * d) - 1)
  else if kind = 4 then min 0 (f + 2 * d)
  else if kind = 5 then (if d ≤ 1 then 2 * max 0 (f - 3 * d) else max 0 (f - 3 * d))
  else max 0 (f - 3 * d)
theorem sp_fade_bd {kind temper age : Int} (ht : 0 ≤ temper ∧ temper ≤ 30) (ha : 0 ≤ age) : -15 ≤ sp_fade kind temper age ∧ sp_fade kind temper age ≤ 35 := by
  unfold sp_fade
  repeat' split
  all_goals omega
theorem sp_scare_bd {kind f d : Int} (hf : -15 ≤ f ∧ f ≤ 35) (hd : 0 ≤ d) : -15 ≤ sp_scare kind f d ∧ sp_scare kind f d ≤ 70 := by
  unfold sp_scare
  repeat' split
  all_goals omega
def sp_abs (x : Int) : Int := max x (-x)
def sp_dist (a c : Int) : Int := sp_abs (a / 8 - c / 8) + sp_abs (a % 8 - c % 8)
theorem sp_dist_bd {a c : Int} (ha : 0 ≤ a ∧ a < 48) (hc : 0 ≤ c ∧ c < 48) : 0 ≤ sp_dist a c ∧ sp_dist a c < 13 := by
  unfold sp_dist sp_abs
  omega
theorem sp_dist_comm (a c : Int) : sp_dist a c = sp_dist c a := by
  unfold sp_dist sp_abs
  omega
def cnt (P : ev_M) (l : Int) : Int := sp_fade (P 2 (P 7 l)) (P 3 (P 7 l)) (P 8 l)
def scr (P : ev_M) (l d : Int) : Int := sp_scare (P 2 (P 7 l)) (cnt P l) d
/-- the most that likenesses of k scare at c, out of a table -/
def mst (P : ev_M) (pr : Int → Bool) (tb : Int → Int → Int) (c k s : Int) : Nat → Int
  | 0 => s
  | n + 1 => if P 7 n = k ∧ pr n = true then max (mst P pr tb c k s n) (tb n (sp_dist (P 6 n) c)) else mst P pr tb c k s n
def fearT (P : ev_M) (pr : Int → Bool) (tb : Int → Int → Int) (s c : Int) : Int := sm (fun k => if mst P pr tb c k s (P 0 8).toNat = s then 0 else mst P pr tb c k s (P 0 8).toNat) (P 0 3).toNat
def fear (P : ev_M) (pr : Int → Bool) (c : Int) : Int := fearT P pr (scr P) (-1000000) c
def lnd (w f : Int → Int) : Nat → Int
  | 0 => -1
  | n + 1 => if 0 < w n ∧ f n < 20 ∧ (lnd w f n < 0 ∨ w (lnd w f n) - f (lnd w f n) < w n - f n) then (n : Int) else lnd w f n
theorem lnd_bd (w f : Int → Int) : ∀ n : Nat, -1 ≤ lnd w f n ∧ lnd w f n < n
  | 0 => by simp [lnd]
  | n + 1 => by
    have := lnd_bd w f n
    unfold lnd
    split <;> omega
theorem lnd_ok (w f : Int → Int) : ∀ n : Nat, 0 ≤ lnd w f n → 0 < w (lnd w f n)
  | 0 => fun h => absurd h (by simp [lnd])
  | n + 1 => by
    have := lnd_ok w f n
    unfold lnd
    split
    · rename_i h; intro _; exact h.1
    · exact this
def upw (w : Int → Int) (c v : Int) : Int → Int := fun i => if i = c then v else w i
/-- behind k crows: the wheat and what was eaten -/
def eatc (f w : Int → Int) : Nat → (Int → Int) × Int
  | 0 => (w, 0)
  | k + 1 => if lnd (eatc f w k).1 f 48 < 0 then eatc f w k else (upw (eatc f w k).1 (lnd (eatc f w k).1 f 48) ((eatc f w k).1 (lnd (eatc f w k).1 f 48) - min 2 ((eatc f w k).1 (lnd (eatc f w k).1 f 48))), (eatc f w k).2 + min 2 ((eatc f w k).1 (lnd (eatc f w k).1 f 48)))
def metB (P : ev_M) (a o : Int) : Prop := P 6 a / 8 = P 6 o / 8 ∨ P 6 a % 8 = P 6 o % 8
/-- one pair of likenesses of k that meet -/
def mpr (P : ev_M) (pr : Int → Bool) (k a o : Int) : Int := if P 7 a = k ∧ P 7 o = k ∧ (P 6 a / 8 = P 6 o / 8 ∨ P 6 a % 8 = P 6 o % 8) ∧ pr a = true ∧ pr o = true then 1 else 0
theorem mpr_comm (P : ev_M) (pr : Int → Bool) (k a o : Int) : mpr P pr k a o = mpr P pr k o a := by
  unfold mpr
  congr 1
  apply propext
  constructor
  · rintro ⟨h1, h2, h3, h4, h5⟩; exact ⟨h2, h1, by omega, h5, h4⟩
  · rintro ⟨h1, h2, h3, h4, h5⟩; exact ⟨h2, h1, by omega, h5, h4⟩
/-- how many pairs of likenesses of k meet -/
def mts (P : ev_M) (pr : Int → Bool) (k : Int) (n : Nat) : Int := sm (fun l => sm (fun o => mpr P pr k l o) l.toNat) n
def dayW (P : ev_M) (pr : Int → Bool) : (Int → Int) × Int := eatc (fear P pr) (P 1) (P 0 1).toNat
def dayE (P : ev_M) (pr : Int → Bool) : Int := (dayW P pr).2
def dayM (P : ev_M) (pr : Int → Bool) : ev_M := fun j i =>
  if j = 1 then (dayW P pr).1 i
  else if j = 3 then (if 0 ≤ i ∧ i < P 0 3 then max 0 (P 3 i - mts P pr i (P 0 8).toNat) else P 3 i)
  else if j = 8 then (if 0 ≤ i ∧ i < P 0 8 then min 9999 (P 8 i + 1) else P 8 i)
  else if j = 0 ∧ i = 2 then P 0 2 + 1
  else P j i
def dayN (P : ev_M) (pr : Int → Bool) : Nat → ev_M
  | 0 => P
  | n + 1 => dayM (dayN P pr n) pr
def eatN (P : ev_M) (pr : Int → Bool) (n : Nat) : Int := sm (fun i => dayE (dayN P pr i.toNat) pr) n
def allp : Int → Bool := fun _ => true
/-- what holds of every plain -/
def okP (P : ev_M) : Prop := (0 ≤ P 0 1 ∧ P 0 1 ≤ 20) ∧ 0 ≤ P 0 2 ∧ (0 ≤ P 0 3 ∧ P 0 3 ≤ 6) ∧ (0 ≤ P 0 8 ∧ P 0 8 ≤ 8) ∧ (∀ c : Int, 0 ≤ c ∧ c < 48 → 0 ≤ P 1 c ∧ P 1 c ≤ 99) ∧
  (∀ k : Int, 0 ≤ k ∧ k < P 0 3 → (0 ≤ P 2 k ∧ P 2 k ≤ 5) ∧ (0 ≤ P 3 k ∧ P 3 k ≤ 30) ∧ (0 ≤ P 4 k ∧ P 4 k ≤ 99) ∧ 0 ≤ P 5 k) ∧
  (∀ l : Int, 0 ≤ l ∧ l < P 0 8 → (0 ≤ P 6 l ∧ P 6 l < 48) ∧ (0 ≤ P 7 l ∧ P 7 l < P 0 3) ∧ (0 ≤ P 8 l ∧ P 8 l ≤ 9999))
/-- a plain of the class: its cells -/
def wn (σ : ev_M) (p : Nat) : ev_M := fun j i => if j < 9 then σ (p + j) i else 0
theorem wn0 {σ : ev_M} {p : Nat} {i : Int} : wn σ p 0 i = σ p i := rfl
theorem wn1 {σ : ev_M} {p : Nat} {i : Int} : wn σ p 1 i = σ (p + 1) i := rfl
theorem wn2 {σ : ev_M} {p : Nat} {i : Int} : wn σ p 2 i = σ (p + 2) i := rfl
theorem wn3 {σ : ev_M} {p : Nat} {i : Int} : wn σ p 3 i = σ (p + 3) i := rfl
theorem wn4 {σ : ev_M} {p : Nat} {i : Int} : wn σ p 4 i = σ (p + 4) i := rfl
theorem wn5 {σ : ev_M} {p : Nat} {i : Int} : wn σ p 5 i = σ (p + 5) i := rfl
theorem wn6 {σ : ev_M} {p : Nat} {i : Int} : wn σ p 6 i = σ (p + 6) i := rfl
theorem wn7 {σ : ev_M} {p : Nat} {i : Int} : wn σ p 7 i = σ (p + 7) i := rfl
theorem wn8 {σ : ev_M} {p : Nat} {i : Int} : wn σ p 8 i = σ (p + 8) i := rfl
theorem wn_congr {σ τ : ev_M} {p : Nat} (h : ∀ j, j < 9 → τ (p + j) = σ (p + j)) : wn τ p = wn σ p := by
  funext j i
  unfold wn
  split
  · rename_i hj; rw [h j hj]
  · rfl
def isP (p : Nat) : Prop := p = 1 ∨ p = 10 ∨ p = 19
theorem pk0 {p : Nat} (h : isP p) : ev_kds[p]? = some (.inl (1, [some (p + 1), none, none, none, some (p + 2), some (p + 3), some (p + 4), some (p + 5), none, some (p + 6), some (p + 7), some (p + 8)])) := by
  rcases h with rfl | rfl | rfl <;> rfl
theorem pk1 {p : Nat} (h : isP p) : ev_kds[p + 1]? = some (.inr (0, 48)) := by
  rcases h with rfl | rfl | rfl <;> rfl
theorem pk2 {p : Nat} (h : isP p) : ev_kds[p + 2]? = some (.inr (0, 6)) := by
  rcases h with rfl | rfl | rfl <;> rfl
theorem pk3 {p : Nat} (h : isP p) : ev_kds[p + 3]? = some (.inr (0, 6)) := by
  rcases h with rfl | rfl | rfl <;> rfl
theorem pk4 {p : Nat} (h : isP p) : ev_kds[p + 4]? = some (.inr (0, 6)) := by
  rcases h with rfl | rfl | rfl <;> rfl
theorem pk5 {p : Nat} (h : isP p) : ev_kds[p + 5]? = some (.inr (0, 6)) := by
  rcases h with rfl | rfl | rfl <;> rfl
theorem pk6 {p : Nat} (h : isP p) : ev_kds[p + 6]? = some (.inr (0, 8)) := by
  rcases h with rfl | rfl | rfl <;> rfl
theorem pk7 {p : Nat} (h : isP p) : ev_kds[p + 7]? = some (.inr (0, 8)) := by
  rcases h with rfl | rfl | rfl <;> rfl
theorem pk8 {p : Nat} (h : isP p) : ev_kds[p + 8]? = some (.inr (0, 8)) := by
  rcases h with rfl | rfl | rfl <;> rfl
def isS (q : Nat) : Prop := q = 37 ∨ q = 39 ∨ q = 41 ∨ q = 43
theorem sk0 {q : Nat} (h : isS q) : ev_kds[q]? = some (.inl (2, [some (q + 1), none, none])) := by
  rcases h with rfl | rfl | rfl | rfl <;> rfl
theorem sk1 {q : Nat} (h : isS q) : ev_kds[q + 1]? = some (.inr (1, 40)) := by
  rcases h with rfl | rfl | rfl | rfl <;> rfl
