/-! some likenesses alone: all that days do is the same -/
theorem sm_mask {pr : Int → Bool} {g g' : Int → Int} : ∀ {n : Nat}, (∀ l : Nat, l < n → pr l = true → g' (pos pr l) = g l) → (∀ l : Nat, l < n → pr l = false → g l = 0) → sm g' (pos pr n) = sm g n
  | 0, _, _ => rfl
  | n + 1, h, h0 => by
    have ih := sm_mask (n := n) (fun l hl => h l (by omega)) (fun l hl => h0 l (by omega))
    show sm g' (pos pr n + (if pr n = true then 1 else 0)) = sm g n + g n
    by_cases q : pr n = true
    · rw [if_pos q, sm, ih, h n (by omega) q]
    · rw [if_neg q, Nat.add_zero, ih, h0 n (by omega) (by simpa using q), Int.add_zero]
theorem sm_zero {g : Int → Int} : ∀ {n : Nat}, (∀ l : Nat, l < n → g l = 0) → sm g n = 0
  | 0, _ => rfl
  | n + 1, h => by rw [sm, sm_zero (fun l hl => h l (by omega)), h n (by omega)]; rfl
theorem mst_mask {P P' : ev_M} {pr : Int → Bool} {tb tb' : Int → Int → Int} {c k s : Int} : ∀ {n : Nat}, (∀ l : Nat, l < n → pr l = true → P' 7 (pos pr l) = P 7 l ∧ tb' (pos pr l) (sp_dist (P' 6 (pos pr l)) c) = tb l (sp_dist (P 6 l) c)) → mst P' allp tb' c k s (pos pr n) = mst P pr tb c k s n
  | 0, _ => rfl
  | n + 1, h => by
    have ih := mst_mask (k := k) (s := s) (n := n) (fun l hl => h l (by omega))
    show mst P' allp tb' c k s (pos pr n + (if pr n = true then 1 else 0)) = (if P 7 n = k ∧ pr n = true then max (mst P pr tb c k s n) (tb n (sp_dist (P 6 n) c)) else mst P pr tb c k s n)
    by_cases q : pr n = true
    · obtain ⟨h1, h2⟩ := h n (by omega) q
      rw [if_pos q]
      show (if P' 7 ((pos pr n : Nat) : Int) = k ∧ allp ((pos pr n : Nat) : Int) = true then max (mst P' allp tb' c k s (pos pr n)) (tb' ((pos pr n : Nat) : Int) (sp_dist (P' 6 ((pos pr n : Nat) : Int)) c)) else mst P' allp tb' c k s (pos pr n)) = _
      rw [ih, h1, h2]
      by_cases w : P 7 n = k
      · rw [if_pos ⟨w, rfl⟩, if_pos ⟨w, q⟩]
      · rw [if_neg (fun z => w z.1), if_neg (fun z => w z.1)]
    · rw [if_neg q, Nat.add_zero, ih, if_neg (fun z => q z.2)]
theorem pos_surj {pr : Int → Bool} : ∀ {n j : Nat}, j < pos pr n → ∃ l : Nat, l < n ∧ pr l = true ∧ pos pr l = j
  | 0, j, h => absurd h (Nat.not_lt_zero _)
  | n + 1, j, h => by
    have h' : j < pos pr n + (if pr n = true then 1 else 0) := h
    by_cases q : j < pos pr n
    · obtain ⟨l, h1, h2, h3⟩ := pos_surj q
      exact ⟨l, by omega, h2, h3⟩
    · by_cases w : pr n = true
      · rw [if_pos w] at h'
        exact ⟨n, by omega, w, by omega⟩
      · rw [if_neg w] at h'
        omega
theorem eatc_congr2 {f f' w w' : Int → Int} (h : ∀ c : Int, 0 ≤ c ∧ c < 48 → w c = w' c ∧ f c = f' c) : ∀ k : Nat, (eatc f w k).2 = (eatc f' w' k).2 ∧ ∀ c : Int, 0 ≤ c ∧ c < 48 → (eatc f w k).1 c = (eatc f' w' k).1 c
  | 0 => ⟨rfl, fun c hc => (h c hc).1⟩
  | k + 1 => by
    obtain ⟨i1, i2⟩ := eatc_congr2 h k
    have el : lnd (eatc f w k).1 f 48 = lnd (eatc f' w' k).1 f' 48 := lnd_congr (fun c hc => ⟨i2 c hc, (h c hc).2⟩)
    have lb := lnd_bd (eatc f' w' k).1 f' 48
    unfold eatc
    rw [el]
    split
    · exact ⟨i1, i2⟩
    · have e := i2 (lnd (eatc f' w' k).1 f' 48) (by omega)
      refine ⟨?_, fun c hc => ?_⟩
      · show (eatc f w k).2 + _ = (eatc f' w' k).2 + _
        rw [i1, e]
      · show upw _ _ _ c = upw _ _ _ c
        unfold upw
        rw [e, i2 c hc]
section CMs
variable {P P' : ev_M} {pr : Int → Bool}
theorem CM_own (h : CM P pr P') (H : okP P) {l : Nat} (hl : (l : Int) < P 0 8) (hp : pr l = true) : cnt P' (pos pr l) = cnt P l ∧ ∀ d, scr P' (pos pr l) d = scr P l d := by
  obtain ⟨h1, h2, h3, h4, h5, h6, h7⟩ := h
  obtain ⟨a1, a2, a3⟩ := h7 l hl hp
  have q := (H.2.2.2.2.2.2 l (by omega)).2.1
  obtain ⟨b1, b2, b3, b4⟩ := h6 (P 7 l) q
  have e : cnt P' (pos pr l) = cnt P l := by
    unfold cnt
    rw [a2, a3, b1, b2]
  refine ⟨e, fun d => ?_⟩
  unfold scr
  rw [e, a2, b1]
theorem CM_fear (h : CM P pr P') (H : okP P) (c : Int) : fear P' allp c = fear P pr c := by
  unfold fear fearT
  rw [h.2.2.1, h.2.2.2.1]
  apply sm_congr
  intro k _
  have e : mst P' allp (scr P') c k (-1000000) ((pos pr (P 0 8).toNat : Nat) : Int).toNat = mst P pr (scr P) c k (-1000000) (P 0 8).toNat := by
    rw [show ((pos pr (P 0 8).toNat : Nat) : Int).toNat = pos pr (P 0 8).toNat by omega]
    refine mst_mask (fun l hl hp => ?_)
    have hl2 : (l : Int) < P 0 8 := by omega
    obtain ⟨a1, a2, a3⟩ := h.2.2.2.2.2.2 l hl2 hp
    refine ⟨a2, ?_⟩
    rw [a1]
    exact (CM_own h H hl2 hp).2 _
  rw [e]
theorem CM_mpr (h : CM P pr P') {k : Int} {a o : Nat} (ha : (a : Int) < P 0 8) (ho : (o : Int) < P 0 8) (pa : pr a = true) (po : pr o = true) : mpr P' allp k (pos pr a) (pos pr o) = mpr P pr k a o := by
  obtain ⟨a1, a2, a3⟩ := h.2.2.2.2.2.2 a ha pa
  obtain ⟨b1, b2, b3⟩ := h.2.2.2.2.2.2 o ho po
  unfold mpr
  rw [a1, a2, b1, b2, pa, po]
  rfl
theorem CM_mts (h : CM P pr P') (k : Int) {n : Nat} (hn : (n : Int) ≤ P 0 8) : mts P' allp k (pos pr n) = mts P pr k n := by
  unfold mts
  refine sm_mask (fun l hl hp => ?_) (fun l hl hp => ?_)
  · show sm _ ((pos pr l : Nat) : Int).toNat = sm _ ((l : Nat) : Int).toNat
    rw [show ((pos pr l : Nat) : Int).toNat = pos pr l by omega, show ((l : Nat) : Int).toNat = l by omega]
    refine sm_mask (fun o ho hpo => CM_mpr h (by omega) (by omega) hp hpo) (fun o ho hpo => ?_)
    unfold mpr
    rw [if_neg (fun q => by rw [hpo] at q; simp at q)]
  · refine sm_zero (fun o _ => ?_)
    unfold mpr
    rw [if_neg (fun q => by rw [hp] at q; simp at q)]
theorem CM_day (h : CM P pr P') (H : okP P) : CM (dayM P pr) pr (dayM P' allp) ∧ dayE P' allp = dayE P pr := by
  have hw : ∀ c : Int, 0 ≤ c ∧ c < 48 → P' 1 c = P 1 c ∧ fear P' allp c = fear P pr c := fun c hc => ⟨h.2.2.2.2.1 c hc, CM_fear h H c⟩
  have ec := eatc_congr2 hw (P 0 1).toNat
  have e1 := h.1
  have e3 := h.2.2.1
  have e8 := h.2.2.2.1
  have H3 := H.2.2.1
  have H8 := H.2.2.2.1
  refine ⟨⟨h.1, ?_, h.2.2.1, h.2.2.2.1, fun c hc => ?_, fun k hk => ?_, fun l hl hp => ?_⟩, ?_⟩
  · show P' 0 2 + 1 = P 0 2 + 1
    rw [h.2.1]
  · show (eatc (fear P' allp) (P' 1) (P' 0 1).toNat).1 c = (eatc (fear P pr) (P 1) (P 0 1).toNat).1 c
    rw [h.1]
    exact ec.2 c hc
  · have hk2 : 0 ≤ k ∧ k < P 0 3 := hk
    obtain ⟨b1, b2, b3, b4⟩ := h.2.2.2.2.2.1 k hk2
    refine ⟨b1, ?_, b3, b4⟩
    show (if 0 ≤ k ∧ k < P' 0 3 then max 0 (P' 3 k - mts P' allp k (P' 0 8).toNat) else P' 3 k) = (if 0 ≤ k ∧ k < P 0 3 then max 0 (P 3 k - mts P pr k (P 0 8).toNat) else P 3 k)
    rw [if_pos (by omega), if_pos hk2, b2, e8, show ((pos pr (P 0 8).toNat : Nat) : Int).toNat = pos pr (P 0 8).toNat by omega, CM_mts h k (by omega)]
  · have hl2 : (l : Int) < P 0 8 := hl
    obtain ⟨a1, a2, a3⟩ := h.2.2.2.2.2.2 l hl2 hp
    refine ⟨a1, a2, ?_⟩
    have hq := pos_lt hp (n := (P 0 8).toNat) (by omega)
    show (if 0 ≤ ((pos pr l : Nat) : Int) ∧ ((pos pr l : Nat) : Int) < P' 0 8 then min 9999 (P' 8 (pos pr l) + 1) else P' 8 (pos pr l)) = (if 0 ≤ (l : Int) ∧ (l : Int) < P 0 8 then min 9999 (P 8 l + 1) else P 8 l)
    rw [if_pos (by omega), if_pos (by omega), a3]
  · show (eatc (fear P' allp) (P' 1) (P' 0 1).toNat).2 = (eatc (fear P pr) (P 1) (P 0 1).toNat).2
    rw [h.1]
    exact ec.1
theorem CM_dayN (h : CM P pr P') (H : okP P) : ∀ n : Nat, CM (dayN P pr n) pr (dayN P' allp n)
  | 0 => h
  | n + 1 => (CM_day (CM_dayN h H n) (okP_dayN H n)).1
theorem CM_eatN (h : CM P pr P') (H : okP P) : ∀ n : Nat, eatN P' allp n = eatN P pr n
  | 0 => rfl
  | n + 1 => by
    rw [eatN_s, eatN_s, CM_eatN h H n, (CM_day (CM_dayN h H n) (okP_dayN H n)).2]
theorem CM_ok (h : CM P pr P') (H : okP P) : okP P' := by
  obtain ⟨h1, h2, h3, h4, h5, h6, h7⟩ := h
  obtain ⟨g1, g2, g3, g4, g5, g6, g7⟩ := H
  have hq := pos_le pr (P 0 8).toNat
  refine ⟨by rw [h1]; exact g1, by rw [h2]; exact g2, by rw [h3]; exact g3, by omega, fun c hc => by rw [h5 c hc]; exact g5 c hc, fun k hk => ?_, fun l hl => ?_⟩
  · rw [h3] at hk
    obtain ⟨b1, b2, b3, b4⟩ := h6 k hk
    rw [b1, b2, b3, b4]
    exact g6 k hk
  · obtain ⟨j, hj, hp, he⟩ := pos_surj (pr := pr) (n := (P 0 8).toNat) (j := l.toNat) (by omega)
    obtain ⟨a1, a2, a3⟩ := h7 j (by omega) hp
    rw [he, show ((l.toNat : Nat) : Int) = l by omega] at a1 a2 a3
    rw [a1, a2, a3, h3]
    exact g7 j (by omega)
theorem eqP_CM (h : eqP P' P) (h8 : 0 ≤ P 0 8) : CM P allp P' := by
  obtain ⟨h1, h2, h3, h4, h5, h6, h7⟩ := h
  refine ⟨h1, h2, h3, by rw [h4, pos_all]; omega, h5, h6, fun l hl _ => ?_⟩
  rw [pos_all]
  exact h7 l (by omega)
theorem CM_eqP (h : CM P allp P') (h8 : 0 ≤ P 0 8) : eqP P' P := by
  obtain ⟨h1, h2, h3, h4, h5, h6, h7⟩ := h
  rw [pos_all] at h4
  refine ⟨h1, h2, h3, by omega, h5, h6, fun l hl => ?_⟩
  have := h7 l.toNat (by omega) rfl
  rw [pos_all, show ((l.toNat : Nat) : Int) = l by omega] at this
  exact this
theorem CM_trans {P0 : ev_M} (h0 : eqP P P0) (h8 : 0 ≤ P0 0 8) (h : CM P pr P') : CM P0 pr P' := by
  obtain ⟨h1, h2, h3, h4, h5, h6, h7⟩ := h
  obtain ⟨g1, g2, g3, g4, g5, g6, g7⟩ := h0
  refine ⟨h1.trans g1, h2.trans g2, h3.trans g3, by rw [h4, g4], fun c hc => (h5 c hc).trans (g5 c hc), fun k hk => ?_, fun l hl hp => ?_⟩
  · obtain ⟨b1, b2, b3, b4⟩ := h6 k (by omega)
    obtain ⟨c1, c2, c3, c4⟩ := g6 k hk
    exact ⟨b1.trans c1, b2.trans c2, b3.trans c3, b4.trans c4⟩
  · obtain ⟨b1, b2, b3⟩ := h7 l (by omega) hp
    obtain ⟨c1, c2, c3⟩ := g7 l (by omega)
    exact ⟨b1.trans c1, b2.trans c2, b3.trans c3⟩
end CMs
theorem eqP_refl (P : ev_M) : eqP P P := ⟨rfl, rfl, rfl, rfl, fun _ _ => rfl, fun _ _ => ⟨rfl, rfl, rfl, rfl⟩, fun _ _ => ⟨rfl, rfl, rfl⟩⟩
theorem eqP_symm {P P' : ev_M} (h : eqP P P') : eqP P' P := by
  obtain ⟨g1, g2, g3, g4, g5, g6, g7⟩ := h
  refine ⟨g1.symm, g2.symm, g3.symm, g4.symm, fun c hc => (g5 c hc).symm, fun k hk => ?_, fun l hl => ?_⟩
  · obtain ⟨a, b, c, d⟩ := g6 k (by omega)
    exact ⟨a.symm, b.symm, c.symm, d.symm⟩
  · obtain ⟨a, b, c⟩ := g7 l (by omega)
    exact ⟨a.symm, b.symm, c.symm⟩
theorem eqP_trans {P P' P'' : ev_M} (h : eqP P P') (k : eqP P' P'') : eqP P P'' := by
  obtain ⟨g1, g2, g3, g4, g5, g6, g7⟩ := h
  obtain ⟨k1, k2, k3, k4, k5, k6, k7⟩ := k
  refine ⟨g1.trans k1, g2.trans k2, g3.trans k3, g4.trans k4, fun c hc => (g5 c hc).trans (k5 c hc), fun i hi => ?_, fun l hl => ?_⟩
  · obtain ⟨a, b, c, d⟩ := g6 i (by omega)
    obtain ⟨a', b', c', d'⟩ := k6 i hi
    exact ⟨a.trans a', b.trans b', c.trans c', d.trans d'⟩
  · obtain ⟨a, b, c⟩ := g7 l (by omega)
    obtain ⟨a', b', c'⟩ := k7 l hl
    exact ⟨a.trans a', b.trans b', c.trans c'⟩
theorem eqP_ok {P P' : ev_M} (h : eqP P' P) (H : okP P) : okP P' := CM_ok (eqP_CM h H.2.2.2.1.1) H
theorem eqP_eat {P P' : ev_M} (h : eqP P' P) (H : okP P) (n : Nat) : eatN P' allp n = eatN P allp n := CM_eatN (eqP_CM h H.2.2.2.1.1) H n
theorem eqP_dayN {P P' : ev_M} (h : eqP P' P) (H : okP P) (n : Nat) : eqP (dayN P' allp n) (dayN P allp n) := CM_eqP (CM_dayN (eqP_CM h H.2.2.2.1.1) H n) (okP_dayN H n).2.2.2.1.1
theorem eqP_fear {P P' : ev_M} (h : eqP P' P) (H : okP P) (c : Int) : fear P' allp c = fear P allp c := CM_fear (eqP_CM h H.2.2.2.1.1) H c
theorem eqP_mts {P P' : ev_M} (h : eqP P' P) (H : okP P) (k : Int) : mts P' allp k (P' 0 8).toNat = mts P allp k (P 0 8).toNat := by
  have e := CM_mts (eqP_CM h H.2.2.2.1.1) k (n := (P 0 8).toNat) (by have := H.2.2.2.1; omega)
  rw [pos_all] at e
  rw [h.2.2.2.1]
  exact e
