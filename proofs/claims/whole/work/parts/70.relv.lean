/-! the calls that only tell -/
theorem stf_congr {f g : Int → Bool} {n : Nat} (h : ∀ i : Nat, i < n → f i = g i) : stf f n = stf g n := sm_congr (fun i hi => by rw [h i hi])
theorem go_cell {c w : Int} : GO (fun σ => sc_cell σ c w) := by
  refine ⟨fun A a ha => ?_, fun A B h H => ?_⟩
  · show (sc_cell A c w).2 a = A a
    unfold sc_cell; split
    · rfl
    · exact fnd_ne (by omega)
  · show GA (sc_cell A c w) (sc_cell B c w)
    have n8 := (okcn H).2.2.2
    unfold sc_cell; rw [rl8 h]; split
    · rename_i z
      refine GA_id h H ?_
      rw [rlw h (by omega), eqP_fear h.1 (okc1 H), stf_congr (g := fun l => decide (B 7 l = c)) (fun i hi => by rw [(rll h (by omega)).1])]
    · exact GA_fnd h H (by omega)
theorem go_as {s k : Int} : GO (fun σ => sc_as σ s k) := by
  refine ⟨fun A a ha => ?_, fun A B h H => ?_⟩
  · show (sc_as A s k).2 a = A a
    unfold sc_as; split
    · split
      · rfl
      · exact fnd_ne (by omega)
    · exact fnd_ne (by omega)
  · show GA (sc_as A s k) (sc_as B s k)
    unfold sc_as; rw [rl3 h]; split
    · rename_i z
      have q := rls h (k := s) (by omega)
      rw [q.1, q.2.1]
      split
      · exact GA_id h H rfl
      · exact GA_fnd h H (by omega)
    · exact GA_fnd h H (by omega)
theorem go_of {s w : Int} : GO (fun σ => sc_of σ s w) := by
  refine ⟨fun A a ha => ?_, fun A B h H => ?_⟩
  · show (sc_of A s w).2 a = A a
    unfold sc_of; split
    · rfl
    · exact fnd_ne (by omega)
  · show GA (sc_of A s w) (sc_of B s w)
    have n8 := (okcn H).2.2.2
    have m : mts (wn A 1) allp s (A 1 8).toNat = mts (wn B 1) allp s (B 1 8).toNat := eqP_mts h.1 (okc1 H) s
    have m2 : sm (fun l => if A 8 l = s then 1 else 0) (B 1 8).toNat = sm (fun l => if B 8 l = s then 1 else 0) (B 1 8).toNat := sm_congr (fun i hi => by rw [(rll h (l := i) (by omega)).2.1])
    unfold sc_of; rw [m, rl3 h, rl8 h, m2]; split
    · rename_i z
      have q := rls h (k := s) (by omega)
      rw [q.1, q.2.1, q.2.2.1, q.2.2.2]
      exact GA_id h H rfl
    · exact GA_fnd h H (by omega)
theorem go_scares {l d : Int} : GO (fun σ => sc_scares σ l d) := by
  refine ⟨fun A a ha => ?_, fun A B h H => ?_⟩
  · show (sc_scares A l d).2 a = A a
    unfold sc_scares; split
    · rfl
    · exact fnd_ne (by omega)
  · show GA (sc_scares A l d) (sc_scares B l d)
    unfold sc_scares; rw [rl8 h]; split
    · rename_i z
      rw [(eqP_scr h.1 (okc1 H) (l := l) (show 0 ≤ l ∧ l < B 1 8 by omega)).2 d]
      exact GA_id h H rfl
    · exact GA_fnd h H (by omega)
theorem go_told {l w : Int} : GO (fun σ => sc_told σ l w) := by
  refine ⟨fun A a ha => ?_, fun A B h H => ?_⟩
  · show (sc_told A l w).2 a = A a
    unfold sc_told; split
    · rfl
    · exact fnd_ne (by omega)
  · show GA (sc_told A l w) (sc_told B l w)
    unfold sc_told; rw [rl8 h]; split
    · rename_i z
      have q := eqP_scr h.1 (okc1 H) (l := l) (show 0 ≤ l ∧ l < B 1 8 by omega)
      have r := rll h (l := l) (by omega)
      rw [q.2 0, q.1, r.1, r.2.1, r.2.2]
      exact GA_id h H rfl
    · exact GA_fnd h H (by omega)
theorem go_lands : GO (fun σ => sc_lands σ) := by
  refine ⟨fun A a ha => ?_, fun A B h H => ?_⟩
  · show (sc_lands A).2 a = A a
    unfold sc_lands; split
    · exact fnd_ne (by omega)
    · rfl
  · show GA (sc_lands A) (sc_lands B)
    have e : lnd (A 2) (fear (wn A 1) allp) 48 = lnd (B 2) (fear (wn B 1) allp) 48 := lnd_congr (fun c hc => ⟨rlw h (by omega), eqP_fear h.1 (okc1 H) c⟩)
    unfold sc_lands; rw [e]; split
    · exact GA_fnd h H (by omega)
    · exact GA_id h H rfl
theorem dayN_02 {P : ev_M} {pr : Int → Bool} : ∀ n : Nat, dayN P pr n 0 2 = P 0 2 + n
  | 0 => by simp [dayN]
  | n + 1 => by
    have e : dayN P pr (n + 1) 0 2 = dayN P pr n 0 2 + 1 := rfl
    rw [e, dayN_02 n]; omega
theorem go_days {n : Int} : GO (fun σ => sc_days σ n) := by
  refine ⟨fun A a ha => ?_, fun A B h H => ?_⟩
  · show (sc_days A n).2 a = A a
    unfold sc_days; split
    · split
      · exact setP_ne (by omega)
      · exact fnd_ne (by omega)
    · exact fnd_ne (by omega)
  · show GA (sc_days A n) (sc_days B n)
    unfold sc_days; rw [rl2 h]; split
    · rename_i z
      split
      · rename_i z2
        refine ⟨eqP_eat h.1 (okc1 H) _, RE_up h (fun a ha => setP_ne (by omega)) (fun a ha => setP_ne (by omega)) ?_, OKC_up H (fun a ha => setP_ne (by omega)) ?_ ?_⟩
        · exact eqP_trans eqP_setP (eqP_trans (eqP_dayN h.1 (okc1 H) _) (eqP_symm eqP_setP))
        · exact eqP_ok eqP_setP (okP_dayN (okc1 H) _)
        · have e : setP B 1 (dayN (wn B 1) allp n.toNat) 1 2 = dayN (wn B 1) allp n.toNat 0 2 := rfl
          have e2 : wn B 1 0 2 = B 1 2 := rfl
          show setP B 1 (dayN (wn B 1) allp n.toNat) 1 2 ≤ 9999
          rw [e, dayN_02, e2]; omega
      · exact GA_fnd h H (by omega)
    · exact GA_fnd h H (by omega)
theorem go_now {w : Int} : GO (fun σ => sc_now σ w) := by
  refine ⟨fun A a ha => ?_, fun A B h H => ?_⟩
  · show (sc_now A w).2 a = A a
    unfold sc_now; split
    · rfl
    · exact fnd_ne (by omega)
  · show GA (sc_now A w) (sc_now B w)
    have n8 := (okcn H).2.2.2
    have n3 := (okcn H).2.2.1
    have m : ∀ k : Int, mts (wn A 1) allp k (A 1 8).toNat = mts (wn B 1) allp k (B 1 8).toNat := fun k => eqP_mts h.1 (okc1 H) k
    have e2 : sm (A 2) 48 = sm (B 2) 48 := sm_congr (fun i hi => rlw h (by omega))
    have e3 : sm (fun k => if stf (fun l => decide (A 8 l = k)) (B 1 8).toNat = 0 then 0 else A 5 k) (B 1 3).toNat = sm (fun k => if stf (fun l => decide (B 8 l = k)) (B 1 8).toNat = 0 then 0 else B 5 k) (B 1 3).toNat := sm_congr (fun i hi => by
      rw [stf_congr (g := fun l => decide (B 8 l = (i : Int))) (fun j hj => by rw [(rll h (l := j) (by omega)).2.1]), (rls h (k := i) (by omega)).2.2.1])
    have e4 : fear (wn A 1) allp = fear (wn B 1) allp := funext (fun c => eqP_fear h.1 (okc1 H) c)
    unfold sc_now; simp only [m]; rw [rl1 h, rl2 h, rl3 h, rl8 h, e2, e3, e4]; split
    · exact GA_id h H rfl
    · exact GA_fnd h H (by omega)
theorem go_eaten {n : Int} : GO (fun σ => sc_eaten σ n) := by
  refine ⟨fun A a ha => ?_, fun A B h H => ?_⟩
  · show (sc_eaten A n).2 a = A a
    unfold sc_eaten; split
    · rfl
    · exact fnd_ne (by omega)
  · show GA (sc_eaten A n) (sc_eaten B n)
    unfold sc_eaten; rw [eqP_eat h.1 (okc1 H)]; split
    · exact GA_id h H rfl
    · exact GA_fnd h H (by omega)
theorem go_on {c n : Int} : GO (fun σ => sc_on σ c n) := by
  refine ⟨fun A a ha => ?_, fun A B h H => ?_⟩
  · show (sc_on A c n).2 a = A a
    unfold sc_on; split
    · rfl
    · exact fnd_ne (by omega)
  · show GA (sc_on A c n) (sc_on B c n)
    unfold sc_on; split
    · rename_i z
      exact GA_id h H ((eqP_dayN h.1 (okc1 H) _).2.2.2.2.1 c (by omega))
    · exact GA_fnd h H (by omega)
theorem frs_eq {P P' : ev_M} {c : Int} (h : eqP P' P) (H : okP P) (hc : 0 ≤ c ∧ c < 48) : ∀ (m d : Nat), frs P' c d m = frs P c d m
  | 0, _ => rfl
  | m + 1, d => by
    unfold frs
    rw [(eqP_dayN h H d).2.2.2.2.1 c hc, h.2.2.2.2.1 c hc, frs_eq h H hc m (d + 1)]
theorem go_first {c : Int} : GO (fun σ => sc_first σ c) := by
  refine ⟨fun A a ha => ?_, fun A B h H => ?_⟩
  · show (sc_first A c).2 a = A a
    unfold sc_first; split
    · split
      · exact fnd_ne (by omega)
      · rfl
    · exact fnd_ne (by omega)
  · show GA (sc_first A c) (sc_first B c)
    unfold sc_first; split
    · rename_i z
      rw [frs_eq h.1 (okc1 H) (by omega)]
      split
      · exact GA_fnd h H (by omega)
      · exact GA_id h H rfl
    · exact GA_fnd h H (by omega)
theorem go_count {w : Int} : GO (fun σ => sc_count σ w) := by
  refine ⟨fun A a ha => ?_, fun A B h H => ?_⟩
  · show (sc_count A w).2 a = A a
    unfold sc_count; split
    · rfl
    · exact fnd_ne (by omega)
  · show GA (sc_count A w) (sc_count B w)
    have n3 := (okcn H).2.2.1
    have e : sm (A 4) (B 1 3).toNat = sm (B 4) (B 1 3).toNat := sm_congr (fun i hi => (rls h (k := i) (by omega)).2.1)
    unfold sc_count; rw [rl3 h, rl8 h, rlt h, e]; split
    · exact GA_id h H rfl
    · exact GA_fnd h H (by omega)
theorem go_status {w : Int} : GO (fun σ => sc_status σ w) := by
  refine ⟨fun A a ha => ?_, fun A B h H => ?_⟩
  · show (sc_status A w).2 a = A a
    unfold sc_status; split
    · rfl
    · split
      · rfl
      · exact fnd_ne (by omega)
  · show GA (sc_status A w) (sc_status B w)
    have e : sm (A 45) 7 = sm (B 45) 7 := sm_congr (fun i hi => rlf h (by omega))
    unfold sc_status; rw [e]; split
    · exact GA_id h H rfl
    · split
      · rename_i z
        exact GA_id h H (rlf h (by omega))
      · exact GA_fnd h H (by omega)
/-! the calls that choose -/
theorem go_spot {l n : Int} : GO (fun σ => sc_spot σ l n) := by
  refine ⟨fun A a ha => ?_, fun A B h H => ?_⟩
  · show (sc_spot A l n).2 a = A a
    unfold sc_spot; split
    · rfl
    · exact fnd_ne (by omega)
  · show GA (sc_spot A l n) (sc_spot B l n)
    unfold sc_spot; rw [rl8 h]; split
    · exact GA_id h H (amn_congr (fun i hi => eqP_eat (eqP_mup h.1 (by omega)) (okP_mup6 (okc1 H) (by omega)) _))
    · exact GA_fnd h H (by omega)
theorem go_whose {l n : Int} : GO (fun σ => sc_whose σ l n) := by
  refine ⟨fun A a ha => ?_, fun A B h H => ?_⟩
  · show (sc_whose A l n).2 a = A a
    unfold sc_whose; split
    · rfl
    · exact fnd_ne (by omega)
  · show GA (sc_whose A l n) (sc_whose B l n)
    have n3 := (okcn H).2.2.1
    unfold sc_whose; rw [rl8 h, rl3 h]; split
    · exact GA_id h H (amn_congr (fun i hi => eqP_eat (eqP_mup h.1 (by omega)) (okP_mup7 (okc1 H) (show 0 ≤ (i : Int) ∧ (i : Int) < B 1 3 by omega)) _))
    · exact GA_fnd h H (by omega)
theorem go_kind {s n : Int} : GO (fun σ => sc_kind σ s n) := by
  refine ⟨fun A a ha => ?_, fun A B h H => ?_⟩
  · show (sc_kind A s n).2 a = A a
    unfold sc_kind; split
    · rfl
    · exact fnd_ne (by omega)
  · show GA (sc_kind A s n) (sc_kind B s n)
    unfold sc_kind; rw [rl3 h]; split
    · exact GA_id h H (amn_congr (fun i hi => eqP_eat (eqP_mup h.1 (by omega)) (okP_mup2 (okc1 H) (by omega)) _))
    · exact GA_fnd h H (by omega)
theorem go_temper {s n : Int} : GO (fun σ => sc_temper σ s n) := by
  refine ⟨fun A a ha => ?_, fun A B h H => ?_⟩
  · show (sc_temper A s n).2 a = A a
    unfold sc_temper; split
    · rfl
    · exact fnd_ne (by omega)
  · show GA (sc_temper A s n) (sc_temper B s n)
    unfold sc_temper; rw [rl3 h]; split
    · exact GA_id h H (amn_congr (fun i hi => eqP_eat (eqP_mup h.1 (by omega)) (okP_mup3 (okc1 H) (by omega)) _))
    · exact GA_fnd h H (by omega)
theorem go_worth {n : Int} : GO (fun σ => sc_worth σ n) := by
  refine ⟨fun A a ha => ?_, fun A B h H => ?_⟩
  · show (sc_worth A n).2 a = A a
    unfold sc_worth; split
    · split
      · exact fnd_ne (by omega)
      · rfl
    · exact fnd_ne (by omega)
  · show GA (sc_worth A n) (sc_worth B n)
    have e : amx (fun k => eatN (wn A 1) (notOf (wn A 1) k) n.toNat) (eatN (wn B 1) allp n.toNat) (B 1 3).toNat = amx (fun k => eatN (wn B 1) (notOf (wn B 1) k) n.toNat) (eatN (wn B 1) allp n.toNat) (B 1 3).toNat := amx_congr (fun i hi => by
      rw [eqP_eatP h.1 (okc1 H)]
      refine eatN_prc (fun l hl => ?_) _
      have hl2 : l < (B 1 8).toNat := hl
      have q : wn A 1 7 l = wn B 1 7 l := (rll h (l := l) (by omega)).2.1
      unfold notOf
      rw [q])
    unfold sc_worth; rw [eqP_eat h.1 (okc1 H), rl3 h, e]; split
    · split
      · exact GA_fnd h H (by omega)
      · exact GA_id h H rfl
    · exact GA_fnd h H (by omega)
theorem okP_swP {P : ev_M} {l o : Int} (H : okP P) (hl : 0 ≤ l ∧ l < P 0 8) (ho : 0 ≤ o ∧ o < P 0 8) : okP (swP P l o) := by
  have q := H.2.2.2.2.2.2
  exact okP_mup6 (okP_mup6 H (q o ho).1) (q l hl).1
theorem go_swap {n : Int} : GO (fun σ => sc_swap σ n) := by
  refine ⟨fun A a ha => ?_, fun A B h H => ?_⟩
  · show (sc_swap A n).2 a = A a
    unfold sc_swap; split
    · split
      · exact fnd_ne (by omega)
      · rfl
    · exact fnd_ne (by omega)
  · show GA (sc_swap A n) (sc_swap B n)
    have e : swo (fun l o => eatN (swP (wn A 1) l o) allp n.toNat) (eatN (wn B 1) allp n.toNat) (B 1 8).toNat (B 1 8).toNat = swo (fun l o => eatN (swP (wn B 1) l o) allp n.toNat) (eatN (wn B 1) allp n.toNat) (B 1 8).toNat (B 1 8).toNat := swo_congr (fun l o hl ho => by
      exact eqP_eat (eqP_swP h.1 (show 0 ≤ (l : Int) ∧ (l : Int) < B 1 8 by omega) (show 0 ≤ (o : Int) ∧ (o : Int) < B 1 8 by omega)) (okP_swP (okc1 H) (show 0 ≤ (l : Int) ∧ (l : Int) < B 1 8 by omega) (show 0 ≤ (o : Int) ∧ (o : Int) < B 1 8 by omega)) _) (Nat.le_refl _)
    unfold sc_swap; rw [eqP_eat h.1 (okc1 H), rl8 h, e]; split
    · split
      · exact GA_fnd h H (by omega)
      · exact GA_id h H rfl
    · exact GA_fnd h H (by omega)
theorem go_apart {l : Int} : GO (fun σ => sc_apart σ l) := by
  refine ⟨fun A a ha => ?_, fun A B h H => ?_⟩
  · show (sc_apart A l).2 a = A a
    unfold sc_apart; split
    · rfl
    · exact fnd_ne (by omega)
  · show GA (sc_apart A l) (sc_apart B l)
    unfold sc_apart; rw [rl8 h]; split
    · rename_i z
      refine GA_id h H (amn_congr (fun i hi => ?_))
      have r := rll h (l := l) (by omega)
      have r6 : wn A 1 6 l = wn B 1 6 l := r.1
      have r7 : wn A 1 7 l = wn B 1 7 l := r.2.1
      unfold apk
      rw [r6, r7]
      have m := eqP_mts (eqP_mup (j := 6) (i := l) (v := (i : Int)) h.1 (by omega)) (okP_mup6 (okc1 H) (show 0 ≤ (i : Int) ∧ (i : Int) < 48 by omega)) (wn B 1 7 l)
      have m2 : mts (mup (wn A 1) 6 l i) allp (wn B 1 7 l) (wn A 1 0 8).toNat = mts (mup (wn B 1) 6 l i) allp (wn B 1 7 l) (wn B 1 0 8).toNat := m
      rw [m2]
    · exact GA_fnd h H (by omega)
theorem go_read {s l : Int} : GO (fun σ => sc_read σ s l) := by
  refine ⟨fun A a ha => ?_, fun A B h H => ?_⟩
  · show (sc_read A s l).2 a = A a
    unfold sc_read; split
    · exact fnd_ne (by omega)
    · split
      · exact fnd_ne (by omega)
      · split
        · exact fnd_ne (by omega)
        · rfl
  · show GA (sc_read A s l) (sc_read B s l)
    have n3 := (okcn H).2.2.1
    unfold sc_read; split
    · exact GA_fnd h H (by omega)
    · rename_i z
      have hs : 0 ≤ s ∧ s ≤ 3 := by omega
      have q := rlq h (isS_rt hs)
      have k := H.1.2.2.2.2 _ (isS_rt hs)
      rw [q.1, q.2.1, rl8 h, rl3 h]
      split
      · exact GA_fnd h H (by omega)
      · split
        · exact GA_fnd h H (by omega)
        · rename_i zl
          refine GA_id h H (sm_congr (fun o ho => sm_congr (fun c hc => ?_)))
          unfold rdS
          rw [gsB_eq (eqP_mup (eqP_mup h.1 (by omega)) (by omega)) (okP_mup6 (okP_mup7 (okc1 H) (show 0 ≤ (o : Int) ∧ (o : Int) < B 1 3 by omega)) (by omega)) (fun i hi => q.2.2 i (by omega))]
