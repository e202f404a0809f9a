/-! Promise 41's mathematics: the box -/
def lss (w : Nat) (x y : Int) : Prop := if w % 2 = 0 then x < y else y < x
theorem lss_anti {w : Nat} {x y : Int} (h1 : ¬ lss w x y) (h2 : ¬ lss w y x) : x = y := by
  unfold lss at h1 h2
  split at h1
  · rename_i c
    rw [if_pos c] at h2
    omega
  · rename_i c
    rw [if_neg c] at h2
    omega
theorem lss_tr {w : Nat} {x y z : Int} (h1 : ¬ lss w x y) (h2 : lss w z y) : ¬ lss w x z := by
  unfold lss at h1 h2 ⊢
  split at h1
  · rename_i c
    rw [if_pos c] at h2 ⊢
    omega
  · rename_i c
    rw [if_neg c] at h2 ⊢
    omega
theorem lss_irr {w : Nat} {x : Int} : ¬ lss w x x := by
  unfold lss
  split <;> omega
theorem bnd_spec (L : PL) (w : Nat) : ∀ n, (∃ i, i < n + 1 ∧ bnF L w i = bnd L w (n + 1)) ∧ ∀ i, i < n + 1 → ¬ lss w (bnF L w i) (bnd L w (n + 1))
  | 0 => by
    have e : bnd L w (0 + 1) = bnF L w 0 := if_pos (Or.inl rfl)
    rw [e]
    exact ⟨⟨0, Nat.lt_succ_self _, rfl⟩, fun i hi => by rw [show i = 0 by omega]; exact lss_irr⟩
  | n + 1 => by
    obtain ⟨⟨i0, h1, h2⟩, h3⟩ := bnd_spec L w n
    by_cases c : lss w (bnF L w (n + 1)) (bnd L w (n + 1))
    · have e : bnd L w (n + 1 + 1) = bnF L w (n + 1) := if_pos (Or.inr c)
      rw [e]
      refine ⟨⟨n + 1, Nat.lt_succ_self _, rfl⟩, fun i hi => ?_⟩
      by_cases d : i = n + 1
      · rw [d]; exact lss_irr
      · exact lss_tr (h3 i (by omega)) c
    · have e : bnd L w (n + 1 + 1) = bnd L w (n + 1) := if_neg (fun q => q.elim (fun q => absurd q (by omega)) c)
      rw [e]
      refine ⟨⟨i0, by omega, h2⟩, fun i hi => ?_⟩
      by_cases d : i = n + 1
      · rw [d]; exact c
      · exact h3 i (by omega)
theorem bxN_spec (P : PL) (a : Int) (w : Nat) : ∀ n, (bxN P a w n = none ∧ ∀ i, i < n → pM P i ≠ a) ∨ ∃ q, bxN P a w n = some q ∧ q < n ∧ pM P q = a ∧ ∀ i, i < n → pM P i = a → ¬ lss w (bxV P w i) (bxV P w q)
  | 0 => Or.inl ⟨rfl, fun i h => absurd h (Nat.not_lt_zero _)⟩
  | n + 1 => by
    have ev : ∀ x y : Int, (if (w : Int) % 2 = 0 then x < y else y < x) ↔ lss w x y := fun x y => by
      unfold lss
      by_cases c : w % 2 = 0
      · rw [if_pos c, if_pos (by omega)]
      · rw [if_neg c, if_neg (by omega)]
    rcases bxN_spec P a w n with ⟨h1, h2⟩ | ⟨q, h1, h2, h3, h4⟩
    · by_cases c : pM P n = a
      · have d : bxC P a w (bxN P a w n) n := by rw [h1]; exact ⟨c, trivial⟩
        refine Or.inr ⟨n, cif_t d, Nat.lt_succ_self _, c, fun i hi hm => ?_⟩
        by_cases e : i = n
        · rw [e]; exact lss_irr
        · exact absurd hm (h2 i (by omega))
      · have d : ¬ bxC P a w (bxN P a w n) n := fun q => c q.1
        refine Or.inl ⟨(cif_f d).trans h1, fun i hi => ?_⟩
        by_cases e : i = n
        · rw [e]; exact c
        · exact h2 i (by omega)
    · by_cases d : bxC P a w (bxN P a w n) n
      · have d9 := d
        rw [h1] at d9
        have d2 : lss w (bxV P w n) (bxV P w q) := (ev _ _).mp d9.2
        refine Or.inr ⟨n, cif_t d, Nat.lt_succ_self _, d.1, fun i hi hm => ?_⟩
        by_cases e : i = n
        · rw [e]; exact lss_irr
        · exact lss_tr (h4 i (by omega) hm) d2
      · refine Or.inr ⟨q, (cif_f d).trans h1, by omega, h3, fun i hi hm => ?_⟩
        by_cases e : i = n
        · subst e
          intro k
          refine d ?_
          rw [h1]
          exact ⟨hm, (ev _ _).mpr k⟩
        · exact h4 i (by omega) hm
theorem q_box (P : PL) (a : Int) (h : cntN P a P.length ≠ 0) (w : Nat) (hw : w < 4) : ∃ q, bxN P a w P.length = some q ∧ bxV P w q = bnd (putN P a [] P.length) w (putN P a [] P.length).length := by
  have hl : (putN P a [] P.length).length = cntN P a P.length := by rw [putN_len]; exact Nat.zero_add _
  have hm := fun f => mem_putN (P := P) (a := a) (R := []) (f := f) P.length
  generalize putN P a [] P.length = O at hl hm ⊢
  have bv : ∀ (x y k : Int), (if (w : Int) < 2 then x else y) = if w < 2 then x else y := fun x y k => by
    by_cases c : w < 2
    · rw [if_pos c, if_pos (by omega)]
    · rw [if_neg c, if_neg (by omega)]
  have val : ∀ j k, O.getD j d3 = entP P k → bnF O w j = bxV P w k := fun j k e => by
    show (if w < 2 then pX O j else pY O j) = (if (w : Int) < 2 then pX P k else pY P k)
    rw [bv _ _ 0, show pX O j = pX P k from congrArg (fun t => t.1) e, show pY O j = pY P k from congrArg (fun t => t.2.1) e]
  rcases bxN_spec P a w P.length with ⟨h1, h2⟩ | ⟨q, h1, h2, h3, h4⟩
  · obtain ⟨i, i1, i2⟩ := cnt_1 (P := P) (a := a) P.length (by omega)
    exact absurd i2 (h2 i i1)
  · refine ⟨q, h1, ?_⟩
    obtain ⟨n, hn⟩ : ∃ n, O.length = n + 1 := ⟨O.length - 1, by omega⟩
    rw [hn]
    obtain ⟨⟨i0, b1, b2⟩, b3⟩ := bnd_spec O w n
    obtain ⟨k, k1, k2, k3⟩ := ((hm _).mp (getD_mem (show i0 < O.length by omega))).resolve_left List.not_mem_nil
    have e1 := val i0 k k3
    obtain ⟨j, j1, j2⟩ := List.getElem_of_mem ((hm (entP P q)).mpr (Or.inr ⟨q, h2, h3, rfl⟩))
    have j3 : O.getD j d3 = entP P q := by rw [List.getD_eq_getElem?_getD, List.getElem?_eq_getElem j1]; exact j2
    have e2 := val j q j3
    have x1 := b3 j (by omega)
    rw [e2] at x1
    have x2 := h4 k k1 k2
    rw [← e1, b2] at x2
    exact lss_anti x1 x2

