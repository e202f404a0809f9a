/-! What holds of every state that calls lead to (the figure's part is left open: cv) -/
def g3P (P : PL) : Prop := P.length ≤ 60 ∧ okP P
def g3E (E : PL) : Prop := E.length % 2 = 0 ∧ E.length ≤ 40 ∧ okP E
def g3S (S : Nat → PL) : Prop := ∀ j, j < 4 → (S j).length ≤ 16 ∧ okP (S j) ∧ ∀ i, i < (S j).length → pM (S j) i = (i : Int)
def Gd3 (cv : PL → Prop) (P E : PL) (S : Nat → PL) (b : Int) (P2 E2 : PL) (S2 : Nat → PL) (F : PL) : Prop := (g3P P ∧ g3E E ∧ g3S S) ∧ (b = 0 ∨ b = 1) ∧ (g3P P2 ∧ g3E E2 ∧ g3S S2) ∧ cv F
theorem okP_app {L : PL} {e : Int × Int × Int} (h : okP L) (h1 : -200 ≤ e.1 ∧ e.1 ≤ 200) (h2 : -200 ≤ e.2.1 ∧ e.2.1 ≤ 200) (h3 : -1 ≤ e.2.2 ∧ e.2.2 ≤ 100) : okP (L ++ [e]) := fun i hi => by
  rw [List.length_append, List.length_singleton] at hi
  by_cases c : i < L.length
  · obtain ⟨a1, a2, a3⟩ := (pX_app (L := L) (p := e) (i := i)).1 c
    rw [a1, a2, a3]
    exact h i c
  · obtain ⟨a1, a2, a3⟩ := (pX_app (L := L) (p := e) (i := i)).2 (by omega)
    rw [a1, a2, a3]
    exact ⟨h1, h2, h3⟩
theorem okP_nil : okP [] := fun i hi => absurd hi (Nat.not_lt_zero _)
theorem g3P_point {P : PL} {a x y : Int} (h : g3P P) : g3P (s_point P a x y) := by
  unfold s_point
  split
  · rename_i c
    obtain ⟨c1, c2, c3⟩ := c
    refine ⟨?_, okP_app h.2 ⟨c2.1, c2.2.1⟩ ⟨c2.2.2.1, c2.2.2.2⟩ ⟨by show (-1 : Int) ≤ a; omega, by show a ≤ 100; omega⟩⟩
    rw [List.length_append, List.length_singleton]
    omega
  · exact h
theorem g3P_drop {P : PL} {i : Int} (h : g3P P) : g3P (s_drop P i) := by
  unfold s_drop
  split
  · rename_i c
    have hi : i.toNat < P.length := by omega
    refine ⟨by rw [List.length_set]; exact h.1, fun j hj => ?_⟩
    rw [List.length_set] at hj
    obtain ⟨a1, a2, a3⟩ := pX_set (L := P) (i := i.toNat) (j := j) hi (pX P i.toNat, pY P i.toNat, -1)
    rw [a1, a2, a3]
    have hP := h.2
    unfold uI
    by_cases e : j = i.toNat
    · rw [if_pos e, if_pos e, if_pos e]
      have := hP i.toNat hi
      exact ⟨this.1, this.2.1, by show (-1 : Int) ≤ -1; decide, by show (-1 : Int) ≤ 100; decide⟩
    · rw [if_neg e, if_neg e, if_neg e]
      exact hP j hj
  · exact h
theorem g3E_line {E : PL} {x y u v : Int} (h : g3E E) : g3E (s_line E x y u v) := by
  unfold s_line
  split
  · rename_i c
    obtain ⟨c1, c2, c3⟩ := c
    obtain ⟨h1, h2, h3⟩ := h
    refine ⟨?_, ?_, okP_app (okP_app h3 ⟨c1.1, c1.2.1⟩ ⟨c1.2.2.1, c1.2.2.2⟩ ⟨by show (-1 : Int) ≤ 0; decide, by show (0 : Int) ≤ 100; decide⟩) ⟨c2.1, c2.2.1⟩ ⟨c2.2.2.1, c2.2.2.2⟩ ⟨by show (-1 : Int) ≤ 0; decide, by show (0 : Int) ≤ 100; decide⟩⟩
    · simp only [List.length_append, List.length_singleton]
      omega
    · simp only [List.length_append, List.length_singleton]
      omega
  · exact h
theorem g3E_nil : g3E [] := ⟨rfl, Nat.zero_le _, okP_nil⟩
theorem g3S_put {S : Nat → PL} {j : Nat} {L : PL} (h : g3S S) (h1 : L.length ≤ 16) (h2 : okP L) (h3 : ∀ i, i < L.length → pM L i = (i : Int)) : g3S (uS S j L) := fun k hk => by
  unfold uS
  by_cases e : k = j
  · rw [if_pos e]
    exact ⟨h1, h2, h3⟩
  · rw [if_neg e]
    exact h k hk
theorem g3S_add {S : Nat → PL} {j x y : Int} (h : g3S S) : g3S (s_add S j x y) := by
  unfold s_add
  split
  · rename_i c
    obtain ⟨c1, c2, c3⟩ := c
    have hj : j.toNat < 4 := by omega
    obtain ⟨h1, h2, h3⟩ := h _ hj
    refine g3S_put h (by rw [List.length_append, List.length_singleton]; omega) (okP_app h2 ⟨c2.1, c2.2.1⟩ ⟨c2.2.2.1, c2.2.2.2⟩ ⟨by show (-1 : Int) ≤ ((S j.toNat).length : Int); omega, by show ((S j.toNat).length : Int) ≤ 100; omega⟩) (fun i hi => ?_)
    rw [List.length_append, List.length_singleton] at hi
    by_cases q : i < (S j.toNat).length
    · rw [((pX_app (L := S j.toNat) (i := i)).1 q).2.2]
      exact h3 i q
    · have e : i = (S j.toNat).length := by omega
      rw [((pX_app (L := S j.toNat) (i := i)).2 e).2.2, e]
  · exact h
theorem g3S_clear {S : Nat → PL} {j : Int} (h : g3S S) : g3S (s_clear S j) := by
  unfold s_clear
  split
  · exact g3S_put h (Nat.zero_le _) okP_nil (fun i hi => absurd hi (Nat.not_lt_zero _))
  · exact h
theorem g3S_nil : g3S (fun _ => []) := fun _ _ => ⟨Nat.zero_le _, okP_nil, fun i hi => absurd hi (Nat.not_lt_zero _)⟩
