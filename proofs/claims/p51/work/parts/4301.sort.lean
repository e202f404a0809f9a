/-! Points in order -/
/-- before, by x, then y, then mark -/
def lxl (e f : Int × Int × Int) : Prop := e.1 < f.1 ∨ (e.1 = f.1 ∧ (e.2.1 < f.2.1 ∨ (e.2.1 = f.2.1 ∧ e.2.2 < f.2.2)))
/-- not behind, by x, then y -/
def lxw (e f : Int × Int × Int) : Prop := e.1 < f.1 ∨ (e.1 = f.1 ∧ e.2.1 ≤ f.2.1)
def srtd (L : PL) : Prop := ∀ i j, i < j → j < L.length → lxl (L.getD i d3) (L.getD j d3)
def srtw (L : PL) : Prop := ∀ i j, i < j → j < L.length → lxw (L.getD i d3) (L.getD j d3)
theorem lxw_of {e f : Int × Int × Int} (h : lxl e f) : lxw e f := by
  unfold lxl at h
  unfold lxw
  omega
theorem srtw_of {L : PL} (h : srtd L) : srtw L := fun i j h1 h2 => lxw_of (h i j h1 h2)
theorem ipos_spec (L : PL) (x y : Int) : ∀ n, (∀ j, ipos L x y n ≤ j → j < n → behind L x y j) ∧ (0 < ipos L x y n → ¬ behind L x y (ipos L x y n - 1))
  | 0 => ⟨fun j _ h => absurd h (Nat.not_lt_zero _), fun h => absurd h (Nat.lt_irrefl _)⟩
  | n + 1 => by
    obtain ⟨h1, h2⟩ := ipos_spec L x y n
    unfold ipos
    by_cases c : behind L x y n
    · rw [if_pos c]
      refine ⟨fun j a b => ?_, h2⟩
      by_cases e : j = n
      · rw [e]; exact c
      · exact h1 j a (by omega)
    · rw [if_neg c]
      exact ⟨fun j a b => absurd a (by omega), fun _ => c⟩
theorem srtw_ins {L : PL} {e : Int × Int × Int} (h : srtw L) : srtw (insE L e) := fun i j hij hj => by
  rw [insE_len] at hj
  unfold insE
  have hp := ipos_le L e.1 e.2.1 L.length
  obtain ⟨s1, s2⟩ := ipos_spec L e.1 e.2.1 L.length
  generalize ipos L e.1 e.2.1 L.length = p at hp s1 s2
  rw [insAt_getD hp, insAt_getD hp]
  have lo : ∀ k, k < p → lxw (L.getD k d3) e := fun k hk => by
    have nb := s2 (by omega)
    have q : lxw (L.getD (p - 1) d3) e := by
      unfold lxw
      show (pX L (p - 1)) < e.1 ∨ ((pX L (p - 1)) = e.1 ∧ (pY L (p - 1)) ≤ e.2.1)
      omega
    by_cases c : k = p - 1
    · rw [c]; exact q
    · have := h k (p - 1) (by omega) (by omega)
      unfold lxw at this q ⊢
      omega
  have hi : ∀ k, p ≤ k → k < L.length → lxw e (L.getD k d3) := fun k h1 h2 => by
    have := s1 k h1 h2
    unfold lxw
    show e.1 < pX L k ∨ (e.1 = pX L k ∧ e.2.1 ≤ pY L k)
    omega
  by_cases c1 : j < p
  · rw [if_pos (by omega), if_pos c1]
    exact h i j hij (by omega)
  · rw [if_neg c1]
    by_cases c2 : j = p
    · rw [if_pos c2, if_pos (by omega)]
      exact lo i (by omega)
    · rw [if_neg c2]
      by_cases c3 : i < p
      · rw [if_pos c3]
        exact h i (j - 1) (by omega) (by omega)
      · rw [if_neg c3]
        by_cases c4 : i = p
        · rw [if_pos c4]
          exact hi (j - 1) (by omega) (by omega)
        · rw [if_neg c4]
          exact h (i - 1) (j - 1) (by omega) (by omega)
theorem srtd_ins {L : PL} {e : Int × Int × Int} (h : srtd L) (hm : ∀ i, i < L.length → pM L i < e.2.2) : srtd (insE L e) := fun i j hij hj => by
  rw [insE_len] at hj
  unfold insE
  have hp := ipos_le L e.1 e.2.1 L.length
  obtain ⟨s1, s2⟩ := ipos_spec L e.1 e.2.1 L.length
  generalize ipos L e.1 e.2.1 L.length = p at hp s1 s2
  rw [insAt_getD hp, insAt_getD hp]
  have lo : ∀ k, k < p → lxl (L.getD k d3) e := fun k hk => by
    have nb := s2 (by omega)
    have mk : (L.getD k d3).2.2 < e.2.2 := hm k (by omega)
    have mp : (L.getD (p - 1) d3).2.2 < e.2.2 := hm (p - 1) (by omega)
    have q : (L.getD (p - 1) d3).1 < e.1 ∨ ((L.getD (p - 1) d3).1 = e.1 ∧ (L.getD (p - 1) d3).2.1 ≤ e.2.1) := by
      show (pX L (p - 1)) < e.1 ∨ ((pX L (p - 1)) = e.1 ∧ (pY L (p - 1)) ≤ e.2.1)
      omega
    by_cases c : k = p - 1
    · rw [c]
      unfold lxl
      omega
    · have := h k (p - 1) (by omega) (by omega)
      unfold lxl at this ⊢
      omega
  have hi : ∀ k, p ≤ k → k < L.length → lxl e (L.getD k d3) := fun k h1 h2 => by
    have := s1 k h1 h2
    unfold lxl
    show e.1 < pX L k ∨ (e.1 = pX L k ∧ (e.2.1 < pY L k ∨ (e.2.1 = pY L k ∧ e.2.2 < pM L k)))
    omega
  by_cases c1 : j < p
  · rw [if_pos (by omega), if_pos c1]
    exact h i j hij (by omega)
  · rw [if_neg c1]
    by_cases c2 : j = p
    · rw [if_pos c2, if_pos (by omega)]
      exact lo i (by omega)
    · rw [if_neg c2]
      by_cases c3 : i < p
      · rw [if_pos c3]
        exact h i (j - 1) (by omega) (by omega)
      · rw [if_neg c3]
        by_cases c4 : i = p
        · rw [if_pos c4]
          exact hi (j - 1) (by omega) (by omega)
        · rw [if_neg c4]
          exact h (i - 1) (j - 1) (by omega) (by omega)
theorem mem_insE {L : PL} {e f : Int × Int × Int} : f ∈ insE L e ↔ f = e ∨ f ∈ L := by
  unfold insE insAt
  rw [List.mem_append, List.mem_cons]
  constructor
  · rintro (h | h | h)
    · exact Or.inr (List.mem_of_mem_take h)
    · exact Or.inl h
    · exact Or.inr (List.mem_of_mem_drop h)
  · rintro (h | h)
    · exact Or.inr (Or.inl h)
    · rw [← List.take_append_drop (ipos L e.1 e.2.1 L.length) L, List.mem_append] at h
      rcases h with h | h
      · exact Or.inl h
      · exact Or.inr (Or.inr h)
theorem mem_putN {P : PL} {a : Int} {R : PL} {f : Int × Int × Int} : ∀ n, f ∈ putN P a R n ↔ f ∈ R ∨ ∃ i : Nat, i < n ∧ pM P i = a ∧ f = (pX P i, pY P i, (i : Int))
  | 0 => ⟨fun h => Or.inl h, fun h => h.elim id (fun ⟨i, h, _⟩ => absurd h (Nat.not_lt_zero _))⟩
  | n + 1 => by
    unfold putN
    have ih := mem_putN (P := P) (a := a) (R := R) (f := f) n
    split
    · rename_i c
      rw [mem_insE, ih]
      constructor
      · rintro (h | h | ⟨i, h1, h2⟩)
        · exact Or.inr ⟨n, Nat.lt_succ_self _, c, h⟩
        · exact Or.inl h
        · exact Or.inr ⟨i, Nat.lt_succ_of_lt h1, h2⟩
      · rintro (h | ⟨i, h1, h2, h3⟩)
        · exact Or.inr (Or.inl h)
        · by_cases e : i = n
          · subst e; exact Or.inl h3
          · exact Or.inr (Or.inr ⟨i, by omega, h2, h3⟩)
    · rename_i c
      rw [ih]
      constructor
      · rintro (h | ⟨i, h1, h2⟩)
        · exact Or.inl h
        · exact Or.inr ⟨i, Nat.lt_succ_of_lt h1, h2⟩
      · rintro (h | ⟨i, h1, h2, h3⟩)
        · exact Or.inl h
        · exact Or.inr ⟨i, by rcases Nat.lt_succ_iff_lt_or_eq.mp h1 with q | q; exact q; exact absurd (q ▸ h2) c, h2, h3⟩
theorem srtw_putN {P : PL} {a : Int} {R : PL} (h : srtw R) : ∀ n, srtw (putN P a R n)
  | 0 => h
  | n + 1 => by
    unfold putN
    split
    · exact srtw_ins (srtw_putN h n)
    · exact srtw_putN h n
theorem getD_mem {L : PL} {i : Nat} (h : i < L.length) : L.getD i d3 ∈ L := by
  rw [List.getD_eq_getElem?_getD, List.getElem?_eq_getElem h]
  exact List.getElem_mem h
theorem srtd_putN {P : PL} {a : Int} : ∀ n, srtd (putN P a [] n)
  | 0 => fun i j _ h => absurd h (Nat.not_lt_zero _)
  | n + 1 => by
    unfold putN
    split
    · refine srtd_ins (srtd_putN n) (fun i hi => ?_)
      rcases (mem_putN n).mp (getD_mem hi) with h | ⟨k, h1, h2, h3⟩
      · exact absurd h List.not_mem_nil
      · unfold pM
        rw [h3]
        show (k : Int) < (n : Int)
        omega
    · exact srtd_putN n

