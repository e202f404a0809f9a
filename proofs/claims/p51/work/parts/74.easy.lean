/-! The mathematics of the law's checks: order, places, distances, fences, drops, faults, lines -/
section MEASY
variable {P E : PL} {a : Int} {i j k n : Nat} {u : Prop}
theorem m_od (hq : k < nC P a) : ∃ i : Nat, i < P.length ∧ pM P i = a ∧ (Od P a).getD k d3 = (pX P i, pY P i, (i : Int)) := by
  have hl : (Od P a).length = nC P a := ord_len P a
  have hm := getD_mem (L := Od P a) (i := k) (by omega)
  rcases (mem_putN P.length).mp hm with w | ⟨i, h1, h2, h3⟩
  · exact absurd w List.not_mem_nil
  · exact ⟨i, h1, h2, h3⟩
theorem m_srtF : srtF P a := fun q hq => by
  obtain ⟨i, h1, h2, h3⟩ := m_od hq
  refine ⟨i, h1, ?_, h2⟩
  show ((Od P a).getD q d3).2.2 = _
  rw [h3]
theorem m_srtG : srtG P a := fun q i j hq h1 h2 => by
  obtain ⟨i', a1, a2, a3⟩ := m_od (P := P) (a := a) (k := q) (by omega)
  obtain ⟨j', b1, b2, b3⟩ := m_od hq
  have hl : (Od P a).length = nC P a := ord_len P a
  have e1 : ((Od P a).getD q d3).2.2 = (i : Int) := h1
  have e2 : ((Od P a).getD (q + 1) d3).2.2 = (j : Int) := h2
  rw [a3] at e1
  rw [b3] at e2
  have e1' : (i' : Int) = i := e1
  have e2' : (j' : Int) = j := e2
  have f1 : i' = i := by omega
  have f2 : j' = j := by omega
  subst f1
  subst f2
  have hq2 : q + 1 < (putN P a [] P.length).length := by rw [ord_len]; exact hq
  have s := srtw_putN (P := P) (a := a) (R := []) srtw_nil P.length q (q + 1) (by omega) hq2
  rw [a3, b3] at s
  rcases s with w | w
  · exact Int.le_of_lt w
  · exact Int.le_of_eq w.1
/-! distances -/
def mn (P : PL) (a : Int) (u : Prop) (s : I2) (R : Nat → Nat → Prop) : Prop := (s.1 = -1 ∧ ∀ i j, R i j → ¬ (pM P i = a ∧ pM P j = a)) ∨ (∃ i j : Nat, i < j ∧ j < P.length ∧ pM P i = a ∧ pM P j = a ∧ s = (100 * (i : Int) + (j : Int), sqd P i j)) ∧ (¬ u → ∀ i j, R i j → pM P i = a → pM P j = a → s.2 ≤ sqd P i j)
theorem mn_cg {s : I2} {R R' : Nat → Nat → Prop} (h : mn P a u s R) (e : ∀ i j, R' i j → R i j) : mn P a u s R' := by
  rcases h with ⟨h1, h2⟩ | ⟨h1, h2⟩
  · exact Or.inl ⟨h1, fun i j r => h2 i j (e i j r)⟩
  · exact Or.inr ⟨h1, fun w i j r => h2 w i j (e i j r)⟩
theorem mn_exS [Decidable u] {s : I2} {R : Nat → Nat → Prop} (hij : i < j) (hj : j < P.length) (hi : pM P i = a) (h : mn P a u s R) : mn P a u (exS P a u i j s) (fun k o => R k o ∨ (k = i ∧ o = j)) := by
  unfold exS
  by_cases c : pM P j = a ∧ (s.1 < 0 ∨ exQ u (sqd P i j) s.2)
  · rw [if_pos c]
    refine Or.inr ⟨⟨i, j, hij, hj, hi, c.1, rfl⟩, fun w k o r mk mo => ?_⟩
    rcases r with r | ⟨rfl, rfl⟩
    · rcases h with ⟨h1, h2⟩ | ⟨⟨i', j', b1, b2, b3, b4, b5⟩, h2⟩
      · exact absurd ⟨mk, mo⟩ (h2 k o r)
      · have h3 := h2 w k o r mk mo
        have h4 : ¬ s.1 < 0 := by
          rw [b5]
          show ¬ (100 * (i' : Int) + (j' : Int)) < 0
          omega
        rcases c.2 with q | q | q
        · exact absurd q h4
        · exact absurd q.1 w
        · show sqd P i j ≤ sqd P k o
          omega
    · exact Int.le_refl _
  · rw [if_neg c]
    rcases h with ⟨h1, h2⟩ | ⟨h1, h2⟩
    · refine Or.inl ⟨h1, fun k o r => ?_⟩
      rcases r with r | ⟨rfl, rfl⟩
      · exact h2 k o r
      · exact fun q => c ⟨q.2, Or.inl (by omega)⟩
    · refine Or.inr ⟨h1, fun w k o r mk mo => ?_⟩
      rcases r with r | ⟨rfl, rfl⟩
      · exact h2 w k o r mk mo
      · have h5 : ¬ sqd P k o < s.2 := fun q => c ⟨mo, Or.inr (Or.inr ⟨w, q⟩)⟩
        omega
theorem mn_exJ [Decidable u] {s : I2} {R : Nat → Nat → Prop} (hi : pM P i = a) (h : mn P a u s R) : ∀ n, i + 1 + n ≤ P.length → mn P a u (exJ P a u i s n) (fun k o => R k o ∨ (k = i ∧ i < o ∧ o < i + 1 + n))
  | 0, _ => mn_cg h fun k o r => by
    rcases r with r | ⟨_, r1, r2⟩
    · exact r
    · omega
  | n + 1, hn => mn_cg (mn_exS (j := i + 1 + n) (by omega) (by omega) hi (mn_exJ hi h n (by omega))) fun k o r => by
    rcases r with r | ⟨r0, r1, r2⟩
    · exact Or.inl (Or.inl r)
    · by_cases c : o = i + 1 + n
      · exact Or.inr ⟨r0, c⟩
      · exact Or.inl (Or.inr ⟨r0, r1, by omega⟩)
theorem mn_exI [Decidable u] : ∀ n, n ≤ P.length → mn P a u (exI P a u n) (fun k o => k < n ∧ k < o ∧ o < P.length)
  | 0, _ => Or.inl ⟨rfl, fun k o r => by omega⟩
  | n + 1, hn => by
    have ih := mn_exI n (by omega)
    unfold exI
    by_cases c : pM P n = a
    · rw [if_pos c]
      refine mn_cg (mn_exJ c ih (P.length - (n + 1)) (by omega)) fun k o r => ?_
      by_cases e : k = n
      · exact Or.inr ⟨e, by omega, by omega⟩
      · exact Or.inl ⟨by omega, r.2⟩
    · rw [if_neg c]
      rcases ih with ⟨h1, h2⟩ | ⟨h1, h2⟩
      · refine Or.inl ⟨h1, fun k o r q => ?_⟩
        by_cases e : k = n
        · subst e
          exact c q.1
        · exact h2 k o ⟨by omega, r.2⟩ q
      · refine Or.inr ⟨h1, fun w k o r mk mo => ?_⟩
        by_cases e : k = n
        · subst e
          exact absurd mk c
        · exact h2 w k o ⟨by omega, r.2⟩ mk mo
theorem mn_all [Decidable u] (h : 2 ≤ nC P a) : (∃ i j : Nat, i < j ∧ j < P.length ∧ pM P i = a ∧ pM P j = a ∧ exI P a u P.length = (100 * (i : Int) + (j : Int), sqd P i j)) ∧ (¬ u → ∀ i j, i < j → j < P.length → pM P i = a → pM P j = a → (exI P a u P.length).2 ≤ sqd P i j) := by
  obtain ⟨i, j, h1, h2, h3, h4⟩ := cnt_2 P.length h
  rcases mn_exI (u := u) (a := a) P.length (Nat.le_refl _) with ⟨k1, k2⟩ | ⟨k1, k2⟩
  · exact absurd ⟨h3, h4⟩ (k2 i j ⟨by omega, h1, h2⟩)
  · exact ⟨k1, fun w i j a1 a2 a3 a4 => k2 w i j ⟨by omega, a1, a2⟩ a3 a4⟩
theorem m_disF (hP : P.length ≤ 60) [Decidable u] : disF P a u := fun h => by
  obtain ⟨⟨i, j, h1, h2, h3, h4, h5⟩, -⟩ := mn_all (u := u) h
  refine ⟨?_, q_pair hP a u h⟩
  have e : exT P a u = 100 * i + j := by
    show (exI P a u P.length).1.toNat = _
    rw [h5]
    show (100 * (i : Int) + (j : Int)).toNat = _
    omega
  rw [e, h5, show (100 * i + j) / 100 = i by omega, show (100 * i + j) % 100 = j by omega]
/-! places -/
theorem m_plN (L : PL) : ∀ n, plN L n ≤ n ∧ (plN L n < n ↔ ∃ k, k < n ∧ ¬ newAt L k)
  | 0 => ⟨Nat.le_refl _, fun h => absurd h (Nat.not_lt_zero _), fun ⟨k, hk, _⟩ => absurd hk (Nat.not_lt_zero _)⟩
  | n + 1 => by
    have ih := m_plN L n
    unfold plN
    by_cases c : newAt L n
    · rw [if_pos c]
      refine ⟨by omega, fun h => ?_, fun ⟨k, hk, w⟩ => ?_⟩
      · obtain ⟨k, hk, w⟩ := ih.2.mp (by omega)
        exact ⟨k, by omega, w⟩
      · by_cases e : k = n
        · subst e
          exact absurd c w
        · have := ih.2.mpr ⟨k, by omega, w⟩
          omega
    · rw [if_neg c]
      exact ⟨by omega, fun _ => ⟨n, by omega, c⟩, fun _ => by omega⟩
theorem sqd_nn (P : PL) (i j : Nat) : 0 ≤ sqd P i j ∧ (sqd P i j = 0 ↔ pX P i = pX P j ∧ pY P i = pY P j) := by
  refine ⟨?_, fun h => ?_, fun h => ?_⟩
  · by_cases c : pX P j - pX P i = 0 ∧ pY P j - pY P i = 0
    · show 0 ≤ (pX P j - pX P i) * (pX P j - pX P i) + (pY P j - pY P i) * (pY P j - pY P i)
      rw [c.1, c.2]
      decide
    · exact Int.le_of_lt (sq_pos c)
  · by_cases c : pX P j - pX P i = 0 ∧ pY P j - pY P i = 0
    · exact ⟨by omega, by omega⟩
    · have := sq_pos c
      have h' : (pX P j - pX P i) * (pX P j - pX P i) + (pY P j - pY P i) * (pY P j - pY P i) = 0 := h
      omega
  · show (pX P j - pX P i) * (pX P j - pX P i) + (pY P j - pY P i) * (pY P j - pY P i) = 0
    rw [h.1, h.2, Int.sub_self, Int.sub_self]
    decide
theorem m_plcF : plcF P a := fun h => by
  have hl : (putN P a [] P.length).length = nC P a := ord_len P a
  rw [show (Od P a).length = nC P a from hl]
  obtain ⟨⟨i, j, h1, h2, h3, h4, h5⟩, hm⟩ := mn_all (u := False) h
  rw [(m_plN (Od P a) (nC P a)).2]
  constructor
  · rintro ⟨k, hk, w⟩
    have w0 : k ≠ 0 := fun e => w (Or.inl e)
    have w1 : pX (Od P a) (k - 1) = pX (Od P a) k ∧ pY (Od P a) (k - 1) = pY (Od P a) k := Classical.byContradiction fun q => w (Or.inr q)
    obtain ⟨i', a1, a2, a3⟩ := m_od (P := P) (a := a) (k := k - 1) (by omega)
    obtain ⟨j', b1, b2, b3⟩ := m_od hk
    have s := srtd_putN (P := P) (a := a) P.length (k - 1) k (by omega) (by rw [hl]; exact hk)
    have e1 : ((Od P a).getD (k - 1) d3).1 = ((Od P a).getD k d3).1 := w1.1
    have e2 : ((Od P a).getD (k - 1) d3).2.1 = ((Od P a).getD k d3).2.1 := w1.2
    rw [a3, b3] at s e1 e2
    have e1' : pX P i' = pX P j' := e1
    have e2' : pY P i' = pY P j' := e2
    have hij : i' < j' := by
      rcases s with q | ⟨_, q | ⟨_, q⟩⟩
      · have q' : pX P i' < pX P j' := q
        omega
      · have q' : pY P i' < pY P j' := q
        omega
      · have q' : (i' : Int) < (j' : Int) := q
        omega
    have z := (sqd_nn P i' j').2.mpr ⟨e1', e2'⟩
    rw [h5]
    have t : (exI P a False P.length).2 = sqd P i j := by rw [h5]
    have y := hm id i' j' hij b1 a2 b2
    show sqd P i j = 0
    have := (sqd_nn P i j).1
    omega
  · intro z
    rw [h5] at z
    have e := (sqd_nn P i j).2.mp z
    have mem : ∀ i : Nat, i < P.length → pM P i = a → ∃ k, k < nC P a ∧ (Od P a).getD k d3 = (pX P i, pY P i, (i : Int)) := fun i hi hm => by
      have m : (pX P i, pY P i, (i : Int)) ∈ Od P a := (mem_putN P.length).mpr (Or.inr ⟨i, hi, hm, rfl⟩)
      obtain ⟨k, hk, ek⟩ := List.mem_iff_getElem.mp m
      refine ⟨k, by rw [← hl]; exact hk, ?_⟩
      rw [List.getD_eq_getElem?_getD, List.getElem?_eq_getElem hk]
      exact ek
    obtain ⟨p, hp, ep⟩ := mem i (by omega) h3
    obtain ⟨q, hq, eq⟩ := mem j h2 h4
    have hpq : p ≠ q := fun c => by
      subst c
      rw [ep] at eq
      have t := congrArg (fun e : Int × Int × Int => e.2.2) eq
      have t' : (i : Int) = (j : Int) := t
      omega
    have key : ∀ p q, p < q → q < nC P a → pX (Od P a) p = pX (Od P a) q → pY (Od P a) p = pY (Od P a) q → ∃ k, k < nC P a ∧ ¬ newAt (Od P a) k := fun p q hpq hq ex ey => by
      refine ⟨p + 1, by omega, fun c => ?_⟩
      rcases c with c | c
      · omega
      · refine c ?_
        show pX (Od P a) p = pX (Od P a) (p + 1) ∧ pY (Od P a) p = pY (Od P a) (p + 1)
        by_cases e : p + 1 = q
        · subst e
          exact ⟨ex, ey⟩
        · have s1 := srtw_putN (P := P) (a := a) (R := []) srtw_nil P.length p (p + 1) (by omega) (by rw [hl]; omega)
          have s2 := srtw_putN (P := P) (a := a) (R := []) srtw_nil P.length (p + 1) q (by omega) (by rw [hl]; exact hq)
          have t1 : pX (Od P a) p < pX (Od P a) (p + 1) ∨ (pX (Od P a) p = pX (Od P a) (p + 1) ∧ pY (Od P a) p ≤ pY (Od P a) (p + 1)) := s1
          have t2 : pX (Od P a) (p + 1) < pX (Od P a) q ∨ (pX (Od P a) (p + 1) = pX (Od P a) q ∧ pY (Od P a) (p + 1) ≤ pY (Od P a) q) := s2
          omega
    have x1 : pX (Od P a) p = pX P i := by have t := congrArg (fun e : Int × Int × Int => e.1) ep; exact t
    have y1 : pY (Od P a) p = pY P i := by have t := congrArg (fun e : Int × Int × Int => e.2.1) ep; exact t
    have x2 : pX (Od P a) q = pX P j := by have t := congrArg (fun e : Int × Int × Int => e.1) eq; exact t
    have y2 : pY (Od P a) q = pY P j := by have t := congrArg (fun e : Int × Int × Int => e.2.1) eq; exact t
    by_cases c : p < q
    · exact key p q c hq (by omega) (by omega)
    · exact key q p (by omega) hp (by omega) (by omega)
end MEASY
