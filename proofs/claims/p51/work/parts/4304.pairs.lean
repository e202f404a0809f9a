/-! Pairs: what the number of a pair is -/
def prG (P : PL) (s : I2) : Prop := s.1 = -1 ∨ ∃ i j : Nat, i < j ∧ j < P.length ∧ s.1 = 100 * (i : Int) + (j : Int)
theorem prG_exS {P : PL} {a : Int} {u : Prop} [Decidable u] {i j : Nat} {s : I2} (hij : i < j) (hj : j < P.length) (h : prG P s) : prG P (exS P a u i j s) := by
  unfold exS
  split
  · exact Or.inr ⟨i, j, hij, hj, rfl⟩
  · exact h
theorem nn_exS {P : PL} {a : Int} {u : Prop} [Decidable u] {i j : Nat} {s : I2} (h : 0 ≤ s.1) : 0 ≤ (exS P a u i j s).1 := by
  unfold exS
  split
  · show 0 ≤ 100 * (i : Int) + (j : Int)
    omega
  · exact h
theorem nw_exS {P : PL} {a : Int} {u : Prop} [Decidable u] {i j : Nat} {s : I2} (h : pM P j = a) : 0 ≤ (exS P a u i j s).1 := by
  by_cases c : s.1 < 0
  · rw [exS_new h (Or.inl c)]
    show 0 ≤ 100 * (i : Int) + (j : Int)
    omega
  · exact nn_exS (by omega)
theorem prG_exJ {P : PL} {a : Int} {u : Prop} [Decidable u] {i : Nat} {s : I2} (h : prG P s) : ∀ n, i + 1 + n ≤ P.length → prG P (exJ P a u i s n)
  | 0, _ => h
  | n + 1, hn => prG_exS (by omega) (by omega) (prG_exJ h n (by omega))
theorem nn_exJ {P : PL} {a : Int} {u : Prop} [Decidable u] {i : Nat} {s : I2} (h : 0 ≤ s.1) : ∀ n, 0 ≤ (exJ P a u i s n).1
  | 0 => h
  | n + 1 => nn_exS (nn_exJ h n)
theorem nw_exJ {P : PL} {a : Int} {u : Prop} [Decidable u] {i : Nat} {s : I2} {j : Nat} (hj : i < j) (hm : pM P j = a) : ∀ n, j < i + 1 + n → 0 ≤ (exJ P a u i s n).1
  | 0, h => absurd h (by omega)
  | n + 1, h => by
    by_cases c : j = i + 1 + n
    · exact nw_exS (by rw [← c]; exact hm)
    · exact nn_exS (nw_exJ hj hm n (by omega))
theorem prG_exI {P : PL} {a : Int} {u : Prop} [Decidable u] : ∀ n, n ≤ P.length → prG P (exI P a u n) ∧ ∀ i j, i < n → i < j → j < P.length → pM P i = a → pM P j = a → 0 ≤ (exI P a u n).1
  | 0, _ => ⟨Or.inl rfl, fun i j h => absurd h (Nat.not_lt_zero _)⟩
  | n + 1, hn => by
    obtain ⟨h1, h2⟩ := prG_exI (P := P) (a := a) (u := u) n (by omega)
    unfold exI
    by_cases c : pM P n = a
    · rw [if_pos c]
      refine ⟨prG_exJ h1 _ (by omega), fun i j q1 q2 q3 q4 q5 => ?_⟩
      by_cases e : i = n
      · subst e
        exact nw_exJ q2 q5 _ (by omega)
      · exact nn_exJ (h2 i j (by omega) q2 q3 q4 q5) _
    · rw [if_neg c]
      refine ⟨h1, fun i j q1 q2 q3 q4 q5 => ?_⟩
      by_cases e : i = n
      · subst e; exact absurd q4 c
      · exact h2 i j (by omega) q2 q3 q4 q5
theorem cnt_1 {P : PL} {a : Int} : ∀ n, 1 ≤ cntN P a n → ∃ i, i < n ∧ pM P i = a
  | 0, h => absurd (show 1 ≤ 0 from h) (by decide)
  | n + 1, h => by
    by_cases c : pM P n = a
    · exact ⟨n, Nat.lt_succ_self _, c⟩
    · replace h : 1 ≤ cntN P a n + (if pM P n = a then 1 else 0) := h
      rw [if_neg c] at h
      obtain ⟨i, h1, h2⟩ := cnt_1 n h
      exact ⟨i, by omega, h2⟩
theorem cnt_2 {P : PL} {a : Int} : ∀ n, 2 ≤ cntN P a n → ∃ i j, i < j ∧ j < n ∧ pM P i = a ∧ pM P j = a
  | 0, h => absurd (show 2 ≤ 0 from h) (by decide)
  | n + 1, h => by
    replace h : 2 ≤ cntN P a n + (if pM P n = a then 1 else 0) := h
    by_cases c : pM P n = a
    · rw [if_pos c] at h
      obtain ⟨i, h1, h2⟩ := cnt_1 (P := P) (a := a) n (by omega)
      exact ⟨i, n, h1, Nat.lt_succ_self _, h2, c⟩
    · rw [if_neg c] at h
      obtain ⟨i, j, h1, h2, h3⟩ := cnt_2 n h
      exact ⟨i, j, h1, by omega, h3⟩
theorem q_pair {P : PL} (hP : P.length ≤ 60) (a : Int) (u : Prop) [Decidable u] (h : 2 ≤ cntN P a P.length) : 0 ≤ (exI P a u P.length).1 ∧ (exI P a u P.length).1 ≤ 10000 ∧ exT P a u / 100 < P.length ∧ exT P a u % 100 < P.length := by
  obtain ⟨h1, h2⟩ := prG_exI (P := P) (a := a) (u := u) P.length (Nat.le_refl _)
  obtain ⟨i, j, c1, c2, c3, c4⟩ := cnt_2 _ h
  have h3 := h2 i j (by omega) c1 c2 c3 c4
  show _ ∧ _ ∧ (exI P a u P.length).1.toNat / 100 < _ ∧ (exI P a u P.length).1.toNat % 100 < _
  generalize (exI P a u P.length) = s at h1 h3 ⊢
  rcases h1 with h1 | ⟨i, j, d1, d2, d3⟩
  · omega
  · rw [d3] at h3 ⊢
    have e : (100 * (i : Int) + (j : Int)).toNat = 100 * i + j := by omega
    rw [e]
    refine ⟨by omega, by omega, by omega, by omega⟩

