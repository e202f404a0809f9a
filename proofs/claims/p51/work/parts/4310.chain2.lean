/-! A chain of left turns, and the point that is put behind it -/
/-- a chain from place t0 on: forward by the measure, turning left, with all of D to its left -/
def chn (A B : Int) (t0 : Nat) (D : Pt → Prop) (H : PL) : Prop := t0 < H.length ∧ (∀ j, t0 ≤ j → j + 1 < H.length → lv A B (pt H j) < lv A B (pt H (j + 1))) ∧ (∀ j, t0 ≤ j → j + 2 < H.length → 0 < T3 (pt H j) (pt H (j + 1)) (pt H (j + 2))) ∧ (∀ j, t0 ≤ j → j + 1 < H.length → ∀ q, D q → 0 ≤ T3 (pt H j) (pt H (j + 1)) q) ∧ (∀ q, D q → lv A B (pt H t0) ≤ lv A B q ∧ lv A B q ≤ lv A B (pt H (H.length - 1))) ∧ (∀ j, t0 ≤ j → j < H.length → D (pt H j))
section CHAINT
variable {A B : Int} {t0 : Nat} {D : Pt → Prop} {H : PL} {p : Pt}
theorem chn_mono (h : chn A B t0 D H) : ∀ n i, t0 ≤ i → i + n < H.length → lv A B (pt H i) ≤ lv A B (pt H (i + n))
  | 0, i, _, _ => Int.le_refl _
  | n + 1, i, h1, h2 => by
    have := chn_mono h n i h1 (by omega)
    have h3 := h.2.1 (i + n) (by omega) (by omega)
    exact Int.le_trans this (Int.le_of_lt h3)
theorem chn_le (h : chn A B t0 D H) {i j : Nat} (h1 : t0 ≤ i) (h2 : i ≤ j) (h3 : j < H.length) : lv A B (pt H i) ≤ lv A B (pt H j) := by
  have := chn_mono h (j - i) i h1 (by omega)
  rw [show i + (j - i) = j by omega] at this
  exact this
theorem chn_lt (h : chn A B t0 D H) {i j : Nat} (h1 : t0 ≤ i) (h2 : i < j) (h3 : j < H.length) : lv A B (pt H i) < lv A B (pt H j) :=
  Int.lt_of_lt_of_le (h.2.1 i h1 (by omega)) (chn_le h (by omega) (by omega) h3)
/-- the new point is left of all edges that stay -/
theorem chn_left (h : chn A B t0 D H) (hp : lv A B (pt H (H.length - 1)) < lv A B p) {t : Nat} (ht2 : t ≤ H.length) (hs : t0 + 1 < t → 0 < T3 (pt H (t - 2)) (pt H (t - 1)) p) : ∀ d, t0 + d + 2 ≤ t → 0 < T3 (pt H (t - 2 - d)) (pt H (t - 1 - d)) p
  | 0, hd => hs (by omega)
  | d + 1, hd => by
    have ih := chn_left h hp ht2 hs d (by omega)
    obtain ⟨h1, h2, h3, h4, h5, h6⟩ := h
    have e1 : t - 2 - d = t - 2 - (d + 1) + 1 := by omega
    have e2 : t - 1 - d = t - 2 - (d + 1) + 2 := by omega
    have e3 : t - 1 - (d + 1) = t - 2 - (d + 1) + 1 := by omega
    rw [e1, e2] at ih
    rw [e3]
    generalize t - 2 - (d + 1) = j at ih e1 e2
    have u := h2 j (by omega) (by omega)
    have w := h2 (j + 1) (by omega) (by omega)
    refine q4a u w ?_ (h3 j (by omega) (by omega)) (Int.le_of_lt ih)
    exact Int.lt_of_le_of_lt (chn_le ⟨h1, h2, h3, h4, h5, h6⟩ (by omega) (by omega) (by omega)) hp
/-- a point behind all others is put behind the chain -/
theorem chn_step (h : chn A B t0 D H) (hp : lv A B (pt H (H.length - 1)) < lv A B p) (hi : ∀ q, D q → lv A B q = lv A B (pt H (H.length - 1)) → q = pt H (H.length - 1)) {m : Int} {t : Nat} (ht : t0 < t) (ht2 : t ≤ H.length) (hs : t0 + 1 < t → 0 < T3 (pt H (t - 2)) (pt H (t - 1)) p) (hc : t < H.length → T3 (pt H (t - 1)) (pt H t) p ≤ 0) : chn A B t0 (fun q => D q ∨ q = p) (H.take t ++ [(p.1, p.2, m)]) := by
  have hl : (H.take t ++ [(p.1, p.2, m)]).length = t + 1 := len_tk ht2
  have hA : ∀ j, j < t → pt (H.take t ++ [(p.1, p.2, m)]) j = pt H j := fun j hj => pt_tk1 ht2 hj
  have hB : pt (H.take t ++ [(p.1, p.2, m)]) t = p := pt_tk2 ht2
  have hq := chn_left h hp ht2 hs
  have hh := h
  obtain ⟨h1, h2, h3, h4, h5, h6⟩ := h
  have hlp : ∀ j, t0 ≤ j → j < H.length → lv A B (pt H j) < lv A B p := fun j a b => Int.lt_of_le_of_lt (chn_le hh a (by omega) (by omega)) hp
  unfold chn
  rw [hl]
  refine ⟨by omega, fun j a b => ?_, fun j a b => ?_, fun j a b q hD => ?_, fun q hD => ?_, fun j a b => ?_⟩
  · rw [hA j (by omega)]
    by_cases e : j + 1 = t
    · rw [e, hB]
      exact hlp j a (by omega)
    · rw [hA (j + 1) (by omega)]
      exact h2 j a (by omega)
  · rw [hA j (by omega), hA (j + 1) (by omega)]
    by_cases e : j + 2 = t
    · rw [e, hB]
      have := hs (by omega)
      rw [show t - 2 = j by omega, show t - 1 = j + 1 by omega] at this
      exact this
    · rw [hA (j + 2) (by omega)]
      exact h3 j a (by omega)
  · rw [hA j (by omega)]
    by_cases e : j + 1 = t
    · rw [e, hB]
      rcases hD with hD | hD
      · have ej : j = t - 1 := by omega
        rw [ej]
        by_cases c : lv A B (pt H (t - 1)) ≤ lv A B q
        · by_cases c2 : t < H.length
          · have w := h2 (t - 1) (by omega) (by omega)
            have w2 := h4 (t - 1) (by omega) (by omega) q hD
            rw [show t - 1 + 1 = t by omega] at w w2
            exact q4b w (Int.le_of_lt (hlp (t - 1) (by omega) (by omega))) c (hc c2) w2
          · have et : t - 1 = H.length - 1 := by omega
            rw [et] at c ⊢
            rw [hi q hD (Int.le_antisymm (h5 q hD).2 c), T3_ba]
            exact Int.le_refl _
        · have c := Int.not_le.mp c
          by_cases c3 : t0 + 1 < t
          · have w := h2 (t - 2) (by omega) (by omega)
            have w2 := h4 (t - 2) (by omega) (by omega) q hD
            rw [show t - 2 + 1 = t - 1 by omega] at w w2
            exact Int.le_of_lt (q4c w (Int.le_of_lt (hlp (t - 1) (by omega) (by omega))) c (hs c3) w2)
          · rw [show t - 1 = t0 by omega] at c
            exact absurd (h5 q hD).1 (Int.not_le.mpr c)
      · rw [hD, T3_bb]
        exact Int.le_refl _
    · rw [hA (j + 1) (by omega)]
      rcases hD with hD | hD
      · exact h4 j a (by omega) q hD
      · rw [hD]
        have := hq (t - 2 - j) (by omega)
        rw [show t - 2 - (t - 2 - j) = j by omega, show t - 1 - (t - 2 - j) = j + 1 by omega] at this
        exact Int.le_of_lt this
  · rw [hA t0 ht, show t + 1 - 1 = t by omega, hB]
    rcases hD with hD | hD
    · exact ⟨(h5 q hD).1, Int.le_of_lt (Int.lt_of_le_of_lt (h5 q hD).2 hp)⟩
    · rw [hD]
      exact ⟨Int.le_of_lt (hlp t0 (Nat.le_refl _) (by omega)), Int.le_refl _⟩
  · by_cases e : j = t
    · rw [e, hB]
      exact Or.inr rfl
    · rw [hA j (by omega)]
      exact Or.inl (h6 j a (by omega))
end CHAINT

