/-! A figure's box -/
section FILLS
variable {F : PL}
theorem fi_ge (F : PL) : ∀ n i, i < n → pX F i ≤ fiR F n ∧ fiL F n ≤ pY F i ∧ pY F i ≤ fiH F n
  | 0, _, h => absurd h (Nat.not_lt_zero _)
  | n + 1, i, h => by
    unfold fiR fiL fiH
    by_cases c : i < n
    · have ih := fi_ge F n i c
      refine ⟨?_, ?_, ?_⟩
      · split <;> omega
      · split <;> omega
      · split <;> omega
    · rw [show i = n by omega]
      refine ⟨?_, ?_, ?_⟩
      · split <;> omega
      · split <;> omega
      · split <;> omega
theorem bnd_fi (hm : ∀ i, i < F.length → pX F 0 ≤ pX F i) : ∀ n, n < F.length → bnd F 0 (n + 1) = pX F 0 ∧ bnd F 1 (n + 1) = fiR F (n + 1) ∧ bnd F 2 (n + 1) = fiL F (n + 1) ∧ bnd F 3 (n + 1) = fiH F (n + 1)
  | 0, _ => by
    have z1 : fiR F 1 = pX F 0 := if_neg (Int.lt_irrefl _)
    have z2 : fiL F 1 = pY F 0 := if_neg (Int.lt_irrefl _)
    have z3 : fiH F 1 = pY F 0 := if_neg (Int.lt_irrefl _)
    rw [z1, z2, z3]
    exact ⟨bnd_t (Or.inl rfl), bnd_t (Or.inl rfl), bnd_t (Or.inl rfl), bnd_t (Or.inl rfl)⟩
  | n + 1, hn => by
    obtain ⟨i0, i1, i2, i3⟩ := bnd_fi hm n (by omega)
    have h0 := hm (n + 1) hn
    refine ⟨?_, ?_, ?_, ?_⟩
    · rw [← i0]
      refine bnd_n (fun w => w.elim (fun w => absurd w (by omega)) (fun w => ?_))
      have w : pX F (n + 1) < bnd F 0 (n + 1) := w
      omega
    · by_cases c : fiR F (n + 1) < pX F (n + 1)
      · have e : fiR F (n + 2) = pX F (n + 1) := if_pos c
        rw [e]
        exact bnd_t (Or.inr (show bnd F 1 (n + 1) < pX F (n + 1) by omega))
      · have e : fiR F (n + 2) = fiR F (n + 1) := if_neg c
        rw [e, ← i1]
        refine bnd_n (fun w => w.elim (fun w => absurd w (by omega)) (fun w => ?_))
        have w : bnd F 1 (n + 1) < pX F (n + 1) := w
        omega
    · by_cases c : pY F (n + 1) < fiL F (n + 1)
      · have e : fiL F (n + 2) = pY F (n + 1) := if_pos c
        rw [e]
        exact bnd_t (Or.inr (show pY F (n + 1) < bnd F 2 (n + 1) by omega))
      · have e : fiL F (n + 2) = fiL F (n + 1) := if_neg c
        rw [e, ← i2]
        refine bnd_n (fun w => w.elim (fun w => absurd w (by omega)) (fun w => ?_))
        have w : pY F (n + 1) < bnd F 2 (n + 1) := w
        omega
    · by_cases c : fiH F (n + 1) < pY F (n + 1)
      · have e : fiH F (n + 2) = pY F (n + 1) := if_pos c
        rw [e]
        exact bnd_t (Or.inr (show bnd F 3 (n + 1) < pY F (n + 1) by omega))
      · have e : fiH F (n + 2) = fiH F (n + 1) := if_neg c
        rw [e, ← i3]
        refine bnd_n (fun w => w.elim (fun w => absurd w (by omega)) (fun w => ?_))
        have w : bnd F 3 (n + 1) < pY F (n + 1) := w
        omega
theorem bx_fi (hm : ∀ i, i < F.length → pX F 0 ≤ pX F i) : bxF F = if F.length = 0 then 0 else fiB F := by
  by_cases c : F.length = 0
  · rw [if_pos c]
    unfold bxF
    rw [c]
    rfl
  · rw [if_neg c]
    obtain ⟨i0, i1, i2, i3⟩ := bnd_fi hm (F.length - 1) (by omega)
    rw [show F.length - 1 + 1 = F.length by omega] at i0 i1 i2 i3
    unfold bxF fiB
    rw [i0, i1, i2, i3]
theorem fi_rng (hS : okS F) (h0 : 0 < F.length) : (0 ≤ fiR F F.length - pX F 0 ∧ fiR F F.length - pX F 0 ≤ 800) ∧ 0 ≤ fiH F F.length - fiL F F.length ∧ fiH F F.length - fiL F F.length ≤ 800 := by
  have g := fi_ge F F.length 0 h0
  have b := fi_bd hS h0 F.length (Nat.le_refl _)
  have b0 := (hS 0 h0).1
  omega
theorem fi_hi (hS : okS F) (h0 : 0 < F.length) : fiB F < 16777216 := by
  obtain ⟨⟨a1, a2⟩, a3, a4⟩ := fi_rng hS h0
  have : (fiR F F.length - pX F 0) * (fiH F F.length - fiL F F.length) ≤ 800 * 800 := Int.mul_le_mul a2 a4 a3 (by decide)
  unfold fiB
  rw [Int.mul_assoc]
  omega
theorem fi_pos (hm : ∀ i, i < F.length → pX F 0 ≤ pX F i) (he : edL F) (h3 : 3 ≤ F.length) : 0 < fiB F := by
  have t := ed_turn he h3 (i := 0) (by omega)
  have g := fun i (hi : i < F.length) => fi_ge F F.length i hi
  have l1 := nxt_lt (n := F.length) (i := 0) (by omega)
  have l2 := nxt_lt (n := F.length) (i := nxt F.length 0) l1
  have a : 0 < fiR F F.length - pX F 0 := by
    refine Classical.byContradiction fun c => ?_
    have e : ∀ i, i < F.length → pX F i = pX F 0 := fun i hi => by
      have := (g i hi).1
      have := hm i hi
      omega
    have z : T3 (pt F 0) (pt F (nxt F.length 0)) (pt F (nxt F.length (nxt F.length 0))) = 0 := by
      show (pX F (nxt F.length 0) - pX F 0) * (pY F (nxt F.length (nxt F.length 0)) - pY F 0) - (pY F (nxt F.length 0) - pY F 0) * (pX F (nxt F.length (nxt F.length 0)) - pX F 0) = 0
      rw [e _ l1, e _ l2, Int.sub_self, Int.zero_mul, Int.mul_zero]
      rfl
    omega
  have b : 0 < fiH F F.length - fiL F F.length := by
    refine Classical.byContradiction fun c => ?_
    have e : ∀ i, i < F.length → pY F i = pY F 0 := fun i hi => by
      have := (g i hi).2
      have := (g 0 (by omega)).2
      omega
    have z : T3 (pt F 0) (pt F (nxt F.length 0)) (pt F (nxt F.length (nxt F.length 0))) = 0 := by
      show (pX F (nxt F.length 0) - pX F 0) * (pY F (nxt F.length (nxt F.length 0)) - pY F 0) - (pY F (nxt F.length 0) - pY F 0) * (pX F (nxt F.length (nxt F.length 0)) - pX F 0) = 0
      rw [e _ l1, e _ l2, Int.sub_self, Int.zero_mul, Int.mul_zero]
      rfl
    omega
  have := Int.mul_pos a b
  unfold fiB
  rw [Int.mul_assoc]
  omega
theorem da_few (h0 : F.length ≠ 0) (h3 : F.length < 3) : da F = 0 := by
  rcases F with _ | ⟨a, _ | ⟨b, _ | ⟨e, t⟩⟩⟩
  · exact absurd rfl h0
  · show (0 : Int) + (a.1 * a.2.1 - a.2.1 * a.1) = 0
    rw [Int.mul_comm]
    omega
  · show (0 : Int) + (a.1 * b.2.1 - a.2.1 * b.1) + (b.1 * a.2.1 - b.2.1 * a.1) = 0
    grind
  · exact absurd h3 (by simp only [List.length_cons]; omega)
theorem n32_0 : vf_n32 FP.fconst0 ∧ vf_n64 (FP.f2d FP.fconst0) := ⟨by unfold vf_n32; decide +kernel, f2d_n64 (by decide +kernel)⟩
theorem q_fills (hS : okS F) (hm : ∀ i, i < F.length → pX F 0 ≤ pX F i) (he : edL F) : (¬ bxF F ≤ 0 → vf_n32 (FP.fdiv (FP.i2f (iN (da F))) (FP.i2f (iN (bxF F))))) ∧ (k_fills F = if F.length < 3 then FP.fconst0 else (FP.fdiv (FP.i2f (iN (da F))) (FP.i2f (iN (fiB F))))) ∧ (¬ F.length < 3 → vf_n32 (FP.fdiv (FP.i2f (iN (da F))) (FP.i2f (iN (fiB F))))) ∧ vf_n64 (FP.f2d (k_fills F)) := by
  have hb := bx_fi hm
  by_cases c0 : F.length = 0
  · rw [if_pos c0] at hb
    have k : k_fills F = FP.fconst0 := if_pos (by omega)
    rw [k]
    exact ⟨fun w => absurd (by omega) w, (if_pos (by omega)).symm, fun w => absurd (by omega) w, n32_0.2⟩
  rw [if_neg c0] at hb
  have hi := fi_hi hS (by omega)
  have key : ∀ a : Int32, 0 < fiB F → vf_n32 (FP.fdiv (FP.i2f a) (FP.i2f (iN (fiB F)))) ∧ vf_n64 (FP.f2d (FP.fdiv (FP.i2f a) (FP.i2f (iN (fiB F))))) := fun a w => by
    have := fdiv_n32 a (b := (fiB F).toNat) (by omega) (by omega)
    rw [show (((fiB F).toNat : Nat) : Int) = fiB F from Int.toNat_of_nonneg (Int.le_of_lt w)] at this
    exact this
  by_cases c3 : F.length < 3
  · have d0 := da_few c0 c3
    have k : k_fills F = FP.fconst0 := by
      unfold k_fills
      by_cases c : bxF F ≤ 0
      · rw [if_pos c]
      · rw [if_neg c, d0]
        have := fdiv_0 (b := (bxF F).toNat) (by omega) (by omega)
        rw [show (((bxF F).toNat : Nat) : Int) = bxF F from Int.toNat_of_nonneg (by omega)] at this
        exact this
    rw [k]
    refine ⟨fun w => ?_, (if_pos c3).symm, fun w => absurd c3 w, n32_0.2⟩
    rw [hb]
    exact (key _ (by omega)).1
  · have p := fi_pos hm he (by omega)
    have k : k_fills F = FP.fdiv (FP.i2f (iN (da F))) (FP.i2f (iN (fiB F))) := by
      unfold k_fills
      rw [if_neg (by omega), hb]
    rw [k, if_neg c3, hb]
    exact ⟨fun _ => (key _ p).1, rfl, fun _ => (key _ p).1, (key _ p).2⟩
end FILLS

