/-! The mathematics of the law's checks: numbers of places, by any measure -/
section MTRI
variable {A B A' B' w X : Int} {v : Nat → Pt} {a b c p q z : Pt} {i j k n : Nat}
theorem Smp_fun (h : Smp A B v n) (inj : ∀ i j, i < n → j < n → lv A' B' (v i) = lv A' B' (v j) → v i = v j) : Smp A' B' v n :=
  ⟨h.1, fun i j hi hj e => h.2.1 i j hi hj (by rw [inj i j hi hj e]), h.2.2.1, h.2.2.2⟩
theorem mu_any (hB : B ≠ 0) : ∀ (N n : Nat) (v : Nat → Pt), n < N → Smp A B v n → Smp A' B' v n → mu A B v n = mu A' B' v n
  | 0, n, v, hN, _, _ => absurd hN (Nat.not_lt_zero n)
  | N + 1, n, v, hN, h, h' => by
    have h3 := h.1
    by_cases c : n = 3
    · subst c
      obtain ⟨i, hi, mi⟩ := top_ex A B v (show 0 < 3 by decide)
      obtain ⟨j, hj, mj⟩ := top_ex A' B' v (show 0 < 3 by decide)
      rw [(mu_top h hi mi).1, (mu_top h' hj mj).1, T3_3 v hi, T3_3 v hj]
    · obtain ⟨e, he, -, -, hE⟩ := ear_ex hB (n + 1) n v (by omega) h 0 (by omega)
      have m01 := mu_01 h
      have hw : 2 * mu A B v n + 1 = 1 ∨ 2 * mu A B v n + 1 = -1 := by omega
      obtain ⟨s1, -, m1⟩ := cutE (by omega) hw e v he h hE
      obtain ⟨s2, -, m2⟩ := cutE (by omega) hw e v he h' hE
      rw [← m1, ← m2]
      exact mu_any hB N (n - 1) (ers v e) (by omega) s1 s2
theorem wN_val (h : Smp A B v n) (hB : B ≠ 0) (hz : ∀ i, i < n → lv A B z = lv A B (v i) → z = v i) : wN A B v n z = mu A B v n ∨ wN A B v n z = mu A B v n + 1 := by
  by_cases c : ∃ i, i < n ∧ lv A B z = lv A B (v i)
  · obtain ⟨i, hi, e⟩ := c
    rw [hz i hi e, Smp_at h hi]
    have := sS_01 A B (v (prv n i)) (v i) (v (nxt n i))
    omega
  · exact Smp_any h hB fun i hi e => c ⟨i, hi, e⟩
theorem om_val (h : Smp A B v n) (hB : B ≠ 0) (hz : ∀ i, i < n → lv A B z = lv A B (v i) → z = v i) (hw : 2 * mu A B v n + 1 = w) : (w = 1 ∨ w = -1) ∧ 0 ≤ w * om A B v n z ∧ w * om A B v n z ≤ 2 := by
  have v1 := wN_val h hB hz
  have v2 := wN_val (Smp_neg h) (by omega) (fun i hi e => hz i hi (by rw [lv_neg, lv_neg] at e; omega))
  rw [mu_neg h] at v2
  have m01 := mu_01 h
  unfold om
  rcases m01 with m | m
  · have e : w = 1 := by omega
    rw [e, Int.one_mul]
    omega
  · have e : w = -1 := by omega
    rw [e, Int.neg_mul, Int.one_mul]
    omega
def tv (a b c : Pt) : Nat → Pt := fun i => if i = 0 then b else if i = 1 then c else a
theorem tv_oT (A B : Int) (a b c z : Pt) : om A B (tv a b c) 3 z = oT A B a b c z := by
  unfold om oT
  rw [wN_c3, wN_c3]
  rfl
theorem tri_Smp (hw : w = 1 ∨ w = -1) (hH : 0 < w * T3 a b c) (h1 : lv A B a ≠ lv A B b) (h2 : lv A B b ≠ lv A B c) (h3 : lv A B c ≠ lv A B a) : Smp A B (tv a b c) 3 ∧ 2 * mu A B (tv a b c) 3 + 1 = w := by
  have nz : T3 a b c ≠ 0 := fun e => by
    rw [e, Int.mul_zero] at hH
    omega
  have t0 : tv a b c 0 = b := rfl
  have t1 : tv a b c 1 = c := rfl
  have t2 : tv a b c 2 = a := rfl
  have r1 := T3_rot a b c
  have r2 := T3_rot b c a
  have fz : ∀ o p q : Pt, Fdb o p q → T3 o p q = 0 := fun o p q h => by
    rcases h with w | w
    · rw [T3_rot]
      exact On_T w
    · exact On_T w
  have S : Smp A B (tv a b c) 3 := by
    refine ⟨Nat.le_refl _, fun i j hi hj e => ?_, fun i hi F => ?_, fun i j hi hj d1 d2 d3 => ?_⟩
    · match i, j, hi, hj with
      | 0, 0, _, _ => rfl
      | 1, 1, _, _ => rfl
      | 2, 2, _, _ => rfl
      | 0, 1, _, _ => exact absurd e h2
      | 1, 0, _, _ => exact absurd e h2.symm
      | 1, 2, _, _ => exact absurd e h3
      | 2, 1, _, _ => exact absurd e h3.symm
      | 0, 2, _, _ => exact absurd e h1.symm
      | 2, 0, _, _ => exact absurd e h1
    · have z := fz _ _ _ F
      rw [T3_3 (tv a b c) hi, t0, t1, t2] at z
      omega
    · match i, j, hi, hj with
      | 0, 0, _, _ => exact absurd rfl d1
      | 1, 1, _, _ => exact absurd rfl d1
      | 2, 2, _, _ => exact absurd rfl d1
      | 0, 1, _, _ => exact absurd rfl d2
      | 1, 0, _, _ => exact absurd rfl d3
      | 1, 2, _, _ => exact absurd rfl d2
      | 2, 1, _, _ => exact absurd rfl d3
      | 0, 2, _, _ => exact absurd rfl d3
      | 2, 0, _, _ => exact absurd rfl d2
  refine ⟨S, ?_⟩
  obtain ⟨i, hi, mi⟩ := top_ex A B (tv a b c) (show 0 < 3 by decide)
  rw [(mu_top S hi mi).1, T3_3 (tv a b c) hi, t0, t1, t2]
  rcases hw with e | e
  · rw [e, Int.one_mul] at hH
    rw [if_neg (by omega), e]
    rfl
  · rw [e, Int.neg_mul, Int.one_mul] at hH
    rw [if_pos (by omega), e]
    rfl
theorem tri_ge (hw : w = 1 ∨ w = -1) (hH : 0 < w * T3 a b c) (hB : B ≠ 0) (inj : ∀ p q, (p = a ∨ p = b ∨ p = c ∨ p = z) → (q = a ∨ q = b ∨ q = c ∨ q = z) → lv A B p = lv A B q → p = q) : 0 ≤ w * oT A B a b c z ∧ (0 < w * T3 a b z → 0 < w * T3 b c z → 0 < w * T3 c a z → oT A B a b c z = 2 * w) := by
  have nz : T3 a b c ≠ 0 := fun e => by
    rw [e, Int.mul_zero] at hH
    omega
  have n1 : lv A B a ≠ lv A B b := fun e => nz (by
    rw [inj a b (Or.inl rfl) (Or.inr (Or.inl rfl)) e]
    exact T3_aa _ _)
  have n2 : lv A B b ≠ lv A B c := fun e => nz (by
    rw [inj b c (Or.inr (Or.inl rfl)) (Or.inr (Or.inr (Or.inl rfl))) e]
    exact T3_bb _ _)
  have n3 : lv A B c ≠ lv A B a := fun e => nz (by
    rw [inj c a (Or.inr (Or.inr (Or.inl rfl))) (Or.inl rfl) e]
    exact T3_ba _ _)
  obtain ⟨S, hm⟩ := tri_Smp hw hH n1 n2 n3
  have mem : ∀ i, i < 3 → tv a b c i = a ∨ tv a b c i = b ∨ tv a b c i = c ∨ tv a b c i = z := fun i hi => by
    match i, hi with
    | 0, _ => exact Or.inr (Or.inl rfl)
    | 1, _ => exact Or.inr (Or.inr (Or.inl rfl))
    | 2, _ => exact Or.inl rfl
  have hz : ∀ i, i < 3 → lv A B z = lv A B (tv a b c i) → z = tv a b c i := fun i hi e => inj z _ (Or.inr (Or.inr (Or.inr rfl))) (mem i hi) e
  have o := om_val S hB hz hm
  rw [tv_oT] at o
  refine ⟨o.2.1, fun p1 p2 p3 => ?_⟩
  have za : z ≠ a := fun e => by
    rw [e, T3_ba, Int.mul_zero] at p1
    omega
  have zb : z ≠ b := fun e => by
    rw [e, T3_bb, Int.mul_zero] at p1
    omega
  have zc : z ≠ c := fun e => by
    rw [e, T3_bb, Int.mul_zero] at p2
    omega
  have ne : ∀ i, i < 3 → z ≠ tv a b c i := fun i hi => by
    match i, hi with
    | 0, _ => exact zb
    | 1, _ => exact zc
    | 2, _ => exact za
  have lz : ∀ i, i < 3 → lv A B z ≠ lv A B (tv a b c i) := fun i hi e => ne i hi (hz i hi e)
  have off : ∀ i, i < 3 → ¬ On (tv a b c i) (tv a b c (nxt 3 i)) z := fun i hi h => by
    have t := On_T h
    match i, hi with
    | 0, _ =>
      have t' : T3 b c z = 0 := t
      rw [t', Int.mul_zero] at p2
      omega
    | 1, _ =>
      have t' : T3 c a z = 0 := t
      rw [t', Int.mul_zero] at p3
      omega
    | 2, _ =>
      have t' : T3 a b z = 0 := t
      rw [t', Int.mul_zero] at p1
      omega
  have sm := off_same lz off
  rw [wN_c3, wN_c3] at sm
  have sm' : tS A B a b c z = tS (-A) (-B) a b c z := sm
  have tc := (Tcon_any hw hH (lz 2 (by decide)) (lz 0 (by decide)) (lz 1 (by decide))).2 ⟨by omega, by omega, by omega⟩
  have tc' : tS A B a b c z = w ∨ tS (-A) (-B) a b c z = w := tc
  unfold oT
  omega
end MTRI
