/-! Every simple row of corners has an ear away from any one edge -/
def upv (v : Nat → Pt) (k : Nat) : Nat → Pt := fun j => if j = 0 then v 0 else v (k - 1 + j)
section EARS
variable {A B w : Int} {a b c d o p q r x y z : Pt} {u v : Nat → Pt} {n i j k e : Nat}
theorem upv_0 : upv v k 0 = v 0 := if_pos rfl
theorem upv_s (h : j ≠ 0) : upv v k j = v (k - 1 + j) := if_neg h
/-- what is known of a stretch from corner 0 to corner k -/
def chd (v : Nat → Pt) (n k : Nat) : Prop := (∀ j, 1 ≤ j → j + 1 < n → j ≠ k → j + 1 ≠ k → ¬ Mt (v j) (v (j + 1)) (v 0) (v k)) ∧ T3 (v (n - 1)) (v 0) (v k) ≠ 0 ∧ T3 (v 0) (v 1) (v k) ≠ 0 ∧ ¬ Fdb (v (k - 1)) (v k) (v 0) ∧ ¬ Fdb (v 0) (v k) (v (k + 1))
theorem Smp1 (h : Smp A B v n) (hk : 2 ≤ k) (hk2 : k + 2 ≤ n) (hc : chd v n k) : Smp A B v (k + 1) := by
  obtain ⟨c1, c2, c3, c4, c5⟩ := hc
  have go : ∀ i j, i < j → j < k + 1 → nxt (k + 1) i ≠ j → nxt (k + 1) j ≠ i → ¬ Mt (v i) (v (nxt (k + 1) i)) (v j) (v (nxt (k + 1) j)) := fun i j hij hj e1 e2 => by
    rw [nxt_e (show i + 1 < k + 1 by omega)] at e1 ⊢
    by_cases c : j + 1 < k + 1
    · rw [nxt_e c]
      exact Smp_E h (by omega) (by omega)
    · rw [nxt_l (show j + 1 = k + 1 by omega)] at e2 ⊢
      rw [show j = k by omega] at e1 ⊢
      exact fun m => c1 i (by omega) (by omega) (by omega) (by omega) (Mt_r m)
  refine ⟨by omega, fun i j hi hj e => h.2.1 i j (by omega) (by omega) e, fun i hi w => ?_, fun i j hi hj e1 e2 e3 m => ?_⟩
  · by_cases c0 : i = 0
    · subst c0
      rw [prv_0, nxt_0 (by omega), show k + 1 - 1 = k by omega] at w
      rcases w with w | w
      · exact c3 (On_T w)
      · have := On_T w
        rw [T3_rot] at this
        exact c3 this
    · have ep : prv (k + 1) i = i - 1 := if_pos (by omega)
      by_cases c : i + 1 < k + 1
      · rw [nxt_e c, ep] at w
        have := Smp_F h (i := i - 1) (by omega)
        rw [show i - 1 + 1 = i by omega, show i - 1 + 2 = i + 1 by omega] at this
        exact this w
      · rw [nxt_l (by omega), ep, show i = k by omega] at w
        exact c4 w
  · rcases Nat.lt_or_gt_of_ne e1 with g | g
    · exact go i j g hj e2 e3 m
    · exact go j i g hi e3 e2 (Mt_tw m)
theorem Smp2 (h : Smp A B v n) (hk : 2 ≤ k) (hk2 : k + 2 ≤ n) (hc : chd v n k) : Smp A B (upv v k) (n - k + 1) := by
  obtain ⟨c1, c2, c3, c4, c5⟩ := hc
  have go : ∀ i j, i < j → j < n - k + 1 → nxt (n - k + 1) i ≠ j → nxt (n - k + 1) j ≠ i → ¬ Mt (upv v k i) (upv v k (nxt (n - k + 1) i)) (upv v k j) (upv v k (nxt (n - k + 1) j)) := fun i j hij hj e1 e2 => by
    rw [nxt_e (show i + 1 < n - k + 1 by omega)] at e1 ⊢
    by_cases c0 : i = 0
    · subst c0
      by_cases c : j + 1 < n - k + 1
      · rw [nxt_e c, upv_0, upv_s (by omega), upv_s (show j ≠ 0 by omega), upv_s (show j + 1 ≠ 0 by omega), show k - 1 + (0 + 1) = k by omega, show k - 1 + (j + 1) = k - 1 + j + 1 by omega]
        exact fun m => c1 (k - 1 + j) (by omega) (by omega) (by omega) (by omega) (Mt_tw m)
      · rw [nxt_l (by omega)] at e2
        exact absurd rfl e2
    · rw [upv_s c0, upv_s (show i + 1 ≠ 0 by omega), upv_s (show j ≠ 0 by omega), show k - 1 + (i + 1) = k - 1 + i + 1 by omega]
      by_cases c : j + 1 < n - k + 1
      · rw [nxt_e c, upv_s (show j + 1 ≠ 0 by omega), show k - 1 + (j + 1) = k - 1 + j + 1 by omega]
        exact Smp_E h (by omega) (by omega)
      · rw [nxt_l (by omega), upv_0, show k - 1 + j = n - 1 by omega]
        exact Smp_L h (by omega) (by omega)
  refine ⟨by omega, fun i j hi hj e => ?_, fun i hi w => ?_, fun i j hi hj e1 e2 e3 m => ?_⟩
  · unfold upv at e
    split at e <;> split at e <;> have := h.2.1 _ _ (by omega) (by omega) e <;> omega
  · by_cases c0 : i = 0
    · subst c0
      rw [prv_0, nxt_0 (by omega), upv_0, upv_s (by omega), upv_s (by omega), show k - 1 + (n - k + 1 - 1) = n - 1 by omega, show k - 1 + 1 = k by omega] at w
      rcases w with w | w
      · have := On_T w
        rw [← T3_rot] at this
        exact c2 this
      · exact c2 (On_T w)
    · have ep : prv (n - k + 1) i = i - 1 := if_pos (by omega)
      rw [ep, upv_s c0] at w
      by_cases c1' : i = 1
      · rw [c1', nxt_e (by omega), show 1 - 1 = 0 by omega, upv_0, upv_s (by omega), show k - 1 + 1 = k by omega, show k - 1 + (1 + 1) = k + 1 by omega] at w
        exact c5 w
      · rw [upv_s (show i - 1 ≠ 0 by omega)] at w
        by_cases c : i + 1 < n - k + 1
        · rw [nxt_e c, upv_s (by omega)] at w
          have := Smp_F h (i := k - 1 + (i - 1)) (by omega)
          rw [show k - 1 + (i - 1) + 1 = k - 1 + i by omega, show k - 1 + (i - 1) + 2 = k - 1 + (i + 1) by omega] at this
          exact this w
        · rw [nxt_l (by omega), upv_0] at w
          have := h.2.2.1 (n - 1) (by omega)
          rw [nxt_l (by omega), show prv n (n - 1) = n - 1 - 1 from if_pos (by omega)] at this
          rw [show k - 1 + (i - 1) = n - 1 - 1 by omega, show k - 1 + i = n - 1 by omega] at w
          exact this w
  · rcases Nat.lt_or_gt_of_ne e1 with g | g
    · exact go i j g hj e2 e3 m
    · exact go j i g hi e3 e2 (Mt_tw m)
theorem sumN_app (f : Nat → Int) (k : Nat) : ∀ m, sumN f (k + m) = sumN f k + sumN (fun i => f (k + i)) m
  | 0 => by
    show sumN f k = sumN f k + 0
    omega
  | m + 1 => by
    have := sumN_app f k m
    show sumN f (k + m) + f (k + m) = sumN f k + (sumN (fun i => f (k + i)) m + f (k + m))
    omega
theorem wN_part (hk : 1 ≤ k) (hk2 : k + 1 ≤ n) (z : Pt) : wN A B v n z = wN A B v (k + 1) z + wN A B (upv v k) (n - k + 1) z := by
  obtain ⟨m, rfl⟩ : ∃ m, n = k + m := ⟨n - k, by omega⟩
  rw [show k + m - k + 1 = m + 1 by omega]
  have e1 := sumN_app (fun i => cS A B (v i) (v (nxt (k + m) i)) z) k m
  have e2 : wN A B v (k + 1) z = sumN (fun i => cS A B (v i) (v (nxt (k + 1) i)) z) k + cS A B (v k) (v (nxt (k + 1) k)) z := rfl
  have e3 := sumN_f (fun i => cS A B (upv v k i) (upv v k (nxt (m + 1) i)) z) m
  have e4 : sumN (fun i => cS A B (v i) (v (nxt (k + 1) i)) z) k = sumN (fun i => cS A B (v i) (v (nxt (k + m) i)) z) k := sumN_cg k fun i hi => by
    rw [nxt_e (show i + 1 < k + 1 by omega), nxt_e (show i + 1 < k + m by omega)]
  have e5 : sumN (fun i => cS A B (upv v k (i + 1)) (upv v k (nxt (m + 1) (i + 1))) z) m = sumN (fun i => cS A B (v (k + i)) (v (nxt (k + m) (k + i))) z) m := sumN_cg m fun i hi => by
    rw [upv_s (show i + 1 ≠ 0 by omega), show k - 1 + (i + 1) = k + i by omega]
    by_cases c : i + 1 < m
    · rw [nxt_e (show i + 1 + 1 < m + 1 by omega), nxt_e (show k + i + 1 < k + m by omega), upv_s (show i + 1 + 1 ≠ 0 by omega), show k - 1 + (i + 1 + 1) = k + i + 1 by omega]
    · rw [nxt_l (show i + 1 + 1 = m + 1 by omega), nxt_l (show k + i + 1 = k + m by omega), upv_0]
  have e6 : cS A B (upv v k 0) (upv v k (nxt (m + 1) 0)) z = cS A B (v 0) (v k) z := by
    rw [nxt_0 (by omega), upv_0, upv_s (by omega), show k - 1 + 1 = k by omega]
  have e7 := cS_rev A B (v 0) (v k) z
  rw [nxt_l rfl] at e2
  have e8 : wN A B v (k + m) z = sumN (fun i => cS A B (v i) (v (nxt (k + m) i)) z) (k + m) := rfl
  have e9 : wN A B (upv v k) (m + 1) z = sumN (fun i => cS A B (upv v k i) (upv v k (nxt (m + 1) i)) z) (m + 1) := rfl
  omega
/-- a stretch from a highest corner is such a stretch -/
theorem chd_ex (h : Smp A B v n) (h4 : 4 ≤ n) (ht : ∀ j, j < n → lv A B (v j) ≤ lv A B (v 0)) (hw : w = 1 ∨ w = -1) (hH : 0 < w * T3 (v (n - 1)) (v 0) (v 1)) (hk : 2 ≤ k) (hk2 : k + 2 ≤ n) (hz : Tri w (v (n - 1)) (v 0) (v 1) (v k)) (hm : ∀ j, 2 ≤ j → j + 2 ≤ n → Tri w (v (n - 1)) (v 0) (v 1) (v j) → w * T3 (v 1) (v (n - 1)) (v j) ≤ w * T3 (v 1) (v (n - 1)) (v k)) : chd v n k ∧ 0 < w * T3 (v (n - 1)) (v 0) (v k) ∧ 0 < w * T3 (v 0) (v 1) (v k) := by
  have lne : ∀ {i j : Nat}, i < n → j < n → i ≠ j → lv A B (v i) ≠ lv A B (v j) := fun hi hj e => Smp_lv h hi hj e
  have lt0 : ∀ {j : Nat}, j < n → j ≠ 0 → lv A B (v j) < lv A B (v 0) := fun {j} hj e => by
    have := ht j hj
    have := lne hj (show 0 < n by omega) e
    omega
  have hA : 0 < w * T3 (v (n - 1)) (v 0) (v k) := by
    refine Classical.byContradiction fun g => ?_
    have e := w_zero hw (show w * T3 (v (n - 1)) (v 0) (v k) = 0 by have := hz.1; omega)
    have on := tri_edge hw hH hz e (lne (by omega) (by omega) (by omega))
    have := Smp_L h (i := k - 1) (by omega) (by omega)
    rw [show k - 1 + 1 = k by omega] at this
    exact this (Or.inr (Or.inr (Or.inr (Or.inr on))))
  have hC : 0 < w * T3 (v 0) (v 1) (v k) := by
    refine Classical.byContradiction fun g => ?_
    have e := w_zero hw (show w * T3 (v 0) (v 1) (v k) = 0 by have := hz.2.1; omega)
    have on := tri_edge hw (by rw [← T3_rot]; exact hH) (Tri_rot.mpr hz) e (lne (i := 0) (j := 1) (by omega) (by omega) (by omega))
    exact Smp_E h (i := 0) (j := k) (by omega) (by omega) (Or.inr (Or.inl on))
  have za : w * T3 (v 1) (v (n - 1)) (v (n - 1)) = 0 := by rw [T3_bb, Int.mul_zero]
  have zc : w * T3 (v 1) (v (n - 1)) (v 1) = 0 := by rw [T3_ba, Int.mul_zero]
  have tm : ∀ j, 1 ≤ j → j < n → Tri w (v (n - 1)) (v 0) (v 1) (v j) → w * T3 (v 1) (v (n - 1)) (v j) ≤ w * T3 (v 1) (v (n - 1)) (v k) := fun j h1 h2 t => by
    have := hz.2.2
    by_cases c1 : j = 1
    · rw [c1]
      omega
    · by_cases c2 : j = n - 1
      · rw [c2]
        omega
      · exact hm j (by omega) (by omega) t
  have nA : T3 (v (n - 1)) (v 0) (v k) ≠ 0 := fun e => by
    rw [e, Int.mul_zero] at hA
    exact Int.lt_irrefl _ hA
  have nC : T3 (v 0) (v 1) (v k) ≠ 0 := fun e => by
    rw [e, Int.mul_zero] at hC
    exact Int.lt_irrefl _ hC
  have sz : w * T3 (v (n - 1)) (v 0) (v k) + w * T3 (v 0) (v 1) (v k) + w * T3 (v 1) (v (n - 1)) (v k) = w * T3 (v (n - 1)) (v 0) (v 1) := by
    rw [← Int.mul_add, ← Int.mul_add, id_s]
  have lk := lt0 (show k < n by omega) (by omega)
  have far : ∀ j, 1 ≤ j → j < n → j ≠ k → ¬ On (v 0) (v k) (v j) := fun j h1 h2 e on => by
    have l := on_lv (On_sym on) lk
    have t := On_T (On_sym on)
    have lj := lne h2 (show k < n by omega) e
    have lj0 := lt0 h2 (by omega)
    have mk : ∀ p q : Pt, (lv A B (v 0) - lv A B (v k)) * (w * T3 p q (v j)) = (lv A B (v 0) - lv A B (v j)) * (w * T3 p q (v k)) + (lv A B (v j) - lv A B (v k)) * (w * T3 p q (v 0)) := fun p q => by
      have := id_af A B p q (v k) (v 0) (v j)
      rw [t, Int.mul_zero, Int.add_zero] at this
      rw [Int.mul_left_comm, this, Int.mul_add, Int.mul_left_comm, Int.mul_left_comm w]
    have k1 := mk (v (n - 1)) (v 0)
    have k2 := mk (v 0) (v 1)
    have k3 := mk (v 1) (v (n - 1))
    rw [T3_bb, Int.mul_zero, Int.mul_zero, Int.add_zero] at k1
    rw [T3_ba, Int.mul_zero, Int.mul_zero, Int.add_zero] at k2
    rw [show T3 (v 1) (v (n - 1)) (v 0) = T3 (v (n - 1)) (v 0) (v 1) by rw [T3_rot]] at k3
    have p0 : 0 < lv A B (v 0) - lv A B (v k) := by omega
    have g1 : 0 ≤ w * T3 (v (n - 1)) (v 0) (v j) := nn_of p0 (by rw [k1]; exact Int.mul_nonneg (by omega) (Int.le_of_lt hA))
    have g2 : 0 ≤ w * T3 (v 0) (v 1) (v j) := nn_of p0 (by rw [k2]; exact Int.mul_nonneg (by omega) (Int.le_of_lt hC))
    have g3 : 0 < (lv A B (v 0) - lv A B (v k)) * (w * T3 (v 1) (v (n - 1)) (v j) - w * T3 (v 1) (v (n - 1)) (v k)) := by
      have e : (lv A B (v 0) - lv A B (v k)) * (w * T3 (v 1) (v (n - 1)) (v j) - w * T3 (v 1) (v (n - 1)) (v k)) = (lv A B (v j) - lv A B (v k)) * (w * T3 (v (n - 1)) (v 0) (v 1) - w * T3 (v 1) (v (n - 1)) (v k)) := by
        rw [Int.mul_sub, k3]
        grind
      rw [e]
      exact Int.mul_pos (by omega) (by omega)
    have g4 := pos_of p0 g3
    have g5 := hz.2.2
    have := tm j h1 h2 ⟨g1, g2, by omega⟩
    omega
  have noz : ∀ j, 1 ≤ j → j + 1 < n → j ≠ k → j + 1 ≠ k → ¬ On (v j) (v (j + 1)) (v k) := fun j h1 h2 e1 e2 on => by
    by_cases c : j < k
    · exact Smp_E h (i := j) (j := k) (by omega) (by omega) (Or.inr (Or.inl on))
    · have := Smp_E h (i := k - 1) (j := j) (by omega) (by omega)
      rw [show k - 1 + 1 = k by omega] at this
      exact this (Or.inr (Or.inr (Or.inr (Or.inr on))))
  have nob : ∀ j, 1 ≤ j → j + 1 < n → ¬ On (v j) (v (j + 1)) (v 0) := fun j h1 h2 on => by
    have l1 := lt0 (show j < n by omega) (by omega)
    have l2 := lt0 h2 (by omega)
    rcases Int.lt_or_gt_of_ne (lne (show j < n by omega) h2 (by omega)) with g | g
    · have := on_lv on g
      omega
    · have := on_lv (On_sym on) g
      omega
  refine ⟨⟨fun j h1 h2 e1 e2 => ?_, nA, nC, ?_, ?_⟩, hA, hC⟩
  · refine chord_free hw hH hA hC hz.2.2 (lne (by omega) h2 (by omega)) (lt0 (by omega) (by omega)) (lt0 h2 (by omega)) lk (lne (by omega) (by omega) e1) (lne h2 (by omega) e2) (tm j h1 (by omega)) (tm (j + 1) (by omega) h2) ?_ ?_ (noz j h1 h2 e1 e2)
    · intro m
      by_cases c : j + 2 < n
      · exact absurd (Mt_tw m) (Smp_L h (by omega) c)
      · exact Or.inr (by rw [show j + 1 = n - 1 by omega])
    · intro m
      by_cases c : j = 1
      · exact Or.inl (by rw [c])
      · exact absurd m (Smp_E h (i := 0) (by omega) h2)
  · rintro (on | on)
    · by_cases c : k - 1 = 1
      · have := On_T on
        rw [c, ← T3_rot, ← T3_rot] at this
        rw [T3_ba'] at this
        apply nC
        have e2 : T3 (v 0) (v 1) (v k) = - T3 (v 0) (v k) (v 1) := T3_swap _ _ _
        have e3 : T3 (v 0) (v k) (v 1) = T3 (v k) (v 1) (v 0) := T3_rot _ _ _
        have e4 : T3 (v k) (v 1) (v 0) = T3 (v 1) (v 0) (v k) := T3_rot _ _ _
        have e5 : T3 (v 1) (v 0) (v k) = - T3 (v 0) (v 1) (v k) := T3_ba' _ _ _
        omega
      · exact far (k - 1) (by omega) (by omega) (by omega) (On_sym on)
    · have := nob (k - 1) (by omega) (by omega)
      rw [show k - 1 + 1 = k by omega] at this
      exact this on
  · rintro (on | on)
    · exact nob k (by omega) (by omega) on
    · exact far (k + 1) (by omega) (by omega) (by omega) on
end EARS

