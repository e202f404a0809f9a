/-! Rows of corners from another corner on, and with one left out -/
def rt (n : Nat) (v : Nat → Pt) : Nat → Pt := fun i => v (nxt n i)
def ers (v : Nat → Pt) (e : Nat) : Nat → Pt := fun k => if k < e then v k else v (k + 1)
def tS (A B : Int) (a b c z : Pt) : Int := cS A B a b z + cS A B b c z + cS A B c a z
section TURN
variable {A B w : Int} {a b c d o p q r x y z : Pt} {u v : Nat → Pt} {n i j e : Nat}
theorem nxt_e {n i : Nat} (h : i + 1 < n) : nxt n i = i + 1 := if_pos h
theorem nxt_l {n i : Nat} (h : i + 1 = n) : nxt n i = 0 := if_neg (by omega)
theorem prv_e {n i : Nat} : prv n (i + 1) = i := if_pos (by omega)
theorem prv_0 {n : Nat} : prv n 0 = n - 1 := if_neg (by omega)
theorem Smp_E (h : Smp A B v n) (h1 : i + 1 < j) (h2 : j + 1 < n) : ¬ Mt (v i) (v (i + 1)) (v j) (v (j + 1)) := by
  have := h.2.2.2 i j (by omega) (by omega) (by omega)
  rw [nxt_e (by omega), nxt_e h2] at this
  exact this (by omega) (by omega)
theorem Smp_L (h : Smp A B v n) (h1 : 0 < i) (h2 : i + 2 < n) : ¬ Mt (v i) (v (i + 1)) (v (n - 1)) (v 0) := by
  have := h.2.2.2 i (n - 1) (by omega) (by omega) (by omega)
  rw [nxt_e (by omega), nxt_l (by omega)] at this
  exact this (by omega) (by omega)
theorem Smp_F (h : Smp A B v n) (h2 : i + 2 < n) : ¬ Fdb (v i) (v (i + 1)) (v (i + 2)) := by
  have := h.2.2.1 (i + 1) (by omega)
  rw [prv_e, nxt_e (by omega)] at this
  exact this
theorem Smp_cg (h : Smp A B v n) (e : ∀ i, i < n → u i = v i) : Smp A B u n := by
  refine ⟨h.1, fun i j hi hj g => ?_, fun i hi => ?_, fun i j hi hj => ?_⟩
  · rw [e i hi, e j hj] at g
    exact h.2.1 i j hi hj g
  · rw [e i hi, e _ (prv_lt hi), e _ (nxt_lt hi)]
    exact h.2.2.1 i hi
  · rw [e i hi, e _ (nxt_lt hi), e j hj, e _ (nxt_lt hj)]
    exact h.2.2.2 i j hi hj
theorem Smp_neg (h : Smp A B v n) : Smp (-A) (-B) v n := by
  refine ⟨h.1, fun i j hi hj g => ?_, h.2.2⟩
  rw [lv_neg, lv_neg] at g
  exact h.2.1 i j hi hj (by omega)
theorem Smp_rt (h : Smp A B v n) : Smp A B (rt n v) n := by
  refine ⟨h.1, fun i j hi hj g => nxt_inj hi hj (h.2.1 _ _ (nxt_lt hi) (nxt_lt hj) g), fun i hi => ?_, fun i j hi hj e1 e2 e3 => h.2.2.2 _ _ (nxt_lt hi) (nxt_lt hj) (fun g => e1 (nxt_inj hi hj g)) (fun g => e2 (nxt_inj (nxt_lt hi) hj g)) (fun g => e3 (nxt_inj (nxt_lt hj) hi g))⟩
  have := h.2.2.1 _ (nxt_lt hi)
  unfold rt
  rw [nxt_prv hi]
  rw [prv_nxt hi] at this
  exact this
theorem rt_p (hi : i < n) : rt n v (prv n i) = v i := by
  unfold rt
  rw [nxt_prv hi]
theorem prv_inj {n i j : Nat} (hi : i < n) (hj : j < n) (h : prv n i = prv n j) : i = j := by
  rw [← nxt_prv hi, ← nxt_prv hj, h]
theorem Smp_urt (h : Smp A B (rt n v) n) : Smp A B v n := by
  refine ⟨h.1, fun i j hi hj g => ?_, fun i hi => ?_, fun i j hi hj e1 e2 e3 => ?_⟩
  · refine prv_inj hi hj (h.2.1 _ _ (prv_lt hi) (prv_lt hj) ?_)
    rw [rt_p hi, rt_p hj]
    exact g
  · have := h.2.2.1 _ (prv_lt hi)
    rw [rt_p (prv_lt hi), rt_p hi, nxt_prv hi] at this
    exact this
  · have := h.2.2.2 _ _ (prv_lt hi) (prv_lt hj) (fun g => e1 (prv_inj hi hj g)) (fun g => e2 (by rw [nxt_prv hi] at g; rw [g, nxt_prv hj])) (fun g => e3 (by rw [nxt_prv hj] at g; rw [g, nxt_prv hi]))
    rw [rt_p hi, rt_p hj, nxt_prv hi, nxt_prv hj] at this
    exact this
theorem wN_cg (e : ∀ i, i < n → u i = v i) (z : Pt) : wN A B u n z = wN A B v n z := by
  unfold wN
  refine sumN_cg n fun i hi => ?_
  rw [e i hi, e _ (nxt_lt hi)]
theorem wN_rt (z : Pt) : wN A B (rt n v) n z = wN A B v n z := by
  have := ring_sum (fun i => cS A B (v i) (v (nxt n i)) z) n
  rw [sumN_sb (fun i => cS A B (v (nxt n i)) (v (nxt n (nxt n i))) z)] at this
  have e : wN A B (rt n v) n z = sumN (fun i => cS A B (v (nxt n i)) (v (nxt n (nxt n i))) z) n := rfl
  have e2 : wN A B v n z = sumN (fun i => cS A B (v i) (v (nxt n i)) z) n := rfl
  omega
theorem mu_cg (hn : 0 < n) (e : ∀ i, i < n → u i = v i) : mu A B u n = mu A B v n := by
  unfold mu
  rw [wN_cg e, e 0 hn, e _ (prv_lt hn), e _ (nxt_lt hn)]
theorem mu_rt (h : Smp A B v n) : mu A B (rt n v) n = mu A B v n := by
  have hn : 0 < n := by have := h.1; omega
  have e := Smp_at h (nxt_lt hn)
  unfold mu at e ⊢
  rw [wN_rt, rt_p hn]
  rw [prv_nxt hn] at e
  unfold rt
  omega
theorem mu_neg (h : Smp A B v n) : mu (-A) (-B) v n = mu A B v n := by
  have h3 := h.1
  obtain ⟨i, hi, ht⟩ := top_ex A B v (show 0 < n by omega)
  have e1 := (mu_top h hi ht).1
  have e2 := Smp_at (Smp_neg h) hi
  have z : wN (-A) (-B) v n (v i) = 0 := sumN_z n fun j hj => by
    have g1 := ht j hj
    have g2 := ht _ (nxt_lt hj)
    have k1 : j ≠ i → lv A B (v j) ≠ lv A B (v i) := fun g => Smp_lv h hj hi g
    have k2 : nxt n j ≠ i → lv A B (v (nxt n j)) ≠ lv A B (v i) := fun g => Smp_lv h (nxt_lt hj) hi g
    by_cases c1 : j = i
    · subst c1
      exact cS_a _ _ _ _
    · by_cases c2 : nxt n j = i
      · rw [c2]
        exact cS_b _ _ _ _
      · have k1 := k1 c1
        have k2 := k2 c2
        unfold cS
        rw [lv_neg, lv_neg, lv_neg, if_neg (by omega), if_neg (by omega)]
  have t1 := ht _ (prv_lt hi)
  have t2 := ht _ (nxt_lt hi)
  have l1 := Smp_lv h (prv_lt hi) hi (prv_ne (by omega) hi)
  have l2 := Smp_lv h (nxt_lt hi) hi (nxt_ne (by omega) hi)
  rw [z] at e2
  unfold sS at e2
  rw [lv_neg, lv_neg, lv_neg] at e2
  split at e1 <;> split at e2 <;> omega
theorem Ear_rt (hi : i < n) : Ear (rt n v) n w i ↔ Ear v n w (nxt n i) := by
  have hn := nxt_lt hi
  unfold Ear
  rw [rt_p hi, prv_nxt hi]
  constructor
  · rintro ⟨h1, h2⟩
    refine ⟨h1, fun j hj e1 e2 e3 => ?_⟩
    have := h2 _ (prv_lt hj) (fun g => e1 (prv_inj hj hi g)) (fun g => e2 (by rw [← g, nxt_prv hj])) (fun g => e3 (by rw [← g, nxt_prv hj]))
    rw [rt_p hj] at this
    exact this
  · rintro ⟨h1, h2⟩
    exact ⟨h1, fun j hj e1 e2 e3 => h2 _ (nxt_lt hj) (fun g => e1 (by rw [← g, prv_nxt hj])) (fun g => e2 (nxt_inj hj hi g)) (fun g => e3 (nxt_inj hj hn g))⟩
/-! triangles -/
theorem id_l (A B : Int) (a b c x : Pt) : T3 b c x * (lv A B a - lv A B x) + T3 c a x * (lv A B b - lv A B x) + T3 a b x * (lv A B c - lv A B x) = 0 := by
  obtain ⟨ax, ay⟩ := a
  obtain ⟨bx, b2⟩ := b
  obtain ⟨cx, cy⟩ := c
  obtain ⟨xx, xy⟩ := x
  simp only [T3, tw, lv]
  grind
def Tcon (A B w : Int) (a b c x : Pt) : Prop := (¬ Tri w a b c x → tS A B a b c x = 0 ∧ tS (-A) (-B) a b c x = 0) ∧ (Tri w a b c x → tS A B a b c x = w ∨ tS (-A) (-B) a b c x = w)
theorem tS_rot (A B : Int) (a b c z : Pt) : tS A B b c a z = tS A B a b c z := by
  unfold tS
  omega
theorem Tri_rot : Tri w b c a x ↔ Tri w a b c x := ⟨fun h => ⟨h.2.2, h.1, h.2.1⟩, fun h => ⟨h.2.1, h.2.2, h.1⟩⟩
theorem Tcon_rot (h : Tcon A B w b c a x) : Tcon A B w a b c x := by
  unfold Tcon at h ⊢
  rw [tS_rot A B a b c x, tS_rot (-A) (-B) a b c x, Tri_rot] at h
  exact h
theorem Tcon_neg (h : Tcon (-A) (-B) w a b c x) : Tcon A B w a b c x := by
  unfold Tcon at h ⊢
  rw [Int.neg_neg, Int.neg_neg] at h
  exact ⟨fun g => ⟨(h.1 g).2, (h.1 g).1⟩, fun g => (h.2 g).symm⟩
theorem Tcon_c (hw : w = 1 ∨ w = -1) (hH : 0 < w * T3 a b c) (g1 : lv A B a < lv A B x) (g2 : lv A B b < lv A B x) (g3 : lv A B x < lv A B c) : Tcon A B w a b c x := by
  have e := id_l A B a b c x
  have s := id_s a b c x
  unfold Tcon tS cS Tri
  rw [← s] at hH
  rw [lv_neg, lv_neg, lv_neg, lv_neg]
  generalize T3 a b x = P at *
  generalize T3 b c x = Q at *
  generalize T3 c a x = R at *
  generalize lv A B a = la at *
  generalize lv A B b = lb at *
  generalize lv A B c = lc at *
  generalize lv A B x = lx at *
  have f1 : 0 ≤ Q → 0 ≤ R → (0 < Q ∨ 0 < R) → 0 < P := fun h1 h2 h3 => by
    have t1 := Int.mul_nonpos_of_nonneg_of_nonpos h1 (show la - lx ≤ 0 by omega)
    have t2 := Int.mul_nonpos_of_nonneg_of_nonpos h2 (show lb - lx ≤ 0 by omega)
    have t3 : 0 < P * (lc - lx) := by
      rcases h3 with h3 | h3
      · have := Int.mul_neg_of_pos_of_neg h3 (show la - lx < 0 by omega)
        omega
      · have := Int.mul_neg_of_pos_of_neg h3 (show lb - lx < 0 by omega)
        omega
    rw [Int.mul_comm] at t3
    exact ps_of (by omega) t3
  have f2 : Q ≤ 0 → R ≤ 0 → (Q < 0 ∨ R < 0) → P < 0 := fun h1 h2 h3 => by
    have t1 := Int.mul_nonneg_of_nonpos_of_nonpos h1 (show la - lx ≤ 0 by omega)
    have t2 := Int.mul_nonneg_of_nonpos_of_nonpos h2 (show lb - lx ≤ 0 by omega)
    have t3 : P * (lc - lx) < 0 := by
      rcases h3 with h3 | h3
      · have := Int.mul_pos_of_neg_of_neg h3 (show la - lx < 0 by omega)
        omega
      · have := Int.mul_pos_of_neg_of_neg h3 (show lb - lx < 0 by omega)
        omega
    rw [Int.mul_comm] at t3
    exact ng_of (show 0 ≤ lc - lx by omega) t3
  have f3 : Q = 0 → R = 0 → P = 0 := fun h1 h2 => by
    rw [h1, h2, Int.zero_mul, Int.zero_mul, Int.zero_add, Int.zero_add, Int.mul_comm] at e
    exact zero_of (by omega) e
  clear e s
  have x1 : (if la ≤ lx ∧ lx < lb ∧ 0 < P then (1 : Int) else if lb ≤ lx ∧ lx < la ∧ P < 0 then -1 else 0) = 0 := by rw [if_neg (by omega), if_neg (by omega)]
  have x2 : (if lb ≤ lx ∧ lx < lc ∧ 0 < Q then (1 : Int) else if lc ≤ lx ∧ lx < lb ∧ Q < 0 then -1 else 0) = if 0 < Q then 1 else 0 := by
    by_cases k : 0 < Q
    · rw [if_pos ⟨by omega, g3, k⟩, if_pos k]
    · rw [if_neg (fun g => k g.2.2), if_neg (by omega), if_neg k]
  have x3 : (if lc ≤ lx ∧ lx < la ∧ 0 < R then (1 : Int) else if la ≤ lx ∧ lx < lc ∧ R < 0 then -1 else 0) = if R < 0 then -1 else 0 := by
    by_cases k : R < 0
    · rw [if_neg (by omega), if_pos ⟨by omega, g3, k⟩, if_pos k]
    · rw [if_neg (by omega), if_neg (fun g => k g.2.2), if_neg k]
  have y1 : (if -la ≤ -lx ∧ -lx < -lb ∧ 0 < P then (1 : Int) else if -lb ≤ -lx ∧ -lx < -la ∧ P < 0 then -1 else 0) = 0 := by rw [if_neg (by omega), if_neg (by omega)]
  have y2 : (if -lb ≤ -lx ∧ -lx < -lc ∧ 0 < Q then (1 : Int) else if -lc ≤ -lx ∧ -lx < -lb ∧ Q < 0 then -1 else 0) = if Q < 0 then -1 else 0 := by
    by_cases k : Q < 0
    · rw [if_neg (by omega), if_pos ⟨by omega, by omega, k⟩, if_pos k]
    · rw [if_neg (by omega), if_neg (fun g => k g.2.2), if_neg k]
  have y3 : (if -lc ≤ -lx ∧ -lx < -la ∧ 0 < R then (1 : Int) else if -la ≤ -lx ∧ -lx < -lc ∧ R < 0 then -1 else 0) = if 0 < R then 1 else 0 := by
    by_cases k : 0 < R
    · rw [if_pos ⟨by omega, by omega, k⟩, if_pos k]
    · rw [if_neg (fun g => k g.2.2), if_neg (by omega), if_neg k]
  rw [x1, x2, x3, y1, y2, y3]
  clear x1 x2 x3 y1 y2 y3 g1 g2 g3
  rcases hw with rfl | rfl
  · rw [Int.one_mul] at hH
    rw [Int.one_mul, Int.one_mul, Int.one_mul]
    constructor
    · intro g
      have k1 : ¬ (0 ≤ Q ∧ 0 ≤ R ∧ (0 < Q ∨ 0 < R)) := fun k => g ⟨Int.le_of_lt (f1 k.1 k.2.1 k.2.2), k.1, k.2.1⟩
      have k2 : ¬ (Q ≤ 0 ∧ R ≤ 0 ∧ (Q < 0 ∨ R < 0)) := fun k => by
        have := f2 k.1 k.2.1 k.2.2
        omega
      constructor <;> split <;> split <;> omega
    · rintro ⟨g1, g2, g3⟩
      by_cases k : 0 < Q
      · left
        rw [if_pos k, if_neg (by omega)]
        rfl
      · right
        have r : 0 < R := Classical.byContradiction fun r => by
          have := f3 (by omega) (by omega)
          omega
        rw [if_neg (by omega), if_pos r]
        rfl
  · rw [Int.neg_mul, Int.one_mul] at hH
    rw [Int.neg_mul, Int.neg_mul, Int.neg_mul, Int.one_mul, Int.one_mul, Int.one_mul]
    constructor
    · intro g
      have k1 : ¬ (Q ≤ 0 ∧ R ≤ 0 ∧ (Q < 0 ∨ R < 0)) := fun k => g ⟨by have := f2 k.1 k.2.1 k.2.2; omega, by omega, by omega⟩
      have k2 : ¬ (0 ≤ Q ∧ 0 ≤ R ∧ (0 < Q ∨ 0 < R)) := fun k => by
        have := f1 k.1 k.2.1 k.2.2
        omega
      constructor <;> split <;> split <;> omega
    · rintro ⟨g1, g2, g3⟩
      by_cases k : R < 0
      · left
        rw [if_neg (by omega), if_pos k]
        rfl
      · right
        have r : Q < 0 := Classical.byContradiction fun r => by
          have := f3 (by omega) (by omega)
          omega
        rw [if_pos r, if_neg (by omega)]
        rfl
theorem Tcon_all (hw : w = 1 ∨ w = -1) (hH : 0 < w * T3 a b c) (g : lv A B a < lv A B x ∧ lv A B b < lv A B x ∧ lv A B c < lv A B x) : Tcon A B w a b c x := by
  have e := id_l A B a b c x
  have s := id_s a b c x
  have no : ¬ Tri w a b c x := fun ⟨h1, h2, h3⟩ => by
    have s2 : w * T3 a b x + w * T3 b c x + w * T3 c a x = w * T3 a b c := by
      rw [← Int.mul_add, ← Int.mul_add, s]
    have e2 : (w * T3 b c x) * (lv A B a - lv A B x) + (w * T3 c a x) * (lv A B b - lv A B x) + (w * T3 a b x) * (lv A B c - lv A B x) = 0 := by
      rw [Int.mul_assoc, Int.mul_assoc, Int.mul_assoc, ← Int.mul_add, ← Int.mul_add, e, Int.mul_zero]
    generalize w * T3 a b x = P at *
    generalize w * T3 b c x = Q at *
    generalize w * T3 c a x = R at *
    have t1 := Int.mul_nonpos_of_nonneg_of_nonpos h2 (show lv A B a - lv A B x ≤ 0 by omega)
    have t2 := Int.mul_nonpos_of_nonneg_of_nonpos h3 (show lv A B b - lv A B x ≤ 0 by omega)
    have t3 := Int.mul_nonpos_of_nonneg_of_nonpos h1 (show lv A B c - lv A B x ≤ 0 by omega)
    have z1 : Q = 0 := zero_of (k := lv A B x - lv A B a) (by omega) (by
      have : (lv A B x - lv A B a) * Q = -(Q * (lv A B a - lv A B x)) := by grind
      omega)
    have z2 : R = 0 := zero_of (k := lv A B x - lv A B b) (by omega) (by
      have : (lv A B x - lv A B b) * R = -(R * (lv A B b - lv A B x)) := by grind
      omega)
    have z3 : P = 0 := zero_of (k := lv A B x - lv A B c) (by omega) (by
      have : (lv A B x - lv A B c) * P = -(P * (lv A B c - lv A B x)) := by grind
      omega)
    omega
  refine ⟨fun _ => ?_, fun h => absurd h no⟩
  unfold tS cS
  rw [lv_neg, lv_neg, lv_neg, lv_neg]
  constructor <;> rw [if_neg (by omega), if_neg (by omega), if_neg (by omega), if_neg (by omega), if_neg (by omega), if_neg (by omega)] <;> rfl
theorem Tcon_any (hw : w = 1 ∨ w = -1) (hH : 0 < w * T3 a b c) (h1 : lv A B x ≠ lv A B a) (h2 : lv A B x ≠ lv A B b) (h3 : lv A B x ≠ lv A B c) : Tcon A B w a b c x := by
  have H2 : 0 < w * T3 b c a := by rw [← T3_rot]; exact hH
  have H3 : 0 < w * T3 c a b := by rw [← T3_rot]; exact H2
  rcases Int.lt_or_gt_of_ne h1 with g1 | g1 <;> rcases Int.lt_or_gt_of_ne h2 with g2 | g2 <;> rcases Int.lt_or_gt_of_ne h3 with g3 | g3
  · exact Tcon_neg (Tcon_all hw hH (by rw [lv_neg, lv_neg, lv_neg, lv_neg]; omega))
  · exact Tcon_neg (Tcon_c hw hH (by rw [lv_neg, lv_neg]; omega) (by rw [lv_neg, lv_neg]; omega) (by rw [lv_neg, lv_neg]; omega))
  · exact Tcon_rot (Tcon_rot (Tcon_neg (Tcon_c hw H3 (by rw [lv_neg, lv_neg]; omega) (by rw [lv_neg, lv_neg]; omega) (by rw [lv_neg, lv_neg]; omega))))
  · exact Tcon_rot (Tcon_c hw H2 (by omega) (by omega) (by omega))
  · exact Tcon_rot (Tcon_neg (Tcon_c hw H2 (by rw [lv_neg, lv_neg]; omega) (by rw [lv_neg, lv_neg]; omega) (by rw [lv_neg, lv_neg]; omega)))
  · exact Tcon_rot (Tcon_rot (Tcon_c hw H3 (by omega) (by omega) (by omega)))
  · exact Tcon_c hw hH (by omega) (by omega) (by omega)
  · exact Tcon_all hw hH ⟨by omega, by omega, by omega⟩
end TURN

