/-! Places in common, and places on edges -/
section EDGE
variable {A B : Int} {a b c d o p q r x z W X : Pt} {v : Nat → Pt} {n i j : Nat} {K : Int}
theorem id_af (A B : Int) (a b c d x : Pt) : (lv A B d - lv A B c) * T3 a b x = (lv A B d - lv A B x) * T3 a b c + (lv A B x - lv A B c) * T3 a b d + (lv A B b - lv A B a) * T3 c d x := by
  obtain ⟨ax, ay⟩ := a
  obtain ⟨bx, b2⟩ := b
  obtain ⟨cx, cy⟩ := c
  obtain ⟨dx, dy⟩ := d
  obtain ⟨xx, xy⟩ := x
  simp only [T3, tw, lv]
  grind
theorem opp {k1 k2 x y : Int} (h1 : 0 < k1) (h2 : 0 < k2) (e : k1 * x + k2 * y = 0) : (x < 0 ∧ 0 < y) ∨ (0 < x ∧ y < 0) ∨ (x = 0 ∧ y = 0) := by
  rcases Int.lt_trichotomy x 0 with c | c | c
  · have := Int.mul_neg_of_pos_of_neg h1 c
    exact Or.inl ⟨c, ps_of (Int.le_of_lt h2) (by omega)⟩
  · rw [c, Int.mul_zero] at e
    exact Or.inr (Or.inr ⟨c, zero_of h2 (by omega)⟩)
  · have := Int.mul_pos h1 c
    exact Or.inr (Or.inl ⟨c, ng_of (Int.le_of_lt h2) (by omega)⟩)
theorem com_up (hab : lv A B a < lv A B b) (hcd : lv A B c < lv A B d) (x1 : On a b X) (x2 : On c d X) : Mt a b c d := by
  have u1 := (On_lev hab).mp x1
  have u2 := (On_lev hcd).mp x2
  have e1 := id_af A B a b c d X
  have e2 := id_af A B c d a b X
  have e3 := id_w2 A B a b c d
  have e4 := id_w2 A B c d a b
  rw [u1.2.2, u2.2.2, Int.mul_zero, Int.mul_zero, Int.add_zero] at e1
  rw [u1.2.2, u2.2.2, Int.mul_zero, Int.mul_zero, Int.add_zero] at e2
  have oc : lv A B a ≤ lv A B c → lv A B c ≤ lv A B b → T3 a b c = 0 → Mt a b c d := fun g1 g2 g3 => Or.inr (Or.inl (on_of hab g1 g2 g3))
  have od : lv A B a ≤ lv A B d → lv A B d ≤ lv A B b → T3 a b d = 0 → Mt a b c d := fun g1 g2 g3 => Or.inr (Or.inr (Or.inl (on_of hab g1 g2 g3)))
  have oa : lv A B c ≤ lv A B a → lv A B a ≤ lv A B d → T3 c d a = 0 → Mt a b c d := fun g1 g2 g3 => Or.inr (Or.inr (Or.inr (Or.inl (on_of hcd g1 g2 g3))))
  have ob : lv A B c ≤ lv A B b → lv A B b ≤ lv A B d → T3 c d b = 0 → Mt a b c d := fun g1 g2 g3 => Or.inr (Or.inr (Or.inr (Or.inr (on_of hcd g1 g2 g3))))
  by_cases c1 : lv A B X = lv A B c
  · rw [c1, Int.sub_self, Int.zero_mul, Int.add_zero] at e1
    exact oc (by omega) (by omega) (zero_of (Int.sub_pos_of_lt hcd) e1.symm)
  by_cases c2 : lv A B X = lv A B d
  · rw [c2, Int.sub_self, Int.zero_mul, Int.zero_add] at e1
    exact od (by omega) (by omega) (zero_of (Int.sub_pos_of_lt hcd) e1.symm)
  by_cases c3 : lv A B X = lv A B a
  · rw [c3, Int.sub_self, Int.zero_mul, Int.add_zero] at e2
    exact oa (by omega) (by omega) (zero_of (Int.sub_pos_of_lt hab) e2.symm)
  by_cases c4 : lv A B X = lv A B b
  · rw [c4, Int.sub_self, Int.zero_mul, Int.zero_add] at e2
    exact ob (by omega) (by omega) (zero_of (Int.sub_pos_of_lt hab) e2.symm)
  have p1 := opp (show 0 < lv A B d - lv A B X by omega) (show 0 < lv A B X - lv A B c by omega) e1.symm
  have p2 := opp (show 0 < lv A B b - lv A B X by omega) (show 0 < lv A B X - lv A B a by omega) e2.symm
  have zz : T3 a b c = 0 → T3 a b d = 0 → Mt a b c d := fun g1 g2 => by
    have g3 : T3 c d a = 0 := by
      rw [g1, g2, Int.mul_zero, Int.mul_zero] at e3
      exact zero_of (Int.sub_pos_of_lt hab) e3
    by_cases k1 : lv A B a ≤ lv A B c
    · exact oc k1 (by omega) g1
    · by_cases k2 : lv A B d ≤ lv A B b
      · exact od (by omega) k2 g2
      · exact oa (by omega) (by omega) g3
  rcases p1 with p1 | p1 | p1
  · rcases p2 with p2 | p2 | p2
    · exact Or.inl ⟨sg_mul.mpr (Or.inl p1), sg_mul.mpr (Or.inl p2)⟩
    · exact Or.inl ⟨sg_mul.mpr (Or.inl p1), sg_mul.mpr (Or.inr p2)⟩
    · rw [p2.1, p2.2, Int.mul_zero, Int.mul_zero] at e4
      have := zero_of (Int.sub_pos_of_lt hcd) e4
      omega
  · rcases p2 with p2 | p2 | p2
    · exact Or.inl ⟨sg_mul.mpr (Or.inr p1), sg_mul.mpr (Or.inl p2)⟩
    · exact Or.inl ⟨sg_mul.mpr (Or.inr p1), sg_mul.mpr (Or.inr p2)⟩
    · rw [p2.1, p2.2, Int.mul_zero, Int.mul_zero] at e4
      have := zero_of (Int.sub_pos_of_lt hcd) e4
      omega
  · exact zz p1.1 p1.2
theorem com (hab : lv A B a ≠ lv A B b) (hcd : lv A B c ≠ lv A B d) (x1 : On a b X) (x2 : On c d X) : Mt a b c d := by
  rcases Int.lt_or_gt_of_ne hab with g | g
  · rcases Int.lt_or_gt_of_ne hcd with k | k
    · exact com_up g k x1 x2
    · exact Mt_r (com_up g k x1 (On_sym x2))
  · rcases Int.lt_or_gt_of_ne hcd with k | k
    · exact Mt_sw (com_up g k (On_sym x1) x2)
    · exact Mt_sw (Mt_r (com_up g k (On_sym x1) (On_sym x2)))
/-- what a piece of a stretch meets, the stretch meets -/
theorem sub_seg (h1 : lv A B p < lv A B W) (h2 : lv A B W < lv A B q) (e : T3 p q W = 0) (hcd : lv A B c ≠ lv A B d) (m : Mt c d p W) : Mt c d p q := by
  have hpq : lv A B p < lv A B q := by omega
  have k1 := id_b A B p q W c
  have k2 := id_b A B p q W d
  have k3 := id_af A B c d p q W
  rw [e] at k1 k2 k3
  rw [show -(0 : Int) = 0 from rfl, Int.mul_zero, Int.zero_add] at k1 k2
  rw [Int.mul_zero, Int.add_zero] at k3
  have t1 : 0 < lv A B q - lv A B p := by omega
  have t2 : 0 < lv A B W - lv A B p := by omega
  have t3 : 0 < lv A B q - lv A B W := by omega
  have ng : ∀ {u w : Int}, (lv A B q - lv A B p) * u = (lv A B W - lv A B p) * w → u < 0 → w < 0 := fun g1 g2 => by
    have := Int.mul_neg_of_pos_of_neg t1 g2
    exact ng_of (Int.le_of_lt t2) (by omega)
  have ps : ∀ {u w : Int}, (lv A B q - lv A B p) * u = (lv A B W - lv A B p) * w → 0 < u → 0 < w := fun g1 g2 => by
    have := Int.mul_pos t1 g2
    exact ps_of (Int.le_of_lt t2) (by omega)
  rcases m with ⟨m1, m2⟩ | m | m | m | m
  · left
    rw [sg_mul] at m1 m2
    rw [sg_mul, sg_mul]
    constructor
    · rcases m1 with ⟨g1, g2⟩ | ⟨g1, g2⟩
      · have w1 := Int.mul_pos t1 g2
        have w2 := Int.mul_neg_of_pos_of_neg t3 g1
        exact Or.inl ⟨g1, ps_of (Int.le_of_lt t2) (by omega)⟩
      · have w1 := Int.mul_neg_of_pos_of_neg t1 g2
        have w2 := Int.mul_pos t3 g1
        exact Or.inr ⟨g1, ng_of (Int.le_of_lt t2) (by omega)⟩
    · rcases m2 with ⟨g1, g2⟩ | ⟨g1, g2⟩
      · exact Or.inl ⟨ng k1 g1, ps k2 g2⟩
      · exact Or.inr ⟨ps k1 g1, ng k2 g2⟩
  · exact Or.inr (Or.inl m)
  · exact com hcd (by omega) m (on_of hpq (Int.le_of_lt h1) (Int.le_of_lt h2) e)
  · have w := (On_lev h1).mp m
    rw [w.2.2, Int.mul_zero] at k1
    exact Or.inr (Or.inr (Or.inr (Or.inl (on_of hpq w.1 (by omega) (zero_of t2 k1.symm)))))
  · have w := (On_lev h1).mp m
    rw [w.2.2, Int.mul_zero] at k2
    exact Or.inr (Or.inr (Or.inr (Or.inr (on_of hpq w.1 (by omega) (zero_of t2 k2.symm)))))
theorem sub_seg' (h1 : lv A B W < lv A B p) (h2 : lv A B q < lv A B W) (e : T3 p q W = 0) (hcd : lv A B c ≠ lv A B d) (m : Mt c d p W) : Mt c d p q :=
  sub_seg (A := -A) (B := -B) (by rw [lv_neg, lv_neg]; omega) (by rw [lv_neg, lv_neg]; omega) e (by rw [lv_neg, lv_neg]; omega) m
theorem up_C (h1 : lv A B p < lv A B W) (h2 : lv A B W < lv A B q) (e : T3 p q W = 0) : cS A B q r p - cS A B q r W - fS A B p W r = 0 := by
  have k1 := id_b A B p q W r
  have k2 := id_af A B q r p q W
  rw [e, show -(0 : Int) = 0 from rfl, Int.mul_zero, Int.zero_add] at k1
  rw [e, T3_ba, Int.mul_zero, Int.mul_zero, Int.add_zero, Int.add_zero] at k2
  have t1 : 0 < lv A B q - lv A B p := by omega
  have t2 : 0 < lv A B W - lv A B p := by omega
  have t3 : 0 < lv A B q - lv A B W := by omega
  have j1 : T3 p W r < 0 ↔ T3 q r p < 0 := by
    rw [← T3_rot p q r]
    constructor
    · intro g
      have := Int.mul_neg_of_pos_of_neg t1 g
      exact ng_of (Int.le_of_lt t2) (by omega)
    · intro g
      have := Int.mul_neg_of_pos_of_neg t2 g
      exact ng_of (Int.le_of_lt t1) (by omega)
  have j2 : T3 q r W < 0 ↔ T3 q r p < 0 := by
    constructor
    · intro g
      have := Int.mul_neg_of_pos_of_neg t1 g
      exact ng_of (Int.le_of_lt t3) (by omega)
    · intro g
      have := Int.mul_neg_of_pos_of_neg t3 g
      exact ng_of (Int.le_of_lt t1) (by omega)
  clear k1 k2
  unfold cS fS
  generalize T3 p W r = s1 at *
  generalize T3 q r W = s2 at *
  generalize T3 q r p = s3 at *
  split <;> split <;> (try split) <;> (try split) <;> (try split) <;> omega
theorem dn_C (h1 : lv A B W < lv A B p) (h2 : lv A B q < lv A B W) (e : T3 p q W = 0) : cS A B q r W - cS A B q r p - fS A B W p r = 0 := by
  have k1 := id_b A B p q W r
  have k2 := id_af A B q r p q W
  rw [e, show -(0 : Int) = 0 from rfl, Int.mul_zero, Int.zero_add] at k1
  rw [e, T3_ba, Int.mul_zero, Int.mul_zero, Int.add_zero, Int.add_zero] at k2
  have t1 : lv A B q - lv A B p < 0 := by omega
  have t2 : lv A B W - lv A B p < 0 := by omega
  have t3 : lv A B q - lv A B W < 0 := by omega
  have ps2 : ∀ {k z : Int}, k < 0 → k * z < 0 → 0 < z := fun {k z} g1 g2 => by
    refine Classical.byContradiction fun c => ?_
    have := Int.mul_nonneg_of_nonpos_of_nonpos (Int.le_of_lt g1) (show z ≤ 0 by omega)
    omega
  have j1 : T3 W p r < 0 ↔ 0 < T3 q r p := by
    rw [← T3_rot p q r, T3_ba' p W r]
    constructor
    · intro g
      have := Int.mul_neg_of_neg_of_pos t1 (show 0 < T3 p W r by omega)
      exact ps2 t2 (by omega)
    · intro g
      have := Int.mul_neg_of_neg_of_pos t2 g
      have := ps2 (z := T3 p W r) t1 (by omega)
      omega
  have j2 : 0 < T3 q r W ↔ 0 < T3 q r p := by
    constructor
    · intro g
      have := Int.mul_neg_of_neg_of_pos t1 g
      exact ps2 t3 (by omega)
    · intro g
      have := Int.mul_neg_of_neg_of_pos t3 g
      exact ps2 t1 (by omega)
  clear k1 k2
  unfold cS fS
  generalize T3 W p r = s1 at *
  generalize T3 q r W = s2 at *
  generalize T3 q r p = s3 at *
  split <;> split <;> (try split) <;> (try split) <;> (try split) <;> omega
theorem T3_ray (h1 : lv A B p < lv A B W) (h2 : lv A B W < lv A B q) (e : T3 p q W = 0) : (T3 o p W < 0 ↔ T3 o p q < 0) ∧ (T3 o p W = 0 ↔ T3 o p q = 0) := by
  have k1 := id_b A B p q W o
  rw [e, show -(0 : Int) = 0 from rfl, Int.mul_zero, Int.zero_add, ← T3_rot o p W, ← T3_rot o p q] at k1
  have t1 : 0 < lv A B q - lv A B p := by omega
  have t2 : 0 < lv A B W - lv A B p := by omega
  refine ⟨⟨fun g => ?_, fun g => ?_⟩, fun g => ?_, fun g => ?_⟩
  · have := Int.mul_neg_of_pos_of_neg t1 g
    exact ng_of (Int.le_of_lt t2) (by omega)
  · have := Int.mul_neg_of_pos_of_neg t2 g
    exact ng_of (Int.le_of_lt t1) (by omega)
  · rw [g, Int.mul_zero] at k1
    exact zero_of t2 k1.symm
  · rw [g, Int.mul_zero] at k1
    exact zero_of t1 k1
/-- on an edge that goes up the number is that to the right; on one that goes down it is that to the left -/
theorem on_edge (h : Smp A B v n) (hi : i < n) (e : T3 (v i) (v (nxt n i)) W = 0) : (lv A B (v i) < lv A B W → lv A B W < lv A B (v (nxt n i)) → wN A B v n W = mu A B v n) ∧ (lv A B W < lv A B (v i) → lv A B (v (nxt n i)) < lv A B W → wN A B v n W = mu A B v n + 1) := by
  have h3 := h.1
  have hp := prv_lt hi
  have hn := nxt_lt hi
  have hnn := nxt_lt hn
  have d1 := nxt_ne (show 2 ≤ n by omega) hi
  have d2 := prv_ne (show 2 ≤ n by omega) hi
  have d3 := prv_ne_nxt h3 hi
  have l2 := Smp_lv h hp hi d2
  have f1 := Fdb_T (A := A) (B := B) (h.2.2.1 i hi)
  have en := nxt_prv hi
  have no : ∀ j, j < n → j ≠ prv n i → j ≠ i → j ≠ nxt n i → ¬ Mt (v j) (v (nxt n j)) (v i) (v (nxt n i)) := fun j hj e1 e2 e3 => h.2.2.2 j i hj hi e2 (fun w => e1 (by rw [← w, prv_nxt hj])) (fun w => e3 w.symm)
  have lj : ∀ j, j < n → lv A B (v j) ≠ lv A B (v (nxt n j)) := fun j hj => Smp_lv h hj (nxt_lt hj) (Ne.symm (nxt_ne (by omega) hj))
  have at_i := Smp_at h hi
  refine ⟨fun g1 g2 => ?_, fun g1 g2 => ?_⟩
  · have dif := wN_dif (A := A) (B := B) (v := v) (n := n) (v i) W
    have z1 : fS A B (v i) W (v (nxt n i)) = 0 := if_neg (by omega)
    rw [sumN_three hp hi hn (Ne.symm d2) d1 (Ne.symm d3) (fun j hj e1 e2 e3 => by
      rw [sh_gen g1 (lj j hj) (fun w => no j hj e1 e2 e3 (sub_seg g1 g2 e (lj j hj) w))]
      exact Int.sub_self _), en, cS_b, cS_a, fS_p, z1, cS_on A B e] at dif
    have ray := T3_ray (o := v (prv n i)) g1 g2 e
    have a1 := up_A (o := v (prv n i)) g1 l2 (fun w z => f1 (Or.inl ⟨w, by omega⟩) (ray.2.mp z))
    have a2 := up_C (r := v (nxt n (nxt n i))) g1 g2 e
    have a3 : sS A B (v (prv n i)) (v i) W = sS A B (v (prv n i)) (v i) (v (nxt n i)) := by
      have r1 := ray.1
      unfold sS
      generalize T3 (v (prv n i)) (v i) W = s1 at *
      generalize T3 (v (prv n i)) (v i) (v (nxt n i)) = s2 at *
      clear dif a1 a2 ray at_i e z1
      split <;> split <;> omega
    omega
  · have dif := wN_dif (A := A) (B := B) (v := v) (n := n) W (v i)
    have z1 : fS A B W (v i) (v (nxt n i)) = 0 := if_neg (by omega)
    rw [sumN_three hp hi hn (Ne.symm d2) d1 (Ne.symm d3) (fun j hj e1 e2 e3 => by
      rw [sh_gen g1 (lj j hj) (fun w => no j hj e1 e2 e3 (sub_seg' g1 g2 e (lj j hj) (Mt_r w)))]
      exact Int.sub_self _), en, cS_b, cS_a, fS_q, z1, cS_on A B e] at dif
    have ray := T3_ray (A := -A) (B := -B) (o := v (prv n i)) (by rw [lv_neg, lv_neg]; omega) (by rw [lv_neg, lv_neg]; omega) e
    have a1 := dn_A (o := v (prv n i)) g1 l2 (fun w z => f1 (Or.inr ⟨w, by omega⟩) (ray.2.mp z))
    have a2 := dn_C (r := v (nxt n (nxt n i))) g1 g2 e
    have a3 : sS A B (v (prv n i)) (v i) W = sS A B (v (prv n i)) (v i) (v (nxt n i)) := by
      have r1 := ray.1
      unfold sS
      generalize T3 (v (prv n i)) (v i) W = s1 at *
      generalize T3 (v (prv n i)) (v i) (v (nxt n i)) = s2 at *
      clear dif a1 a2 ray at_i e z1
      split <;> split <;> omega
    omega
end EDGE

