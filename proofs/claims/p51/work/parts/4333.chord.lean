/-! A stretch from a highest corner parts a simple row of corners -/
section CHORD
variable {A B w : Int} {a b c d o p q r x y z : Pt} {u v : Nat → Pt} {n i j k e : Nat}
theorem id_ch (b z x y p q : Pt) : T3 b z y * T3 p q x - T3 b z x * T3 p q y = T3 x y b * T3 p q z - T3 x y z * T3 p q b := by
  obtain ⟨bx, b2⟩ := b
  obtain ⟨zx, zy⟩ := z
  obtain ⟨xx, xy⟩ := x
  obtain ⟨yx, yy⟩ := y
  obtain ⟨px, py⟩ := p
  obtain ⟨qx, qy⟩ := q
  simp only [T3, tw]
  grind
theorem id_c1 (b z x y : Pt) : T3 b z y - T3 b z x = T3 x y b - T3 x y z := by
  obtain ⟨bx, b2⟩ := b
  obtain ⟨zx, zy⟩ := z
  obtain ⟨xx, xy⟩ := x
  obtain ⟨yx, yy⟩ := y
  simp only [T3, tw]
  grind
theorem tri_edge (hw : w = 1 ∨ w = -1) (hH : 0 < w * T3 a b c) (ht : Tri w a b c x) (e : T3 a b x = 0) (hab : lv A B a ≠ lv A B b) : On a b x := by
  obtain ⟨h1, h2, h3⟩ := ht
  have e2 : (w * T3 b c x) * (lv A B a - lv A B x) + (w * T3 c a x) * (lv A B b - lv A B x) = 0 := by
    have := id_l A B a b c x
    rw [e, Int.zero_mul, Int.add_zero] at this
    rw [Int.mul_assoc, Int.mul_assoc, ← Int.mul_add, this, Int.mul_zero]
  have s : w * T3 b c x + w * T3 c a x = w * T3 a b c := by
    rw [← id_s a b c x, e, Int.zero_add, Int.mul_add]
  generalize w * T3 b c x = Q at *
  generalize w * T3 c a x = R at *
  have n1 : ¬ (lv A B x < lv A B a ∧ lv A B x < lv A B b) := fun g => by
    by_cases c0 : 0 < Q
    · have t1 := Int.mul_pos c0 (show 0 < lv A B a - lv A B x by omega)
      have t2 := Int.mul_nonneg h3 (show 0 ≤ lv A B b - lv A B x by omega)
      omega
    · have t1 := Int.mul_pos (show 0 < R by omega) (show 0 < lv A B b - lv A B x by omega)
      have t2 := Int.mul_nonneg h2 (show 0 ≤ lv A B a - lv A B x by omega)
      omega
  have n2 : ¬ (lv A B a < lv A B x ∧ lv A B b < lv A B x) := fun g => by
    by_cases c0 : 0 < Q
    · have t1 := Int.mul_neg_of_pos_of_neg c0 (show lv A B a - lv A B x < 0 by omega)
      have t2 := Int.mul_nonpos_of_nonneg_of_nonpos h3 (show lv A B b - lv A B x ≤ 0 by omega)
      omega
    · have t1 := Int.mul_neg_of_pos_of_neg (show 0 < R by omega) (show lv A B b - lv A B x < 0 by omega)
      have t2 := Int.mul_nonpos_of_nonneg_of_nonpos h2 (show lv A B a - lv A B x ≤ 0 by omega)
      omega
  rcases Int.lt_or_gt_of_ne hab with g | g
  · exact on_of g (by omega) (by omega) e
  · exact On_sym (on_of g (by omega) (by omega) (by rw [T3_ba', e]; rfl))
theorem tri_lv (hw : w = 1 ∨ w = -1) (hH : 0 < w * T3 a b c) (ht : Tri w a b c x) {M : Int} (l1 : lv A B a < M) (l2 : lv A B b < M) (l3 : lv A B c < M) : lv A B x < M := by
  obtain ⟨h1, h2, h3⟩ := ht
  refine Classical.byContradiction fun g => ?_
  have e2 : (w * T3 b c x) * (lv A B a - lv A B x) + (w * T3 c a x) * (lv A B b - lv A B x) + (w * T3 a b x) * (lv A B c - lv A B x) = 0 := by
    rw [Int.mul_assoc, Int.mul_assoc, Int.mul_assoc, ← Int.mul_add, ← Int.mul_add, id_l, Int.mul_zero]
  have s : w * T3 a b x + w * T3 b c x + w * T3 c a x = w * T3 a b c := by
    rw [← Int.mul_add, ← Int.mul_add, id_s]
  generalize w * T3 a b x = P at *
  generalize w * T3 b c x = Q at *
  generalize w * T3 c a x = R at *
  have t1 := Int.mul_nonpos_of_nonneg_of_nonpos h2 (show lv A B a - lv A B x ≤ 0 by omega)
  have t2 := Int.mul_nonpos_of_nonneg_of_nonpos h3 (show lv A B b - lv A B x ≤ 0 by omega)
  have t3 := Int.mul_nonpos_of_nonneg_of_nonpos h1 (show lv A B c - lv A B x ≤ 0 by omega)
  by_cases c1 : 0 < P
  · have := Int.mul_neg_of_pos_of_neg c1 (show lv A B c - lv A B x < 0 by omega)
    omega
  · by_cases c2 : 0 < Q
    · have := Int.mul_neg_of_pos_of_neg c2 (show lv A B a - lv A B x < 0 by omega)
      omega
    · have := Int.mul_neg_of_pos_of_neg (show 0 < R by omega) (show lv A B b - lv A B x < 0 by omega)
      omega
theorem chord_free (hw : w = 1 ∨ w = -1) (hH : 0 < w * T3 a b c) (hA : 0 < w * T3 a b z) (hC : 0 < w * T3 b c z) (hG : 0 ≤ w * T3 c a z) (hxy : lv A B x ≠ lv A B y) (bx : lv A B x < lv A B b) (bY : lv A B y < lv A B b) (bz : lv A B z < lv A B b) (zx : lv A B x ≠ lv A B z) (zy : lv A B y ≠ lv A B z) (tx : Tri w a b c x → w * T3 c a x ≤ w * T3 c a z) (ty : Tri w a b c y → w * T3 c a y ≤ w * T3 c a z) (m1 : Mt a b x y → x = a ∨ y = a) (m2 : Mt b c x y → x = c ∨ y = c) (m3 : ¬ On x y z) : ¬ Mt x y b z := by
  have sz : w * T3 a b z + w * T3 b c z + w * T3 c a z = w * T3 a b c := by
    rw [← Int.mul_add, ← Int.mul_add, id_s]
  have onz : ∀ {x : Pt}, lv A B x ≠ lv A B z → (Tri w a b c x → w * T3 c a x ≤ w * T3 c a z) → ¬ On b z x := fun {x} zx tx h => by
    have l := on_lv (On_sym h) bz
    have t := On_T (On_sym h)
    have mk : ∀ p q : Pt, (lv A B b - lv A B z) * (w * T3 p q x) = (lv A B b - lv A B x) * (w * T3 p q z) + (lv A B x - lv A B z) * (w * T3 p q b) := fun p q => by
      have := id_af A B p q z b x
      rw [t, Int.mul_zero, Int.add_zero] at this
      rw [Int.mul_left_comm, this, Int.mul_add, Int.mul_left_comm, Int.mul_left_comm w]
    have k1 := mk a b
    have k2 := mk b c
    have k3 := mk c a
    rw [T3_bb, Int.mul_zero, Int.mul_zero, Int.add_zero] at k1
    rw [T3_ba, Int.mul_zero, Int.mul_zero, Int.add_zero] at k2
    rw [show T3 c a b = T3 a b c by rw [T3_rot]] at k3
    have p0 : 0 < lv A B b - lv A B z := by omega
    have g1 : 0 ≤ w * T3 a b x := nn_of p0 (by rw [k1]; exact Int.mul_nonneg (by omega) (Int.le_of_lt hA))
    have g2 : 0 ≤ w * T3 b c x := nn_of p0 (by rw [k2]; exact Int.mul_nonneg (by omega) (Int.le_of_lt hC))
    have g3 : 0 < (lv A B b - lv A B z) * (w * T3 c a x - w * T3 c a z) := by
      have e : (lv A B b - lv A B z) * (w * T3 c a x - w * T3 c a z) = (lv A B x - lv A B z) * (w * T3 a b c - w * T3 c a z) := by
        rw [Int.mul_sub, k3]
        grind
      rw [e]
      exact Int.mul_pos (by omega) (by omega)
    have g4 := pos_of p0 g3
    have := tx ⟨g1, g2, by omega⟩
    omega
  have go : ∀ x y : Pt, lv A B x ≠ lv A B y → (Tri w a b c x → w * T3 c a x ≤ w * T3 c a z) → (Tri w a b c y → w * T3 c a y ≤ w * T3 c a z) → (Mt a b x y → x = a ∨ y = a) → (Mt b c x y → x = c ∨ y = c) → T3 b z x < 0 → 0 < T3 b z y → ((T3 x y b < 0 ∧ 0 < T3 x y z) ∨ (0 < T3 x y b ∧ T3 x y z < 0)) → False := fun x y hxy tx ty m1 m2 ha hb hp => by
    have d1 := id_c1 b z x y
    have mk : ∀ p q : Pt, T3 b z y * (w * T3 p q x) + (-(T3 b z x)) * (w * T3 p q y) = T3 x y b * (w * T3 p q z) + (-(T3 x y z)) * (w * T3 p q b) := fun p q => by
      have := id_ch b z x y p q
      have e1 : T3 b z y * (w * T3 p q x) + (-(T3 b z x)) * (w * T3 p q y) = w * (T3 b z y * T3 p q x - T3 b z x * T3 p q y) := by grind
      rw [e1, this]
      grind
    have k1 := mk a b
    have k2 := mk b c
    have k3 := mk c a
    rw [T3_bb, Int.mul_zero, Int.mul_zero, Int.add_zero] at k1
    rw [T3_ba, Int.mul_zero, Int.mul_zero, Int.add_zero] at k2
    rw [show T3 c a b = T3 a b c by rw [T3_rot]] at k3
    have hp : 0 < T3 x y b ∧ T3 x y z < 0 := by omega
    have f1 : 0 < T3 b z y * (w * T3 a b x) + (-(T3 b z x)) * (w * T3 a b y) := by
      rw [k1]
      exact Int.mul_pos hp.1 hA
    have f2 : 0 < T3 b z y * (w * T3 b c x) + (-(T3 b z x)) * (w * T3 b c y) := by
      rw [k2]
      exact Int.mul_pos hp.1 hC
    have f3 : 0 < T3 b z y * (w * T3 c a x - w * T3 c a z) + (-(T3 b z x)) * (w * T3 c a y - w * T3 c a z) := by
      have e : T3 b z y * (w * T3 c a x - w * T3 c a z) + (-(T3 b z x)) * (w * T3 c a y - w * T3 c a z) = (-(T3 x y z)) * (w * T3 a b c - w * T3 c a z) := by
        have e2 : T3 b z y * (w * T3 c a x - w * T3 c a z) + (-(T3 b z x)) * (w * T3 c a y - w * T3 c a z) = (T3 b z y * (w * T3 c a x) + (-(T3 b z x)) * (w * T3 c a y)) - (T3 b z y - T3 b z x) * (w * T3 c a z) := by grind
        rw [e2, k3, d1]
        grind
      rw [e]
      exact Int.mul_pos (by omega) (by omega)
    have f4 : 0 ≤ T3 b z y * (w * T3 c a x) + (-(T3 b z x)) * (w * T3 c a y) := by
      rw [k3]
      exact Int.add_nonneg (Int.mul_nonneg (Int.le_of_lt hp.1) hG) (Int.mul_nonneg (by omega) (Int.le_of_lt hH))
    have za : w * T3 a b a = 0 := by rw [T3_ba, Int.mul_zero]
    have za2 : w * T3 c a a = 0 := by rw [T3_bb, Int.mul_zero]
    have zc : w * T3 b c c = 0 := by rw [T3_bb, Int.mul_zero]
    have zc2 : w * T3 c a c = 0 := by rw [T3_ba, Int.mul_zero]
    by_cases cy : w * T3 c a z < w * T3 c a y
    · have out : w * T3 a b y < 0 ∨ w * T3 b c y < 0 := Classical.byContradiction fun g => by
        have := ty ⟨by omega, by omega, by omega⟩
        omega
      rcases exitG hw hH hxy hb (show 0 < -(T3 b z x) by omega) f1 f2 f4 (by omega) out with ⟨g1, g2⟩ | ⟨g1, g2⟩
      · rcases m1 g2 with e | e
        · rw [e] at g1
          omega
        · rw [e] at cy
          omega
      · rcases m2 g2 with e | e
        · rw [e] at g1
          omega
        · rw [e] at cy
          omega
    · have cx : w * T3 c a z < w * T3 c a x := Classical.byContradiction fun g => by
        have t1 := Int.mul_nonpos_of_nonneg_of_nonpos (Int.le_of_lt hb) (show w * T3 c a x - w * T3 c a z ≤ 0 by omega)
        have t2 := Int.mul_nonpos_of_nonneg_of_nonpos (show 0 ≤ -(T3 b z x) by omega) (show w * T3 c a y - w * T3 c a z ≤ 0 by omega)
        omega
      have out : w * T3 a b x < 0 ∨ w * T3 b c x < 0 := Classical.byContradiction fun g => by
        have := tx ⟨by omega, by omega, by omega⟩
        omega
      rw [Int.add_comm] at f1 f2 f4
      rcases exitG hw hH (Ne.symm hxy) (show 0 < -(T3 b z x) by omega) hb f1 f2 f4 (by omega) out with ⟨g1, g2⟩ | ⟨g1, g2⟩
      · rcases m1 (Mt_r g2) with e | e
        · rw [e] at cx
          omega
        · rw [e] at g1
          omega
      · rcases m2 (Mt_r g2) with e | e
        · rw [e] at cx
          omega
        · rw [e] at g1
          omega
  intro m
  rcases m with ⟨p1, p2⟩ | m | m | m | m
  · rw [sg_mul] at p1 p2
    rcases p2 with ⟨g1, g2⟩ | ⟨g1, g2⟩
    · exact go x y hxy tx ty m1 m2 g1 g2 p1
    · refine go y x (Ne.symm hxy) ty tx (fun g => (m1 (Mt_r g)).symm) (fun g => (m2 (Mt_r g)).symm) g2 g1 ?_
      rw [T3_ba' x y b, T3_ba' x y z]
      omega
  · rcases Int.lt_or_gt_of_ne hxy with g | g
    · have := on_lv m g
      omega
    · have := on_lv (On_sym m) g
      omega
  · exact m3 m
  · exact onz zx tx m
  · exact onz zy ty m
end CHORD

