/-! Ears, and what is left when one is cut off -/
def Tri (w : Int) (a b c x : Pt) : Prop := 0 ≤ w * T3 a b x ∧ 0 ≤ w * T3 b c x ∧ 0 ≤ w * T3 c a x
def Ear (v : Nat → Pt) (n : Nat) (w : Int) (i : Nat) : Prop := 0 < w * T3 (v (prv n i)) (v i) (v (nxt n i)) ∧ ∀ j, j < n → j ≠ prv n i → j ≠ i → j ≠ nxt n i → ¬ Tri w (v (prv n i)) (v i) (v (nxt n i)) (v j)
section CUT
variable {A B w : Int} {a b c d o p q r x y z : Pt} {u v : Nat → Pt} {n i j e : Nat}
theorem exit_i {H A1 A2 C1 C2 G1 G2 l k a' b' c' : Int} (hH : 0 < H) (hl : 0 < l) (hk : 0 < k) (hA : 0 < l * A1 + k * A2) (hC : 0 < l * C1 + k * C2) (hG : 0 ≤ l * G1 + k * G2) (g2 : 0 < G2) (out : A2 < 0 ∨ C2 < 0) (ea : H * a' = G1 * A2 - A1 * G2) (eb : H * b' = A1 * C2 - C1 * A2) (ec : H * c' = C1 * G2 - G1 * C2) : (0 < A1 ∧ A2 < 0 ∧ a' < 0 ∧ 0 ≤ b') ∨ (0 < C1 ∧ C2 < 0 ∧ 0 < c' ∧ b' ≤ 0) := by
  have s1 : ∀ {A1 A2 : Int}, 0 < l * A1 + k * A2 → A2 < 0 → 0 < A1 ∧ 0 < A1 * G2 - G1 * A2 := fun {A1 A2} hA h2 => by
    have e1 := Int.mul_neg_of_pos_of_neg hk h2
    refine ⟨ps_of (Int.le_of_lt hl) (show 0 < l * A1 by omega), pos_of hl ?_⟩
    have e2 : l * (A1 * G2 - G1 * A2) = (l * A1 + k * A2) * G2 - A2 * (l * G1 + k * G2) := by grind
    have e3 := Int.mul_pos hA g2
    have e4 := Int.mul_nonpos_of_nonpos_of_nonneg (Int.le_of_lt h2) hG
    rw [e2]
    omega
  have e5 : l * (A1 * C2 - C1 * A2) = (l * A1 + k * A2) * C2 - A2 * (l * C1 + k * C2) := by grind
  have second : C2 < 0 → A1 * C2 - C1 * A2 ≤ 0 → (0 < C1 ∧ C2 < 0 ∧ 0 < c' ∧ b' ≤ 0) := fun h2 hE => by
    have k1 := s1 hC h2
    refine ⟨k1.1, h2, ps_of (Int.le_of_lt hH) (by omega), ?_⟩
    refine Classical.byContradiction fun g => ?_
    have := Int.mul_pos hH (show 0 < b' by omega)
    omega
  by_cases h2 : A2 < 0
  · have k1 := s1 hA h2
    by_cases hE : 0 ≤ A1 * C2 - C1 * A2
    · exact Or.inl ⟨k1.1, h2, ng_of (Int.le_of_lt hH) (by omega), nn_of hH (by omega)⟩
    · refine Or.inr (second ?_ (by omega))
      refine Classical.byContradiction fun g => hE ?_
      have f1 := Int.mul_nonneg (Int.le_of_lt hA) (show 0 ≤ C2 by omega)
      have f2 := Int.mul_neg_of_neg_of_pos h2 hC
      exact nn_of hl (by omega)
  · have h3 : C2 < 0 := out.resolve_left h2
    refine Or.inr (second h3 ?_)
    have f1 := Int.mul_neg_of_pos_of_neg hA h3
    have f2 := Int.mul_nonneg (show 0 ≤ A2 by omega) (Int.le_of_lt hC)
    exact Int.le_of_lt (ng_of (Int.le_of_lt hl) (by omega))
theorem on_opp (hxy : lv A B x ≠ lv A B y) (e : T3 x y b = 0) (o : (T3 a b x < 0 ∧ 0 < T3 a b y) ∨ (0 < T3 a b x ∧ T3 a b y < 0)) : On x y b := by
  have k := id_af A B a b x y b
  rw [T3_bb, e, Int.mul_zero, Int.mul_zero, Int.add_zero] at k
  have key : ∀ P Q : Int, 0 < P → Q < 0 → 0 = (lv A B y - lv A B b) * P + (lv A B b - lv A B x) * Q → (lv A B x ≤ lv A B b ∧ lv A B b ≤ lv A B y) ∨ (lv A B y ≤ lv A B b ∧ lv A B b ≤ lv A B x) := fun P Q hP hQ g => by
    by_cases c1 : lv A B y < lv A B b ∧ lv A B x < lv A B b
    · have t1 := Int.mul_neg_of_neg_of_pos (show lv A B y - lv A B b < 0 by omega) hP
      have t2 := Int.mul_neg_of_pos_of_neg (show 0 < lv A B b - lv A B x by omega) hQ
      omega
    · by_cases c2 : lv A B b < lv A B y ∧ lv A B b < lv A B x
      · have t1 := Int.mul_pos (show 0 < lv A B y - lv A B b by omega) hP
        have t2 := Int.mul_pos_of_neg_of_neg (show lv A B b - lv A B x < 0 by omega) hQ
        omega
      · omega
  have lev : (lv A B x ≤ lv A B b ∧ lv A B b ≤ lv A B y) ∨ (lv A B y ≤ lv A B b ∧ lv A B b ≤ lv A B x) := by
    rcases o with ⟨o1, o2⟩ | ⟨o1, o2⟩
    · refine key (- T3 a b x) (- T3 a b y) (by omega) (by omega) ?_
      rw [Int.mul_neg, Int.mul_neg]
      omega
    · exact key _ _ o1 o2 k
  rcases Int.lt_or_gt_of_ne hxy with g | g
  · exact on_of g (by omega) (by omega) e
  · exact On_sym (on_of g (by omega) (by omega) (by rw [T3_ba', e]; rfl))
theorem id_xa (a b c x y : Pt) : T3 a b c * T3 x y a = T3 c a x * T3 a b y - T3 a b x * T3 c a y := by
  obtain ⟨ax, ay⟩ := a
  obtain ⟨bx, b2⟩ := b
  obtain ⟨cx, cy⟩ := c
  obtain ⟨xx, xy⟩ := x
  obtain ⟨yx, yy⟩ := y
  simp only [T3, tw]
  grind
theorem id_s (a b c x : Pt) : T3 a b x + T3 b c x + T3 c a x = T3 a b c := by
  obtain ⟨ax, ay⟩ := a
  obtain ⟨bx, b2⟩ := b
  obtain ⟨cx, cy⟩ := c
  obtain ⟨xx, xy⟩ := x
  simp only [T3, tw]
  grind
theorem ww (hw : w = 1 ∨ w = -1) (s t : Int) : (w * s) * (w * t) = s * t := by
  rcases hw with rfl | rfl
  · rw [Int.one_mul, Int.one_mul]
  · grind
theorem w_opp (hw : w = 1 ∨ w = -1) {s t : Int} (h : (0 < w * s ∧ w * t < 0) ∨ (w * s < 0 ∧ 0 < w * t)) : (s < 0 ∧ 0 < t) ∨ (0 < s ∧ t < 0) := by
  rcases hw with rfl | rfl
  · rw [Int.one_mul, Int.one_mul] at h
    omega
  · rw [Int.neg_mul, Int.neg_mul, Int.one_mul, Int.one_mul] at h
    omega
theorem w_zero (hw : w = 1 ∨ w = -1) {s : Int} (h : w * s = 0) : s = 0 := by
  rcases hw with rfl | rfl
  · omega
  · omega
/-- an edge from a place within a corner's triangle to one outside of it meets an edge at the corner -/
theorem exitG {l k : Int} (hw : w = 1 ∨ w = -1) (hH : 0 < w * T3 a b c) (hxy : lv A B x ≠ lv A B y) (hl : 0 < l) (hk : 0 < k) (hA : 0 < l * (w * T3 a b x) + k * (w * T3 a b y)) (hC : 0 < l * (w * T3 b c x) + k * (w * T3 b c y)) (hG : 0 ≤ l * (w * T3 c a x) + k * (w * T3 c a y)) (g2 : 0 < w * T3 c a y) (out : w * T3 a b y < 0 ∨ w * T3 b c y < 0) : (0 < w * T3 a b x ∧ Mt a b x y) ∨ (0 < w * T3 b c x ∧ Mt b c x y) := by
  have ea : (w * T3 a b c) * (w * T3 x y a) = (w * T3 c a x) * (w * T3 a b y) - (w * T3 a b x) * (w * T3 c a y) := by
    rw [ww hw, ww hw, ww hw, id_xa]
  have eb : (w * T3 a b c) * (w * T3 x y b) = (w * T3 a b x) * (w * T3 b c y) - (w * T3 b c x) * (w * T3 a b y) := by
    rw [ww hw, ww hw, ww hw, T3_rot a b c, id_xa]
  have ec : (w * T3 a b c) * (w * T3 x y c) = (w * T3 b c x) * (w * T3 c a y) - (w * T3 c a x) * (w * T3 b c y) := by
    rw [ww hw, ww hw, ww hw, T3_rot a b c, T3_rot b c a, id_xa]
  rcases exit_i hH hl hk hA hC hG g2 out ea eb ec with ⟨h1, h2, h3, h4⟩ | ⟨h1, h2, h3, h4⟩
  · refine Or.inl ⟨h1, ?_⟩
    have o := w_opp hw (Or.inl ⟨h1, h2⟩)
    by_cases c0 : w * T3 x y b = 0
    · exact Or.inr (Or.inr (Or.inr (Or.inr (on_opp hxy (w_zero hw c0) o))))
    · exact Or.inl ⟨sg_mul.mpr o, sg_mul.mpr (w_opp hw (Or.inr ⟨h3, by omega⟩))⟩
  · refine Or.inr ⟨h1, ?_⟩
    have o := w_opp hw (Or.inl ⟨h1, h2⟩)
    by_cases c0 : w * T3 x y b = 0
    · refine Or.inr (Or.inr (Or.inr (Or.inl (on_opp (a := c) hxy (w_zero hw c0) ?_))))
      rw [T3_ba' b c x, T3_ba' b c y]
      omega
    · exact Or.inl ⟨sg_mul.mpr o, sg_mul.mpr (w_opp hw (Or.inr ⟨by omega, h3⟩))⟩
theorem w_nn (hw : w = 1 ∨ w = -1) {k s t m : Int} (hk : 0 < k) (e : k * s = m * t) (hm : 0 ≤ m) (ht : 0 ≤ w * t) : 0 ≤ w * s := by
  refine nn_of hk ?_
  have : k * (w * s) = m * (w * t) := by
    rw [Int.mul_left_comm, e, Int.mul_left_comm]
  rw [this]
  exact Int.mul_nonneg hm ht
/-- what lies on the third side lies in the triangle -/
theorem tri_on (hw : w = 1 ∨ w = -1) (hH : 0 < w * T3 a b c) (hac : lv A B a ≠ lv A B c) (h : On a c x) : Tri w a b c x := by
  have t := On_T h
  have k1 := id_af A B a b a c x
  have k2 := id_af A B b c a c x
  rw [t, T3_ba, Int.mul_zero, Int.mul_zero, Int.zero_add, Int.add_zero] at k1
  rw [t, T3_bb, Int.mul_zero, Int.mul_zero, Int.add_zero, Int.add_zero, ← T3_rot a b c] at k2
  have z : T3 c a x = 0 := by
    rw [T3_ba', t]
    rfl
  have hH' := Int.le_of_lt hH
  refine ⟨?_, ?_, by rw [z, Int.mul_zero]; exact Int.le_refl _⟩
  · rcases Int.lt_or_gt_of_ne hac with g | g
    · have l := on_lv h g
      exact w_nn hw (show 0 < lv A B c - lv A B a by omega) k1 (by omega) hH'
    · have l := on_lv (On_sym h) g
      refine w_nn hw (k := lv A B a - lv A B c) (m := lv A B a - lv A B x) (by omega) ?_ (by omega) hH'
      rw [show lv A B a - lv A B c = -(lv A B c - lv A B a) by omega, show lv A B a - lv A B x = -(lv A B x - lv A B a) by omega, Int.neg_mul, Int.neg_mul, k1]
  · rcases Int.lt_or_gt_of_ne hac with g | g
    · have l := on_lv h g
      exact w_nn hw (show 0 < lv A B c - lv A B a by omega) k2 (by omega) hH'
    · have l := on_lv (On_sym h) g
      refine w_nn hw (k := lv A B a - lv A B c) (m := lv A B x - lv A B c) (by omega) ?_ (by omega) hH'
      rw [show lv A B a - lv A B c = -(lv A B c - lv A B a) by omega, show lv A B x - lv A B c = -(lv A B c - lv A B x) by omega, Int.neg_mul, Int.neg_mul, k2]
/-- the third side of a triangle without other corners meets no edge elsewhere -/
theorem side_free (hw : w = 1 ∨ w = -1) (hH : 0 < w * T3 a b c) (hac : lv A B a ≠ lv A B c) (hxy : lv A B x ≠ lv A B y) (tx : ¬ Tri w a b c x) (ty : ¬ Tri w a b c y) (m1 : ¬ Mt a b x y) (m2 : ¬ Mt b c x y) : ¬ Mt x y a c := by
  intro m
  rcases m with ⟨p1, p2⟩ | m | m | m | m
  · rw [sg_mul] at p1 p2
    have go : ∀ x y : Pt, lv A B x ≠ lv A B y → ¬ Tri w a b c y → ¬ Mt a b x y → ¬ Mt b c x y → ((T3 x y a < 0 ∧ 0 < T3 x y c) ∨ (0 < T3 x y a ∧ T3 x y c < 0)) → w * T3 c a x < 0 → 0 < w * T3 c a y → False := fun x y hxy ty m1 m2 p1 g1 g2 => by
      have ea : (w * T3 a b c) * (w * T3 x y a) = (w * T3 c a x) * (w * T3 a b y) - (w * T3 a b x) * (w * T3 c a y) := by
        rw [ww hw, ww hw, ww hw, id_xa]
      have ec : (w * T3 a b c) * (w * T3 x y c) = (w * T3 b c x) * (w * T3 c a y) - (w * T3 c a x) * (w * T3 b c y) := by
        rw [ww hw, ww hw, ww hw, T3_rot a b c, T3_rot b c a, id_xa]
      have s1 : w * T3 a b x + w * T3 b c x + w * T3 c a x = w * T3 a b c := by
        rw [← Int.mul_add, ← Int.mul_add, id_s]
      have s2 : w * T3 a b y + w * T3 b c y + w * T3 c a y = w * T3 a b c := by
        rw [← Int.mul_add, ← Int.mul_add, id_s]
      have out : w * T3 a b y < 0 ∨ w * T3 b c y < 0 := Classical.byContradiction fun g => ty ⟨by omega, by omega, by omega⟩
      have wa : (w * T3 x y a < 0 ∧ 0 < w * T3 x y c) ∨ (0 < w * T3 x y a ∧ w * T3 x y c < 0) := by
        rcases hw with rfl | rfl
        · rw [Int.one_mul, Int.one_mul]
          exact p1
        · rw [Int.neg_mul, Int.neg_mul, Int.one_mul, Int.one_mul]
          omega
      generalize w * T3 x y a = a' at *
      generalize w * T3 x y c = c' at *
      have hAC : 0 < (w * T3 c a y) * (w * T3 a b x) + (-(w * T3 c a x)) * (w * T3 a b y) ∧ 0 < (w * T3 c a y) * (w * T3 b c x) + (-(w * T3 c a x)) * (w * T3 b c y) := by
        have hexit := @exitG A B w a b c x y (w * T3 c a y) (-(w * T3 c a x)) hw hH hxy g2 (by omega)
        clear hexit
        generalize w * T3 a b x = A1 at *
        generalize w * T3 a b y = A2 at *
        generalize w * T3 b c x = C1 at *
        generalize w * T3 b c y = C2 at *
        generalize w * T3 c a x = G1 at *
        generalize w * T3 c a y = G2 at *
        generalize w * T3 a b c = H at *
        have f1 : G2 * A1 + -G1 * A2 = -(H * a') := by rw [ea]; grind
        have f2 : G2 * C1 + -G1 * C2 = H * c' := by rw [ec]; grind
        have f3 : (G2 * A1 + -G1 * A2) + (G2 * C1 + -G1 * C2) = (G2 - G1) * H := by grind
        have f4 := Int.mul_pos (show 0 < G2 - G1 by omega) hH
        rcases wa with ⟨k1, k2⟩ | ⟨k1, k2⟩
        · have h1 := Int.mul_neg_of_pos_of_neg hH k1
          have h2 := Int.mul_pos hH k2
          omega
        · have h1 := Int.mul_pos hH k1
          have h2 := Int.mul_neg_of_pos_of_neg hH k2
          omega
      have hG : 0 ≤ (w * T3 c a y) * (w * T3 c a x) + (-(w * T3 c a x)) * (w * T3 c a y) := by
        rw [Int.neg_mul, Int.mul_comm]
        omega
      rcases exitG hw hH hxy g2 (show 0 < -(w * T3 c a x) by omega) hAC.1 hAC.2 hG g2 out with g | g
      · exact m1 g.2
      · exact m2 g.2
    have e1 : T3 c a x = - T3 a c x := T3_ba' _ _ _
    have e2 : T3 c a y = - T3 a c y := T3_ba' _ _ _
    have ws : (w * T3 c a x < 0 ∧ 0 < w * T3 c a y) ∨ (0 < w * T3 c a x ∧ w * T3 c a y < 0) := by
      rw [e1, e2]
      rcases hw with rfl | rfl
      · rw [Int.one_mul, Int.one_mul]
        omega
      · rw [Int.neg_mul, Int.neg_mul, Int.one_mul, Int.one_mul]
        omega
    rcases ws with ⟨g1, g2⟩ | ⟨g1, g2⟩
    · exact go x y hxy ty m1 m2 p1 g1 g2
    · refine go y x (Ne.symm hxy) tx (fun m => m1 (Mt_r m)) (fun m => m2 (Mt_r m)) ?_ g2 g1
      rw [T3_ba' x y a, T3_ba' x y c]
      omega
  · exact m1 (Or.inr (Or.inr (Or.inr (Or.inl m))))
  · exact m2 (Or.inr (Or.inr (Or.inr (Or.inr m))))
  · exact tx (tri_on hw hH hac m)
  · exact ty (tri_on hw hH hac m)
end CUT

