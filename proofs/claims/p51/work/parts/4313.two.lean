/-! The closed figure of two chains -/
def On (a b q : Pt) : Prop := on a.1 a.2 b.1 b.2 q.1 q.2
theorem id_x (A B : Int) (a b q : Pt) : (lv A B b - lv A B a) * (q.1 - a.1) = (lv A B q - lv A B a) * (b.1 - a.1) - B * T3 a b q := by
  obtain ⟨ax, ay⟩ := a
  obtain ⟨bx, b2⟩ := b
  obtain ⟨qx, qy⟩ := q
  simp only [T3, tw, lv]
  grind
theorem id_y (A B : Int) (a b q : Pt) : (lv A B b - lv A B a) * (q.2 - a.2) = (lv A B q - lv A B a) * (b.2 - a.2) + A * T3 a b q := by
  obtain ⟨ax, ay⟩ := a
  obtain ⟨bx, b2⟩ := b
  obtain ⟨qx, qy⟩ := q
  simp only [T3, tw, lv]
  grind
theorem id_m (A B : Int) (a b c v : Pt) : (lv A B b - lv A B v) * T3 c v a + (lv A B v - lv A B a) * T3 c v b = T3 a b v * (lv A B c - lv A B v) := by
  obtain ⟨ax, ay⟩ := a
  obtain ⟨bx, b2⟩ := b
  obtain ⟨cx, cy⟩ := c
  obtain ⟨vx, vy⟩ := v
  simp only [T3, tw, lv]
  grind
theorem id_m2 (A B : Int) (a b d v : Pt) : (lv A B b - lv A B v) * T3 v d a + (lv A B v - lv A B a) * T3 v d b = T3 a b v * (lv A B v - lv A B d) := by
  obtain ⟨ax, ay⟩ := a
  obtain ⟨bx, b2⟩ := b
  obtain ⟨dx, dy⟩ := d
  obtain ⟨vx, vy⟩ := v
  simp only [T3, tw, lv]
  grind
theorem id_v (A B : Int) (a c d v : Pt) : (lv A B v - lv A B a) * T3 c v d = (lv A B v - lv A B c) * T3 v d a + (lv A B v - lv A B d) * T3 c v a := by
  obtain ⟨ax, ay⟩ := a
  obtain ⟨cx, cy⟩ := c
  obtain ⟨dx, dy⟩ := d
  obtain ⟨vx, vy⟩ := v
  simp only [T3, tw, lv]
  grind
theorem id_p (o e u v w : Pt) : T3 o e v * T3 o u w = T3 o e u * T3 o v w + T3 o e w * T3 o u v := by
  obtain ⟨ox, oy⟩ := o
  obtain ⟨ex, ey⟩ := e
  obtain ⟨ux, uy⟩ := u
  obtain ⟨vx, vy⟩ := v
  obtain ⟨wx, wy⟩ := w
  simp only [T3, tw]
  grind
theorem btw_of {L s a b q : Int} (hL : 0 < L) (h0 : 0 ≤ s) (h1 : s ≤ L) (h : L * (q - a) = s * (b - a)) : min a b ≤ q ∧ q ≤ max a b := by
  have k : L * (b - q) = (L - s) * (b - a) := by grind
  have k2 : L * (a - q) = s * (a - b) := by grind
  have k3 : L * (q - b) = (L - s) * (a - b) := by grind
  have h2 : 0 ≤ L - s := by omega
  rcases Int.le_total a b with c | c
  · have c' : 0 ≤ b - a := by omega
    have u := nn_of hL (h ▸ Int.mul_nonneg h0 c')
    have w := nn_of hL (k ▸ Int.mul_nonneg h2 c')
    omega
  · have c' : 0 ≤ a - b := by omega
    have u := nn_of hL (k2 ▸ Int.mul_nonneg h0 c')
    have w := nn_of hL (k3 ▸ Int.mul_nonneg h2 c')
    omega
section TWOS
variable {A B : Int} {t0 k : Nat} {D : Pt → Prop} {H W : PL} {a b c d p q v : Pt}
theorem on_of (h1 : lv A B a < lv A B b) (h2 : lv A B a ≤ lv A B q) (h3 : lv A B q ≤ lv A B b) (t : T3 a b q = 0) : On a b q := by
  have hL := Int.sub_pos_of_lt h1
  have e1 := id_x A B a b q
  have e2 := id_y A B a b q
  rw [t, Int.mul_zero] at e1 e2
  rw [Int.sub_zero] at e1
  rw [Int.add_zero] at e2
  have k1 := btw_of hL (Int.sub_nonneg_of_le h2) (Int.sub_le_sub_right h3 _) e1
  have k2 := btw_of hL (Int.sub_nonneg_of_le h2) (Int.sub_le_sub_right h3 _) e2
  exact ⟨k1.1, k1.2, k2.1, k2.2, t⟩
/-- what lies on an edge's line is between its ends -/
theorem chn_btw (h : chn A B t0 D H) {j : Nat} (h1 : t0 ≤ j) (h2 : j + 1 < H.length) (hq : D q) (t : T3 (pt H j) (pt H (j + 1)) q = 0) : lv A B (pt H j) ≤ lv A B q ∧ lv A B q ≤ lv A B (pt H (j + 1)) := by
  obtain ⟨q1, q2, q3, q4, q5, q6⟩ := h
  refine ⟨Int.not_lt.mp fun c => ?_, Int.not_lt.mp fun c => ?_⟩
  · by_cases e : j = t0
    · rw [e] at c
      exact absurd (q5 q hq).1 (Int.not_le.mpr c)
    · have w1 := q2 (j - 1) (by omega) (by omega)
      have w2 := q3 (j - 1) (by omega) (by omega)
      have w3 := q4 (j - 1) (by omega) (by omega) q hq
      have w4 := q2 j h1 h2
      rw [show j - 1 + 1 = j by omega] at w1 w3
      rw [show j - 1 + 1 = j by omega, show j - 1 + 2 = j + 1 by omega] at w2
      have := q4c w1 (Int.le_of_lt w4) c w2 w3
      omega
  · by_cases e : j + 2 = H.length
    · rw [show j + 1 = H.length - 1 by omega] at c
      exact absurd (q5 q hq).2 (Int.not_le.mpr c)
    · have w1 := q2 j h1 h2
      have w2 := q3 j h1 (by omega)
      have w3 := q4 (j + 1) (by omega) (by omega) q hq
      have w4 := q2 (j + 1) (by omega) (by omega)
      have := q4a w1 w4 c w2 w3
      omega
theorem chn_on (h : chn A B t0 D H) {j : Nat} (h1 : t0 ≤ j) (h2 : j + 1 < H.length) (hq : D q) : 0 < T3 (pt H j) (pt H (j + 1)) q ∨ On (pt H j) (pt H (j + 1)) q := by
  have n := h.2.2.2.1 j h1 h2 q hq
  rcases Int.lt_or_eq_of_le n with c | c
  · exact Or.inl c
  · have w := chn_btw h h1 h2 hq c.symm
    exact Or.inr (on_of (h.2.1 j h1 h2) w.1 w.2 c.symm)
theorem sh_len (h : 1 < H.length) : (shut H).length = H.length - 1 := by
  unfold shut
  rw [if_pos h, List.length_dropLast]
theorem sh_at (h : 1 < H.length) {j : Nat} (hj : j < H.length - 1) : pt (shut H) j = pt H j := by
  unfold shut
  rw [if_pos h]
  exact pt_dl (by omega)
theorem sh_nx (h : 1 < H.length) (e : pt H (H.length - 1) = pt H 0) {j : Nat} (hj : j < H.length - 1) : pt (shut H) (nxt (H.length - 1) j) = pt H (j + 1) := by
  unfold nxt
  by_cases c : j + 1 < H.length - 1
  · rw [if_pos c, sh_at h c]
  · rw [if_neg c, sh_at h (by omega), ← e]
    congr 1
    omega
/-- what the closed figure H is of the points D: its corners are points of D, the first is the least, no two are the same, and D is left of each edge or on it -/
def hul (D : Pt → Prop) (W : PL) : Prop := 0 < W.length ∧ (∀ i, i < W.length → D (pt W i)) ∧ (∀ q, D q → lv 100000 1 (pt W 0) ≤ lv 100000 1 q) ∧ (∀ i j, i < j → j < W.length → pt W i ≠ pt W j) ∧ ∀ i, i < W.length → ∀ q, D q → 0 < T3 (pt W i) (pt W (nxt W.length i)) q ∨ On (pt W i) (pt W (nxt W.length i)) q
/-- each corner is left of each edge that it does not end -/
def edL (W : PL) : Prop := ∀ i, i < W.length → ∀ k, k < W.length → k ≠ i → k ≠ nxt W.length i → 0 < T3 (pt W i) (pt W (nxt W.length i)) (pt W k)
theorem two_left (h : two A B D H k) {j : Nat} (hj : j + 1 < H.length) (hq : D q) : 0 < T3 (pt H j) (pt H (j + 1)) q ∨ On (pt H j) (pt H (j + 1)) q := by
  obtain ⟨k0, k1, h1, h2, h3⟩ := h
  by_cases c : j + 1 < k
  · have := chn_on h1 (j := j) (Nat.zero_le _) (by rw [List.length_take]; omega) hq
    rw [pt_take (by omega), pt_take c] at this
    exact this
  · exact chn_on h2 (by omega) hj hq
theorem two_D (h : two A B D H k) {j : Nat} (hj : j < H.length) : D (pt H j) := by
  obtain ⟨k0, k1, h1, h2, h3⟩ := h
  by_cases c : j < k
  · have := h1.2.2.2.2.2 j (Nat.zero_le _) (by rw [List.length_take]; omega)
    rw [pt_take c] at this
    exact this
  · exact h2.2.2.2.2.2 j (by omega) hj
theorem two_min (h : two A B D H k) (hq : D q) : lv A B (pt H 0) ≤ lv A B q := by
  obtain ⟨k0, k1, h1, h2, h3⟩ := h
  have := (h1.2.2.2.2.1 q hq).1
  rw [pt_take k0] at this
  exact this
theorem two_max (h : two A B D H k) (hq : D q) : lv A B q ≤ lv A B (pt H (k - 1)) := by
  obtain ⟨k0, k1, h1, h2, h3⟩ := h
  have := (h2.2.2.2.2.1 q hq).1
  rw [lv_neg, lv_neg] at this
  omega
theorem two_dif (h : two A B D H k) : ∀ i j, i < j → j + 1 < H.length → pt H i ≠ pt H j := by
  obtain ⟨k0, k1, h1, h2, h3⟩ := h
  have e : (H.take k).length = k := by rw [List.length_take]; omega
  refine two_inj h1 (D' := D) ?_ (fun _ w => w) (fun j hj => ?_)
  · rw [e]
    exact h2
  · rw [pt_take (by omega)]
theorem two_turn (h : two A B D H k) {j : Nat} (hj : j + 2 < H.length) (e : j + 1 ≠ k - 1) : 0 < T3 (pt H j) (pt H (j + 1)) (pt H (j + 2)) := by
  obtain ⟨k0, k1, h1, h2, h3⟩ := h
  by_cases c : j + 2 < k
  · have := h1.2.2.1 j (Nat.zero_le _) (by rw [List.length_take]; omega)
    rw [pt_take (by omega), pt_take (by omega), pt_take c] at this
    exact this
  · exact h2.2.2.1 j (by omega) hj
theorem mid_no (h1 : lv A B a < lv A B v) (h2 : lv A B v < lv A B b) (t : T3 a b v = 0) (n1 : 0 ≤ T3 c v a) (n2 : 0 ≤ T3 c v b) (n3 : 0 ≤ T3 v d a) (n4 : 0 ≤ T3 v d b) (tt : 0 < T3 c v d) : False := by
  have g1 := Int.sub_pos_of_lt h1
  have g2 := Int.sub_pos_of_lt h2
  have e1 := id_m A B a b c v
  have e2 := id_m2 A B a b d v
  have e3 := id_v A B a c d v
  rw [t, Int.zero_mul] at e1 e2
  have w1 := Int.mul_nonneg (Int.le_of_lt g2) n1
  have w2 := Int.mul_nonneg (Int.le_of_lt g1) n2
  have w3 := Int.mul_nonneg (Int.le_of_lt g2) n3
  have w4 := Int.mul_nonneg (Int.le_of_lt g1) n4
  have z1 : T3 c v a = 0 := zero_of g2 (by omega)
  have z2 : T3 v d a = 0 := zero_of g2 (by omega)
  rw [z1, z2, Int.mul_zero, Int.mul_zero] at e3
  have := zero_of g1 e3
  omega
theorem nn_or (h : 0 < T3 a b q ∨ On a b q) : 0 ≤ T3 a b q := by
  rcases h with h | h
  · exact Int.le_of_lt h
  · have e : T3 a b q = 0 := h.2.2.2.2
    omega
theorem two_mid (h : two A B D H k) (inj : ∀ p q, D p → D q → lv A B p = lv A B q → p = q) {i m : Nat} (hi : i + 1 < H.length) (hm : m + 1 < H.length) (d1 : pt H m ≠ pt H i) (d2 : pt H m ≠ pt H (i + 1)) : 0 < T3 (pt H i) (pt H (i + 1)) (pt H m) := by
  have dm := two_D h (j := m) (by omega)
  have di := two_D h (j := i) (by omega)
  have di2 := two_D h hi
  rcases two_left h hi dm with c | c
  · exact c
  have t : T3 (pt H i) (pt H (i + 1)) (pt H m) = 0 := c.2.2.2.2
  exfalso
  have m0 := two_min h di
  have m1 := two_max h di
  have m2 := two_min h di2
  have m3 := two_max h di2
  have key : ∀ a b, (a = pt H i ∧ b = pt H (i + 1)) ∨ (a = pt H (i + 1) ∧ b = pt H i) → lv A B a < lv A B (pt H m) → lv A B (pt H m) < lv A B b → False := fun a b hab la lb => by
    have e1 : m ≠ 0 := fun e => by
      rw [e] at la
      rcases hab with ⟨r, _⟩ | ⟨r, _⟩ <;> rw [r] at la <;> omega
    have e2 : m ≠ k - 1 := fun e => by
      rw [e] at lb
      rcases hab with ⟨_, r⟩ | ⟨_, r⟩ <;> rw [r] at lb <;> omega
    have tt := two_turn h (j := m - 1) (by omega) (by omega)
    have n1 := fun q (hq : D q) => nn_or (two_left h (j := m - 1) (by omega) hq)
    have n2 := fun q (hq : D q) => nn_or (two_left h (j := m) hm hq)
    rw [show m - 1 + 1 = m by omega, show m - 1 + 2 = m + 1 by omega] at tt
    rw [show m - 1 + 1 = m by omega] at n1
    rcases hab with ⟨r1, r2⟩ | ⟨r1, r2⟩
    · subst r1 r2
      exact mid_no la lb t (n1 _ di) (n1 _ di2) (n2 _ di) (n2 _ di2) tt
    · subst r1 r2
      refine mid_no la lb ?_ (n1 _ di2) (n1 _ di) (n2 _ di2) (n2 _ di) tt
      rw [T3_rot, T3_swap]
      omega
  by_cases ck : i + 1 < k
  · obtain ⟨k0, k1, h1, h2, h3⟩ := h
    have w := chn_btw h1 (j := i) (Nat.zero_le _) (by rw [List.length_take]; omega) dm (by rw [pt_take (by omega), pt_take ck]; exact t)
    rw [pt_take (by omega), pt_take ck] at w
    refine key _ _ (Or.inl ⟨rfl, rfl⟩) ?_ ?_
    · rcases Int.lt_or_eq_of_le w.1 with g | g
      · exact g
      · exact absurd (inj _ _ dm di g.symm) d1
    · rcases Int.lt_or_eq_of_le w.2 with g | g
      · exact g
      · exact absurd (inj _ _ dm di2 g) d2
  · obtain ⟨k0, k1, h1, h2, h3⟩ := h
    have w := chn_btw h2 (j := i) (by omega) hi dm t
    rw [lv_neg, lv_neg, lv_neg] at w
    refine key _ _ (Or.inr ⟨rfl, rfl⟩) ?_ ?_
    · rcases Int.lt_or_eq_of_le w.2 with g | g
      · omega
      · exact absurd (inj _ _ dm di2 (by omega)) d2
    · rcases Int.lt_or_eq_of_le w.1 with g | g
      · omega
      · exact absurd (inj _ _ dm di (by omega)) d1
theorem two_hul (h : two 100000 1 D H k) (inj : ∀ p q, D p → D q → lv 100000 1 p = lv 100000 1 q → p = q) : hul D (shut H) ∧ edL (shut H) := by
  have k0 := h.1
  have k1 := h.2.1
  have hl := h.2.2.2.2
  by_cases c : 1 < H.length
  · have el := sh_len c
    have dif : ∀ i j, i < j → j < H.length - 1 → pt (shut H) i ≠ pt (shut H) j := fun i j hij hj => by
      rw [sh_at c (by omega), sh_at c hj]
      exact two_dif h i j hij (by omega)
    refine ⟨⟨by rw [el]; omega, fun i hi => ?_, fun q hq => ?_, fun i j hij hj => ?_, fun i hi q hq => ?_⟩, fun i hi m hm e1 e2 => ?_⟩
    · rw [el] at hi
      rw [sh_at c hi]
      exact two_D h (by omega)
    · rw [sh_at c (by omega)]
      exact two_min h hq
    · rw [el] at hj
      exact dif i j hij hj
    · rw [el] at hi ⊢
      rw [sh_nx c hl hi, sh_at c hi]
      exact two_left h (by omega) hq
    · rw [el] at hi hm e2 ⊢
      have d1 : pt (shut H) m ≠ pt (shut H) i := by
        rcases Nat.lt_or_gt_of_ne e1 with g | g
        · exact dif m i g hi
        · exact fun e => dif i m g hm e.symm
      have d2 : pt (shut H) m ≠ pt (shut H) (nxt (H.length - 1) i) := by
        have hn : nxt (H.length - 1) i < H.length - 1 := by
          unfold nxt
          split <;> omega
        rcases Nat.lt_or_gt_of_ne e2 with g | g
        · exact dif m _ g hn
        · exact fun e => dif _ m g hm e.symm
      rw [sh_nx c hl hi, sh_at c hm] at d2
      rw [sh_at c hi, sh_at c hm] at d1
      rw [sh_nx c hl hi, sh_at c hi, sh_at c hm]
      exact two_mid h inj (by omega) (by omega) d1 d2
  · have e1 : H.length = 1 := by omega
    have es : shut H = H := by
      unfold shut
      rw [if_neg c]
    have d0 := two_D h (j := 0) (by omega)
    have all : ∀ q, D q → q = pt H 0 := fun q hq => by
      refine inj q _ hq d0 (Int.le_antisymm ?_ (two_min h hq))
      have := two_max h hq
      rw [show k - 1 = 0 by omega] at this
      exact this
    rw [es]
    refine ⟨⟨by omega, fun i hi => ?_, fun q hq => two_min h hq, fun i j hij hj => absurd hj (by omega), fun i hi q hq => Or.inr ?_⟩, fun i hi m hm e1 _ => absurd e1 (by omega)⟩
    · exact two_D h hi
    · rw [all q hq, show i = 0 by omega, e1]
      show On (pt H 0) (pt H 0) (pt H 0)
      refine ⟨by omega, by omega, by omega, by omega, T3_aa _ _⟩
/-- all threes of corners in order turn left -/
theorem ed_tri (h : edL W) {i j : Nat} (hij : i < j) : ∀ n, j + n + 1 < W.length → 0 < T3 (pt W i) (pt W j) (pt W (j + n + 1))
  | 0, hn => by
    have := h j (by omega) i (by omega) (by omega) (by unfold nxt; rw [if_pos (by omega)]; omega)
    unfold nxt at this
    rw [if_pos (by omega)] at this
    rw [T3_rot]
    exact this
  | n + 1, hn => by
    have ih := ed_tri h hij n (by omega)
    have en : nxt W.length i = i + 1 := by
      unfold nxt
      rw [if_pos (by omega)]
    have n1 := h i (by omega) (j + n + 1) (by omega) (by omega) (by rw [en]; omega)
    have n2 := h i (by omega) (j + n + 2) (by omega) (by omega) (by rw [en]; omega)
    have n3 := h (j + n + 1) (by omega) i (by omega) (by omega) (by unfold nxt; rw [if_pos (by omega)]; omega)
    rw [show nxt W.length (j + n + 1) = j + n + 2 by unfold nxt; rw [if_pos (by omega)]] at n3
    have n4 : 0 ≤ T3 (pt W i) (pt W (i + 1)) (pt W j) := by
      by_cases e : j = i + 1
      · rw [e, T3_bb]
        exact Int.le_refl _
      · have := h i (by omega) j (by omega) (by omega) (by rw [en]; exact e)
        rw [en] at this
        exact Int.le_of_lt this
    rw [en] at n1 n2
    refine pos_of n1 ?_
    rw [show j + (n + 1) + 1 = j + n + 2 by omega, id_p]
    rw [← T3_rot] at n3
    exact sum_pos2 (Int.mul_nonneg n4 (Int.le_of_lt n3)) (Int.mul_pos n2 ih)
end TWOS

