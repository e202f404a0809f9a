/-! Points as pairs, cross products, and a linear measure -/
abbrev Pt : Type := Int × Int
def pt (L : PL) (i : Nat) : Pt := (pX L i, pY L i)
def T3 (a b c : Pt) : Int := tw a.1 a.2 b.1 b.2 c.1 c.2
def lv (A B : Int) (p : Pt) : Int := A * p.1 + B * p.2
theorem T3_rot (a b c : Pt) : T3 a b c = T3 b c a := by
  obtain ⟨ax, ay⟩ := a
  obtain ⟨bx, b2⟩ := b
  obtain ⟨cx, cy⟩ := c
  simp only [T3, tw]
  grind
theorem T3_swap (a b c : Pt) : T3 a c b = - T3 a b c := by
  obtain ⟨ax, ay⟩ := a
  obtain ⟨bx, b2⟩ := b
  obtain ⟨cx, cy⟩ := c
  simp only [T3, tw]
  grind
theorem T3_aa (a c : Pt) : T3 a a c = 0 := by
  obtain ⟨ax, ay⟩ := a
  obtain ⟨cx, cy⟩ := c
  simp only [T3, tw]
  grind
theorem T3_bb (a b : Pt) : T3 a b b = 0 := by
  rw [T3_rot]
  exact T3_aa b a
theorem T3_ba (a b : Pt) : T3 a b a = 0 := by
  rw [T3_rot, T3_rot]
  exact T3_aa a b
/-- what is before a left turn, and after it -/
theorem id_a (A B : Int) (a b c p : Pt) : (lv A B c - lv A B b) * T3 a b p = (lv A B b - lv A B a) * T3 b c p + (lv A B p - lv A B b) * T3 a b c := by
  obtain ⟨ax, ay⟩ := a
  obtain ⟨bx, b2⟩ := b
  obtain ⟨cx, cy⟩ := c
  obtain ⟨px, py⟩ := p
  simp only [T3, tw, lv]
  grind
theorem id_b (A B : Int) (a b p q : Pt) : (lv A B b - lv A B a) * T3 a p q = (lv A B q - lv A B a) * (- T3 a b p) + (lv A B p - lv A B a) * T3 a b q := by
  obtain ⟨ax, ay⟩ := a
  obtain ⟨bx, b2⟩ := b
  obtain ⟨qx, qy⟩ := q
  obtain ⟨px, py⟩ := p
  simp only [T3, tw, lv]
  grind
theorem id_c (A B : Int) (a b p q : Pt) : (lv A B b - lv A B a) * T3 b p q = (lv A B b - lv A B q) * T3 a b p + (lv A B p - lv A B b) * T3 a b q := by
  obtain ⟨ax, ay⟩ := a
  obtain ⟨bx, b2⟩ := b
  obtain ⟨qx, qy⟩ := q
  obtain ⟨px, py⟩ := p
  simp only [T3, tw, lv]
  grind
theorem pos_of {k z : Int} (hk : 0 < k) (h : 0 < k * z) : 0 < z := by
  rcases Int.lt_trichotomy 0 z with c | c | c
  · exact c
  · rw [← c, Int.mul_zero] at h
    exact absurd h (Int.lt_irrefl _)
  · exact absurd h (Int.lt_asymm (Int.mul_neg_of_pos_of_neg hk c))
theorem nn_of {k z : Int} (hk : 0 < k) (h : 0 ≤ k * z) : 0 ≤ z := by
  rcases Int.lt_or_le z 0 with c | c
  · exact absurd h (Int.not_le.mpr (Int.mul_neg_of_pos_of_neg hk c))
  · exact c
theorem zero_of {k z : Int} (hk : 0 < k) (h : k * z = 0) : z = 0 := by
  rcases Int.mul_eq_zero.mp h with c | c
  · omega
  · exact c
theorem sum_pos {x y : Int} (hx : 0 < x) (hy : 0 ≤ y) : 0 < x + y := by omega
theorem sum_pos2 {x y : Int} (hx : 0 ≤ x) (hy : 0 < y) : 0 < x + y := by omega
section CHAINS
variable {A B : Int} {a b c p q v d : Pt}
theorem q4a (h1 : lv A B a < lv A B b) (h2 : lv A B b < lv A B c) (h3 : lv A B b < lv A B p) (t1 : 0 < T3 a b c) (t2 : 0 ≤ T3 b c p) : 0 < T3 a b p := by
  refine pos_of (Int.sub_pos_of_lt h2) ?_
  rw [id_a]
  exact sum_pos2 (Int.mul_nonneg (Int.sub_nonneg_of_le (Int.le_of_lt h1)) t2) (Int.mul_pos (Int.sub_pos_of_lt h3) t1)
theorem q4b (h1 : lv A B a < lv A B b) (h2 : lv A B a ≤ lv A B p) (h3 : lv A B a ≤ lv A B q) (t1 : T3 a b p ≤ 0) (t2 : 0 ≤ T3 a b q) : 0 ≤ T3 a p q := by
  refine nn_of (Int.sub_pos_of_lt h1) ?_
  rw [id_b]
  exact Int.add_nonneg (Int.mul_nonneg (Int.sub_nonneg_of_le h3) (by omega)) (Int.mul_nonneg (Int.sub_nonneg_of_le h2) t2)
theorem q4c (h1 : lv A B a < lv A B b) (h2 : lv A B b ≤ lv A B p) (h3 : lv A B q < lv A B b) (t1 : 0 < T3 a b p) (t2 : 0 ≤ T3 a b q) : 0 < T3 b p q := by
  refine pos_of (Int.sub_pos_of_lt h1) ?_
  rw [id_c]
  exact sum_pos (Int.mul_pos (Int.sub_pos_of_lt h3) t1) (Int.mul_nonneg (Int.sub_nonneg_of_le h2) t2)
/-- a corner of the lower chain is no corner of the upper one -/
theorem q4d (h1 : lv A B a < lv A B v) (h2 : lv A B v < lv A B b) (h3 : lv A B d < lv A B v) (h4 : lv A B v < lv A B c) (t1 : 0 < T3 a v b) (t2 : 0 ≤ T3 v b c) (t3 : 0 < T3 c v d) (t4 : 0 ≤ T3 a v d) : False := by
  have k := q4a h1 h2 h4 t1 t2
  have k2 := q4c h1 (Int.le_of_lt h4) h3 k t4
  have e : T3 c v d = - T3 v c d := by
    rw [T3_rot, T3_swap, ← T3_rot]
  omega
theorem pt_eq {p q : Pt} (h1 : p.1 = q.1) (h2 : p.2 = q.2) : p = q := Prod.ext h1 h2
theorem pt_take {L : PL} {t j : Nat} (hj : j < t) : pt (L.take t) j = pt L j := by
  unfold pt pX pY
  simp [List.getD, List.getElem?_take, hj]
theorem pt_app1 {L M : PL} {j : Nat} (hj : j < L.length) : pt (L ++ M) j = pt L j := by
  unfold pt pX pY
  simp [List.getD, List.getElem?_append_left hj]
theorem pt_app2 {L : PL} {e : Int × Int × Int} : pt (L ++ [e]) L.length = (e.1, e.2.1) := by
  unfold pt pX pY
  simp [List.getD]
theorem pt_dl {L : PL} {j : Nat} (hj : j + 1 < L.length) : pt L.dropLast j = pt L j := by
  rw [List.dropLast_eq_take]
  exact pt_take (by omega)
theorem pt_tk1 {L : PL} {t j : Nat} {e : Int × Int × Int} (ht : t ≤ L.length) (hj : j < t) : pt (L.take t ++ [e]) j = pt L j := by
  rw [pt_app1 (by rw [List.length_take]; omega), pt_take hj]
theorem pt_tk2 {L : PL} {t : Nat} {e : Int × Int × Int} (ht : t ≤ L.length) : pt (L.take t ++ [e]) t = (e.1, e.2.1) := by
  have h : (L.take t).length = t := by rw [List.length_take]; omega
  have := pt_app2 (L := L.take t) (e := e)
  rw [h] at this
  exact this
theorem len_tk {L : PL} {t : Nat} {e : Int × Int × Int} (ht : t ≤ L.length) : (L.take t ++ [e]).length = t + 1 := by
  rw [List.length_append, List.length_take, List.length_singleton]
  omega
/-- where the popping stops -/
theorem popW_spec (k : Nat) (x y : Int) : ∀ (f : Nat) (L : PL), L.length ≤ f → ∃ t, t ≤ L.length ∧ popW k x y f L = L.take t ∧ (k ≤ L.length → k ≤ t) ∧ (k < t → 0 < T3 (pt L (t - 2)) (pt L (t - 1)) (x, y)) ∧ (t < L.length → k ≤ t ∧ T3 (pt L (t - 1)) (pt L t) (x, y) ≤ 0)
  | 0, L, h => ⟨L.length, Nat.le_refl _, by unfold popW; rw [List.take_length], fun w => w, fun w => absurd w (by omega), fun w => absurd w (Nat.lt_irrefl _)⟩
  | f + 1, L, h => by
    unfold popW
    by_cases c : L.length ≤ k ∨ turnL L x y
    · rw [if_pos c]
      refine ⟨L.length, Nat.le_refl _, by rw [List.take_length], fun w => w, fun w => ?_, fun w => absurd w (Nat.lt_irrefl _)⟩
      rcases c with c | c
      · omega
      · exact c
    · rw [if_neg c]
      have c1 : ¬ L.length ≤ k := fun w => c (Or.inl w)
      have c2 : ¬ turnL L x y := fun w => c (Or.inr w)
      have hl : L.dropLast.length = L.length - 1 := List.length_dropLast
      obtain ⟨t, t1, t2, t3, t4, t5⟩ := popW_spec k x y f L.dropLast (by omega)
      rw [hl] at t1 t3 t5
      refine ⟨t, by omega, ?_, fun _ => t3 (by omega), fun w => ?_, fun w => ⟨t3 (by omega), ?_⟩⟩
      · rw [t2, List.dropLast_eq_take, List.take_take]
        congr 1
        omega
      · have := t4 w
        rw [pt_dl (by omega), pt_dl (by omega)] at this
        exact this
      · by_cases e : t = L.length - 1
        · rw [e]
          have : ¬ 0 < T3 (pt L (L.length - 2)) (pt L (L.length - 1)) (x, y) := c2
          exact Int.not_lt.mp this
        · have := (t5 (by omega)).2
          have k0 := t3 (by omega)
          rw [pt_dl (by omega), pt_dl (by omega)] at this
          exact this
end CHAINS

