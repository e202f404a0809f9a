/-! The mathematics of the law's checks: the sides of what is left are open -/
abbrev P3 : Type := Pt × Pt × Pt
def tsum (A B D : Int) : List P3 → Pt → Int
  | [], _ => 0
  | T :: Ts, z => tS A B (sc D T.1) (sc D T.2.1) (sc D T.2.2) z + tsum A B D Ts z
def inL3 (L : PL) (p : Pt) : Prop := ∃ i, i < L.length ∧ p = pt L i
/-- what is left of L when the triangles Ts have been cut off -/
def Jp (L M : PL) (w : Int) (Ts : List P3) : Prop :=
  (Smp (-1) 100000 (pt M) M.length ∧ 2 * mu (-1) 100000 (pt M) M.length + 1 = w) ∧
  (∀ e, e ∈ M → e ∈ L) ∧
  (∀ T, T ∈ Ts → 0 < w * T3 T.1 T.2.1 T.2.2 ∧ inL3 L T.1 ∧ inL3 L T.2.1 ∧ inL3 L T.2.2) ∧
  (∀ D, 0 < D → ∀ A B z, wN A B (fun i => sc D (pt L i)) L.length z = wN A B (fun i => sc D (pt M i)) M.length z + tsum A B D Ts z) ∧
  (∀ i, i < L.length → (∃ j, j < M.length ∧ pt M j = pt L i ∧ pt M (nxt M.length j) = pt L (nxt L.length i)) ∨ ∃ T, T ∈ Ts ∧ ((T.1 = pt L i ∧ T.2.1 = pt L (nxt L.length i)) ∨ (T.2.1 = pt L i ∧ T.2.2 = pt L (nxt L.length i))))
section MSIDE
variable {A B w X D : Int} {v : Nat → Pt} {a b c p q r s z Z : Pt} {i j k n : Nat} {L M : PL} {Ts : List P3} {T : P3}
theorem M_in (h : Jp L M w Ts) (hi : i < M.length) : inL3 L (pt M i) := by
  have m := h.2.1 _ (getD_mem hi)
  obtain ⟨k, hk, ek⟩ := List.mem_iff_getElem.mp m
  refine ⟨k, hk, ?_⟩
  have e : L.getD k d3 = M.getD i d3 := by
    rw [List.getD_eq_getElem?_getD, List.getElem?_eq_getElem hk]
    exact ek
  show ((M.getD i d3).1, (M.getD i d3).2.1) = ((L.getD k d3).1, (L.getD k d3).2.1)
  rw [e]
/-- twice the triangles' numbers -/
def osum (A B D : Int) (Ts : List P3) (z : Pt) : Int := tsum A B D Ts z + tsum (-A) (-B) D Ts z
theorem os_cons : osum A B D (T :: Ts) z = oT A B (sc D T.1) (sc D T.2.1) (sc D T.2.2) z + osum A B D Ts z := by
  unfold osum oT
  show tS A B _ _ _ z + tsum A B D Ts z + (tS (-A) (-B) _ _ _ z + tsum (-A) (-B) D Ts z) = _
  omega
theorem os_ge : ∀ Ts : List P3, (∀ T, T ∈ Ts → 0 ≤ w * oT A B (sc D T.1) (sc D T.2.1) (sc D T.2.2) z) → 0 ≤ w * osum A B D Ts z ∧ ∀ T, T ∈ Ts → w * oT A B (sc D T.1) (sc D T.2.1) (sc D T.2.2) z ≤ w * osum A B D Ts z
  | [], _ => ⟨by
      show 0 ≤ w * (0 + 0)
      rw [Int.add_zero, Int.mul_zero]
      exact Int.le_refl 0, fun T h => absurd h List.not_mem_nil⟩
  | T :: Ts, h => by
    have ih := os_ge Ts fun T' h' => h T' (List.mem_cons_of_mem _ h')
    have h0 := h T List.mem_cons_self
    rw [os_cons, Int.mul_add]
    refine ⟨by omega, fun T' h' => ?_⟩
    rcases List.mem_cons.mp h' with e | e
    · rw [e]
      omega
    · have := ih.2 T' e
      omega
/-- a place on a side of what is left, but at no end, isn't outside, nor within a triangle -/
theorem side (hL : Smp (-1) 100000 (pt L) L.length) (h : Jp L M w Ts) (hD : 0 < D) (hB : B ≠ 0) (inj : ∀ p q, (p = Z ∨ inL3 L p ∧ False ∨ ∃ p', inL3 L p' ∧ p = sc D p') → (q = Z ∨ inL3 L q ∧ False ∨ ∃ q', inL3 L q' ∧ q = sc D q') → lv A B p = lv A B q → p = q) (hwL : 2 * mu (-1) 100000 (pt L) L.length + 1 = w) (hj : j < M.length) (o : On (sc D (pt M j)) (sc D (pt M (nxt M.length j))) Z) (n1 : Z ≠ sc D (pt M j)) (n2 : Z ≠ sc D (pt M (nxt M.length j))) :
    1 ≤ w * om A B (fun i => sc D (pt L i)) L.length Z ∧ (2 * mu A B (fun i => sc D (pt L i)) L.length + 1 = w ∧ Smp A B (fun i => sc D (pt L i)) L.length) ∧ ∀ T, T ∈ Ts → ¬ (0 < w * T3 (sc D T.1) (sc D T.2.1) Z ∧ 0 < w * T3 (sc D T.2.1) (sc D T.2.2) Z ∧ 0 < w * T3 (sc D T.2.2) (sc D T.1) Z) := by
  have inZ : ∀ p, inL3 L p → lv A B Z = lv A B (sc D p) → Z = sc D p := fun p hp e => inj Z _ (Or.inl rfl) (Or.inr (Or.inr ⟨p, hp, rfl⟩)) e
  have inP : ∀ p q, inL3 L p → inL3 L q → lv A B (sc D p) = lv A B (sc D q) → sc D p = sc D q := fun p q hp hq e => inj _ _ (Or.inr (Or.inr ⟨p, hp, rfl⟩)) (Or.inr (Or.inr ⟨q, hq, rfl⟩)) e
  have sL0 := Smp_sc hD hL
  have sM0 := Smp_sc hD h.1.1
  have sL : Smp A B (fun i => sc D (pt L i)) L.length := Smp_fun sL0 fun i j hi hj e => inP _ _ ⟨i, hi, rfl⟩ ⟨j, hj, rfl⟩ e
  have sM : Smp A B (fun i => sc D (pt M i)) M.length := Smp_fun sM0 fun i j hi hj e => inP _ _ (M_in h hi) (M_in h hj) e
  have mL : 2 * mu A B (fun i => sc D (pt L i)) L.length + 1 = w := by
    rw [← mu_any (B := 100000) (by decide) (L.length + 1) L.length _ (by omega) sL0 sL, mu_sc hD]
    exact hwL
  have mM : 2 * mu A B (fun i => sc D (pt M i)) M.length + 1 = w := by
    rw [← mu_any (B := 100000) (by decide) (M.length + 1) M.length _ (by omega) sM0 sM, mu_sc hD]
    exact h.1.2
  have vL := om_val (z := Z) sL hB (fun i hi e => inZ _ ⟨i, hi, rfl⟩ e) mL
  have hv : ∀ i, i < M.length → lv A B Z ≠ lv A B (sc D (pt M i)) := fun i hi e => by
    have ez := inZ _ (M_in h hi) e
    rw [ez] at o
    rcases on_ends sM hj hi o with g | g
    · exact n1 (by rw [ez, g])
    · exact n2 (by rw [ez, g])
  have oM := om_edge (v := fun i => sc D (pt M i)) sM hj hv o
  have tot : om A B (fun i => sc D (pt L i)) L.length Z = w + osum A B D Ts Z := by
    have e1 := h.2.2.2.1 D hD A B Z
    have e2 := h.2.2.2.1 D hD (-A) (-B) Z
    unfold om at oM ⊢
    unfold osum
    omega
  have hw := vL.1
  have tg : ∀ T, T ∈ Ts → 0 ≤ w * oT A B (sc D T.1) (sc D T.2.1) (sc D T.2.2) Z ∧ (0 < w * T3 (sc D T.1) (sc D T.2.1) Z → 0 < w * T3 (sc D T.2.1) (sc D T.2.2) Z → 0 < w * T3 (sc D T.2.2) (sc D T.1) Z → oT A B (sc D T.1) (sc D T.2.1) (sc D T.2.2) Z = 2 * w) := fun T hT => by
    obtain ⟨t0, t1, t2, t3⟩ := h.2.2.1 T hT
    have hH : 0 < w * T3 (sc D T.1) (sc D T.2.1) (sc D T.2.2) := by
      rw [T3_sc, Int.mul_left_comm]
      exact Int.mul_pos (Int.mul_pos hD hD) t0
    have cl : ∀ p, (p = sc D T.1 ∨ p = sc D T.2.1 ∨ p = sc D T.2.2 ∨ p = Z) → (p = Z ∨ inL3 L p ∧ False ∨ ∃ p', inL3 L p' ∧ p = sc D p') := fun p hp => by
      rcases hp with e | e | e | e
      · exact Or.inr (Or.inr ⟨_, t1, e⟩)
      · exact Or.inr (Or.inr ⟨_, t2, e⟩)
      · exact Or.inr (Or.inr ⟨_, t3, e⟩)
      · exact Or.inl e
    exact tri_ge hw hH hB fun p q hp hq e => inj p q (cl p hp) (cl q hq) e
  have og := os_ge (A := A) (B := B) (D := D) (z := Z) (w := w) Ts fun T hT => (tg T hT).1
  have ww1 : w * w = 1 := by
    rcases hw with e | e <;> rw [e] <;> rfl
  have tot' : w * om A B (fun i => sc D (pt L i)) L.length Z = 1 + w * osum A B D Ts Z := by
    rw [tot, Int.mul_add, ww1]
  refine ⟨by omega, ⟨mL, sL⟩, fun T hT g => ?_⟩
  have e := (tg T hT).2 g.1 g.2.1 g.2.2
  have le := og.2 T hT
  rw [e, Int.mul_left_comm, ww1] at le
  omega
theorem id_e2 (a c q r s : Pt) : T3 q r c * T3 r s a - T3 q r a * T3 r s c = - (T3 q r s * T3 a c r) := by
  obtain ⟨a1, a2⟩ := a
  obtain ⟨c1, c2⟩ := c
  obtain ⟨q1, q2⟩ := q
  obtain ⟨r1, r2⟩ := r
  obtain ⟨s1, s2⟩ := s
  simp only [T3, tw]
  grind
theorem id_e3 (a c q r s : Pt) : T3 q r c * T3 s q a - T3 q r a * T3 s q c = T3 q r s * T3 a c q := by
  obtain ⟨a1, a2⟩ := a
  obtain ⟨c1, c2⟩ := c
  obtain ⟨q1, q2⟩ := q
  obtain ⟨r1, r2⟩ := r
  obtain ⟨s1, s2⟩ := s
  simp only [T3, tw]
  grind
/-- what passes a triangle's side comes to lie within the triangle -/
theorem cross1 (hw : w = 1 ∨ w = -1) (hH : 0 < w * T3 q r s) (h : ps a c q r) (hc : 0 < w * T3 q r c) : ∃ D Z, 0 < D ∧ On (sc D a) (sc D c) Z ∧ Z ≠ sc D a ∧ Z ≠ sc D c ∧ 0 < w * T3 (sc D q) (sc D r) Z ∧ 0 < w * T3 (sc D r) (sc D s) Z ∧ 0 < w * T3 (sc D s) (sc D q) Z := by
  have ww1 : w * w = 1 := by
    rcases hw with e | e <;> rw [e] <;> rfl
  unfold ps at h
  rw [sg_mul, sg_mul] at h
  have ecs := (id_cs 0 0 a c q r).2
  have ca : w * T3 q r a < 0 := by
    rcases hw with e | e
    · rw [e, Int.one_mul] at hc ⊢
      omega
    · rw [e, Int.neg_mul, Int.one_mul] at hc ⊢
      omega
  have sq : 0 < w * T3 a c q ∧ w * T3 a c r < 0 := by
    rcases hw with e | e
    · rw [e, Int.one_mul] at hc ca ⊢
      rw [Int.one_mul]
      omega
    · rw [e, Int.neg_mul, Int.one_mul] at hc ca ⊢
      rw [Int.neg_mul, Int.one_mul]
      omega
  obtain ⟨g, hg⟩ : ∃ g, g = w * T3 q r c := ⟨_, rfl⟩
  obtain ⟨l, hl⟩ : ∃ l, l = -(w * T3 q r a) := ⟨_, rfl⟩
  obtain ⟨N, hN⟩ : ∃ N : Int, N = 1 + ((w * T3 r s c).natAbs : Int) + ((w * T3 s q c).natAbs : Int) := ⟨_, rfl⟩
  have g0 : 0 < g := by omega
  have l0 : 0 < l := by omega
  have N0 : 0 < N := by omega
  have Ng : 0 < N * g := Int.mul_pos N0 g0
  have Nl : 0 < N * l := Int.mul_pos N0 l0
  have E2 : 0 < g * (w * T3 r s a) + l * (w * T3 r s c) := by
    have e : g * (w * T3 r s a) + l * (w * T3 r s c) = (w * T3 q r s) * (-(w * T3 a c r)) := by
      have k := id_e2 a c q r s
      have k2 : w * w * (T3 q r c * T3 r s a - T3 q r a * T3 r s c) = w * w * (- (T3 q r s * T3 a c r)) := by rw [k]
      rw [hg, hl]
      grind
    rw [e]
    exact Int.mul_pos hH (by omega)
  have E3 : 0 < g * (w * T3 s q a) + l * (w * T3 s q c) := by
    have e : g * (w * T3 s q a) + l * (w * T3 s q c) = (w * T3 q r s) * (w * T3 a c q) := by
      have k := id_e3 a c q r s
      have k2 : w * w * (T3 q r c * T3 s q a - T3 q r a * T3 s q c) = w * w * (T3 q r s * T3 a c q) := by rw [k]
      rw [hg, hl]
      grind
    rw [e]
    exact Int.mul_pos hH sq.1
  have hD : 0 < N * g * 1 + (N * l + 1) * 1 := by omega
  have oa : On (sc 1 a) (sc 1 c) a := by
    rw [sc_1, sc_1]
    exact On_l _ _
  have oc : On (sc 1 a) (sc 1 c) c := by
    rw [sc_1, sc_1]
    exact On_r _ _
  have G : ∀ x y : Pt, w * T3 (sc (N * g * 1 + (N * l + 1) * 1) x) (sc (N * g * 1 + (N * l + 1) * 1) y) (ad (sc (N * g) a) (sc (N * l + 1) c)) = (N * g * 1 + (N * l + 1) * 1) * (N * (g * (w * T3 x y a) + l * (w * T3 x y c)) + w * T3 x y c) := fun x y => by
    rw [T3_G, Gk_ad, Gk_sc, Gk_sc, ← T3_G1, ← T3_G1]
    generalize N * g * 1 + (N * l + 1) * 1 = D
    grind
  have nac : ¬ (a.1 = c.1 ∧ a.2 = c.2) := fun e => by
    have : a = c := pt_eq e.1 e.2
    rw [this] at ca
    omega
  refine ⟨N * g * 1 + (N * l + 1) * 1, ad (sc (N * g) a) (sc (N * l + 1) c), hD, On_Bx.mpr ⟨Bx_ad (by omega) (by omega) (Bx_sc (by omega) (On_Bx.mp oa).1) (Bx_sc (by omega) (On_Bx.mp oc).1), ?_⟩, fun e => ?_, fun e => ?_, ?_, ?_, ?_⟩
  · rw [Gk_ad, Gk_sc, Gk_sc, ← T3_G1, ← T3_G1, T3_ba, T3_bb, Int.mul_zero, Int.mul_zero]
    exact Int.mul_zero _
  · have e1 : N * g * a.1 + (N * l + 1) * c.1 = (N * g * 1 + (N * l + 1) * 1) * a.1 := congrArg Prod.fst e
    have e2 : N * g * a.2 + (N * l + 1) * c.2 = (N * g * 1 + (N * l + 1) * 1) * a.2 := congrArg Prod.snd e
    have f1 : (N * l + 1) * (a.1 - c.1) = 0 := by grind
    have f2 : (N * l + 1) * (a.2 - c.2) = 0 := by grind
    have := zero_of (show 0 < N * l + 1 by omega) f1
    have := zero_of (show 0 < N * l + 1 by omega) f2
    exact nac ⟨by omega, by omega⟩
  · have e1 : N * g * a.1 + (N * l + 1) * c.1 = (N * g * 1 + (N * l + 1) * 1) * c.1 := congrArg Prod.fst e
    have e2 : N * g * a.2 + (N * l + 1) * c.2 = (N * g * 1 + (N * l + 1) * 1) * c.2 := congrArg Prod.snd e
    have f1 : (N * g) * (a.1 - c.1) = 0 := by grind
    have f2 : (N * g) * (a.2 - c.2) = 0 := by grind
    have := zero_of Ng f1
    have := zero_of Ng f2
    exact nac ⟨by omega, by omega⟩
  · rw [G]
    refine Int.mul_pos hD ?_
    have e : N * (g * (w * T3 q r a) + l * (w * T3 q r c)) + w * T3 q r c = g := by
      rw [hl, hg]
      grind
    rw [e]
    exact g0
  · rw [G]
    refine Int.mul_pos hD ?_
    have := Int.mul_le_mul_of_nonneg_left (show 1 ≤ g * (w * T3 r s a) + l * (w * T3 r s c) by omega) (Int.le_of_lt N0)
    rw [Int.mul_one] at this
    omega
  · rw [G]
    refine Int.mul_pos hD ?_
    have := Int.mul_le_mul_of_nonneg_left (show 1 ≤ g * (w * T3 s q a) + l * (w * T3 s q c) by omega) (Int.le_of_lt N0)
    rw [Int.mul_one] at this
    omega
theorem cross2 (hw : w = 1 ∨ w = -1) (hH : 0 < w * T3 q r s) (h : ps a c q r) : ∃ D Z, 0 < D ∧ On (sc D a) (sc D c) Z ∧ Z ≠ sc D a ∧ Z ≠ sc D c ∧ 0 < w * T3 (sc D q) (sc D r) Z ∧ 0 < w * T3 (sc D r) (sc D s) Z ∧ 0 < w * T3 (sc D s) (sc D q) Z := by
  by_cases c1 : 0 < w * T3 q r c
  · exact cross1 hw hH h c1
  · have h2 := h.2
    rw [sg_mul] at h2
    have c2 : 0 < w * T3 q r a := by
      rcases hw with e | e
      · rw [e, Int.one_mul] at c1 ⊢
        omega
      · rw [e, Int.neg_mul, Int.one_mul] at c1 ⊢
        omega
    obtain ⟨D, Z, d0, o, n1, n2, r1⟩ := cross1 hw hH (ps_sw h) c2
    exact ⟨D, Z, d0, On_sym o, n2, n1, r1⟩
end MSIDE
