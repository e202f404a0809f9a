/-! THE LAYER: a world as a function from addresses to cells; one judgement 'Ev' for a method's body; every number an Int -/
-- numbers
def iN (z : Int) : Int32 := Int32.ofInt z
def lI (z : Int) : Int64 := Int64.ofInt z
theorem iN_add (a b : Int) : iN a + iN b = iN (a + b) := (Int32.ofInt_add a b).symm
theorem iN_sub (a b : Int) : iN a - iN b = iN (a - b) := (Int32.ofInt_sub a b).symm
theorem iN_mul (a b : Int) : iN a * iN b = iN (a * b) := (Int32.ofInt_mul a b).symm
theorem iN_neg (a : Int) : -iN a = iN (-a) := (Int32.ofInt_neg a).symm
theorem lI_add (a b : Int) : lI a + lI b = lI (a + b) := (Int64.ofInt_add a b).symm
theorem lI_sub (a b : Int) : lI a - lI b = lI (a - b) := (Int64.ofInt_sub a b).symm
theorem lI_mul (a b : Int) : lI a * lI b = lI (a * b) := (Int64.ofInt_mul a b).symm
abbrev r32 (z : Int) : Prop := -2147483648 ≤ z ∧ z < 2147483648
abbrev r64 (z : Int) : Prop := -9223372036854775808 ≤ z ∧ z < 9223372036854775808
theorem iN_toInt {z : Int} (h : r32 z) : (iN z).toInt = z := by
  exact Int32.toInt_ofInt_of_le (by have := h.1; omega) (by have := h.2; omega)
theorem lI_toInt {z : Int} (h : r64 z) : (lI z).toInt = z := by
  exact Int64.toInt_ofInt_of_le (by have := h.1; omega) (by have := h.2; omega)
theorem iN_asI (x : Int32) : iN x.toInt = x := Int32.ofInt_toInt x
theorem lI_asI (x : Int64) : lI x.toInt = x := Int64.ofInt_toInt x
theorem r32_of (x : Int32) : r32 x.toInt := by
  have h1 := Int32.le_toInt x
  have h2 := Int32.toInt_lt x
  exact ⟨by omega, by omega⟩
theorem r64_of (x : Int64) : r64 x.toInt := by
  have h1 := Int64.le_toInt x
  have h2 := Int64.toInt_lt x
  exact ⟨by omega, by omega⟩
theorem iN_lt {a b : Int} (ha : r32 a) (hb : r32 b) : iN a < iN b ↔ a < b := by rw [Int32.lt_iff_toInt_lt, iN_toInt ha, iN_toInt hb]
theorem iN_le {a b : Int} (ha : r32 a) (hb : r32 b) : iN a ≤ iN b ↔ a ≤ b := by rw [Int32.le_iff_toInt_le, iN_toInt ha, iN_toInt hb]
theorem iN_eq {a b : Int} (ha : r32 a) (hb : r32 b) : iN a = iN b ↔ a = b := by
  constructor
  · intro h
    have h2 := congrArg Int32.toInt h
    rwa [iN_toInt ha, iN_toInt hb] at h2
  · intro h
    rw [h]
theorem lI_lt {a b : Int} (ha : r64 a) (hb : r64 b) : lI a < lI b ↔ a < b := by rw [Int64.lt_iff_toInt_lt, lI_toInt ha, lI_toInt hb]
theorem lI_eq {a b : Int} (ha : r64 a) (hb : r64 b) : lI a = lI b ↔ a = b := by
  constructor
  · intro h
    have h2 := congrArg Int64.toInt h
    rwa [lI_toInt ha, lI_toInt hb] at h2
  · intro h
    rw [h]
theorem iN_0 : iN 0 = 0 := rfl
theorem r32_0 : r32 0 := ⟨by decide, by decide⟩
theorem iN_i2l {a : Int} (ha : r32 a) : (iN a).toInt64 = lI a := by
  apply Int64.toInt.inj
  rw [Int32.toInt_toInt64, iN_toInt ha, lI_toInt ⟨by have := ha.1; omega, by have := ha.2; omega⟩]
theorem lI_l2i {a : Int} : (lI a).toInt32 = iN a := by
  unfold lI iN
  exact Int64.toInt32_ofInt
theorem r64_0 : r64 0 := ⟨by decide, by decide⟩
theorem iN_tdiv {a b : Int} (ha : r32 a) (hb : r32 b) : iN a / iN b = iN (a.tdiv b) := by
  apply Int32.toInt.inj
  rw [Int32.toInt_div, iN_toInt ha, iN_toInt hb]
  unfold iN
  rw [Int32.toInt_ofInt]
theorem lI_tdiv {a b : Int} (ha : r64 a) (hb : r64 b) : lI a / lI b = lI (a.tdiv b) := by
  apply Int64.toInt.inj
  rw [Int64.toInt_div, lI_toInt ha, lI_toInt hb]
  unfold lI
  rw [Int64.toInt_ofInt]
theorem iN_tm (a b : Int) : a - a.tdiv b * b = a.tmod b := by
  have h := Int.tmod_add_mul_tdiv a b
  rw [Int.mul_comm] at h
  omega
theorem lg_cmp_lI {x y : Int} (hx : r64 x) (hy : r64 y) : lg_cmp (lI x) (lI y) = iN (if x < y then -1 else if x = y then 0 else 1) := by
  unfold lg_cmp
  have e1 := lI_lt hx hy
  have e2 := lI_lt hy hx
  have e5 := lI_eq hx hy
  by_cases c1 : x < y
  · have c2 : ¬ x = y := by omega
    have c3 : ¬ y < x := by omega
    simp only [c1, c2, c3, iff_true, iff_false] at e1 e2 e5
    simp [e1, e2, e5, c1, c2]
    try rfl
  · by_cases c2 : x = y
    · have c3 : ¬ y < x := by omega
      simp only [c1, c2, c3, iff_true, iff_false] at e1 e2 e5
      subst c2
      simp
      try rfl
    · have c3 : y < x := by omega
      simp only [c1, c2, c3, iff_true, iff_false] at e1 e2 e5
      simp [e1, e2, e5, c1, c2]
      try rfl
theorem iN_in {z : Int} {n : Nat} (h0 : 0 ≤ z) (h : z < n) (hn : n ≤ 2147483647) : vp_in (iN z) n := by
  rw [vp_in_iff, iN_toInt ⟨by omega, by omega⟩]
  exact ⟨h0, h⟩
theorem iN_clamp {z : Int} (h0 : 0 ≤ z) (h : z < 2147483648) : (iN z).toNatClampNeg = z.toNat := by
  unfold Int32.toNatClampNeg
  rw [iN_toInt ⟨by omega, h⟩]
theorem iN_nat (n : Nat) : nI n = iN n := by
  unfold nI iN
  exact (Int32.ofInt_eq_ofNat).symm

