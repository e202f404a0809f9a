/-! The mathematics of the law's checks: a quotient of whole numbers, the first not above the second, is above 0 and not above 1 -/
theorem f_log {c : Nat} (h1 : 8388608 ≤ c) (h2 : c < 16777216) : c.log2 = 23 := (Nat.log2_eq_iff (by omega)).mpr ⟨h1, h2⟩
theorem f_dec {b : Nat} (h0 : 0 < b) (h1 : b < 16777216) : ∃ l : Nat, l < 24 ∧ FP.Core.decode FP.Core.b32 (FP.i2f (iN (b : Int))).toNat = .fin false (b * 2 ^ (23 - l)) ((l : Int) - 23) ∧ 8388608 ≤ b * 2 ^ (23 - l) ∧ b * 2 ^ (23 - l) < 16777216 := by
  obtain ⟨l, hl, e, c1, c2⟩ := rnd_int h0 h1
  refine ⟨l, hl, ?_, c1, c2⟩
  have ti : (iN (b : Int)).toInt = (b : Int) := iN_toInt ⟨by omega, by omega⟩
  have ei : FP.i2f (iN (b : Int)) = UInt32.ofNat (FP.Core.encode FP.Core.b32 (FP.Core.round FP.Core.b32 (FP.Core.ofInt (iN (b : Int)).toInt))) := rfl
  rw [ei, ti, e]
  have en : FP.Core.encode FP.Core.b32 (.fin false (b * 2 ^ (23 - l)) ((l : Int) - 23)) = FP.Core.assemble FP.Core.b32 false (((l : Int) - 23 - (-149)).toNat + 1) (b * 2 ^ (23 - l) - 8388608) := if_neg (show ¬ b * 2 ^ (23 - l) < 8388608 by omega)
  rw [en]
  have lt : FP.Core.assemble FP.Core.b32 false (((l : Int) - 23 - (-149)).toNat + 1) (b * 2 ^ (23 - l) - 8388608) < 2 ^ 32 := by
    show (0 * 256 + (((l : Int) - 23 - (-149)).toNat + 1)) * 8388608 + (b * 2 ^ (23 - l) - 8388608) < 4294967296
    omega
  rw [UInt32.toNat_ofNat', Nat.mod_eq_of_lt lt, dec_fin (by omega) (by omega) (by omega)]
  rw [show 8388608 + (b * 2 ^ (23 - l) - 8388608) = b * 2 ^ (23 - l) by omega, show (-149 : Int) + (((((l : Int) - 23 - (-149)).toNat + 1 : Nat) : Int) - 1) = (l : Int) - 23 by omega]
theorem f_near {n d : Nat} : n / d ≤ FP.Core.nearest n d ∧ FP.Core.nearest n d ≤ n / d + 1 := by
  unfold FP.Core.nearest
  have := Nat.mod_lt (n / d) (show 0 < 2 by decide)
  split
  · omega
  · split <;> omega
theorem f_mono {a b la lb : Nat} (hla : la < 24) (hlb : lb < 24) (hab : a ≤ b) (h1 : 8388608 ≤ a * 2 ^ (23 - la)) (h2 : b * 2 ^ (23 - lb) < 16777216) : la ≤ lb := by
  refine Classical.byContradiction fun c => ?_
  have e1 : (2 : Nat) ^ (23 - lb) = 2 ^ (23 - la) * 2 ^ (la - lb) := by
    rw [← Nat.pow_add]
    congr 1
    omega
  have e2 : 2 ≤ 2 ^ (la - lb) := by
    have : (2 : Nat) ^ 1 ≤ 2 ^ (la - lb) := Nat.pow_le_pow_right (by decide) (by omega)
    omega
  have e3 : a * 2 ^ (23 - la) * 2 ≤ b * 2 ^ (23 - lb) := by
    rw [e1, ← Nat.mul_assoc]
    exact Nat.mul_le_mul (Nat.mul_le_mul_right _ hab) e2
  omega
/-- what comes out of a division -/
def fOne (z : FP.Core.Datum) : Prop := ∃ (c : Nat) (q : Int), z = .fin false c q ∧ 8388608 ≤ c ∧ c < 16777216 ∧ -100 ≤ q ∧ q ≤ -23 ∧ (q = -23 → c = 8388608)
theorem f_settle {u : Nat} {q : Int} (h1 : 8388608 ≤ u) (h2 : u ≤ 16777216) (hq : -100 ≤ q) (hq2 : q ≤ -24 ∨ (q = -23 ∧ u = 8388608)) : fOne (FP.Core.settle FP.Core.b32 false u q) := by
  unfold FP.Core.settle
  by_cases c : u < 2 ^ FP.Core.b32.p
  · rw [if_pos c]
    have c2 : u < 16777216 := c
    exact ⟨u, q, if_pos (show q ≤ 104 by omega), h1, c2, hq, by omega, fun e => by omega⟩
  · rw [if_neg c]
    have c2 : ¬ u < 16777216 := c
    exact ⟨8388608, q + 1, if_pos (show q + 1 ≤ 104 by omega), by decide, by decide, by omega, by omega, fun _ => rfl⟩
theorem f_ratio {ca cb : Nat} {e : Int} (a1 : 8388608 ≤ ca) (a2 : ca < 16777216) (b1 : 8388608 ≤ cb) (b2 : cb < 16777216) (he : -30 ≤ e ∧ e ≤ 0) (h0 : e = 0 → ca ≤ cb) : fOne (FP.Core.roundRatio FP.Core.b32 false ca cb e) := by
  unfold FP.Core.roundRatio
  rw [if_neg (by omega)]
  by_cases c : cb ≤ ca
  · have lead : FP.Core.leading ca cb = 0 := by
      unfold FP.Core.leading
      rw [f_log a1 a2, f_log b1 b2]
      show (if cb * 2 ^ ((23 : Int) - 23).toNat ≤ ca * 2 ^ (-((23 : Int) - 23)).toNat then (23 : Int) - 23 else (23 : Int) - 23 - 1) = 0
      rw [show ((23 : Int) - 23).toNat = 0 from rfl, show (-((23 : Int) - 23)).toNat = 0 from rfl, if_pos (by omega)]
      rfl
    have q : FP.Core.quantum FP.Core.b32 ca cb e = e - 23 := by
      unfold FP.Core.quantum
      rw [lead]
      show max (-149 : Int) (0 + e - ((24 : Nat) - 1)) = _
      omega
    rw [q]
    unfold FP.Core.roundAt FP.Core.unitsNum FP.Core.unitsDen
    rw [show (e - (e - 23)).toNat = 23 by omega, show (e - 23 - e).toNat = 0 by omega, Nat.pow_zero, Nat.mul_one]
    have n1 := f_near (n := ca * 2 ^ 23) (d := cb)
    have e23 : (2 : Nat) ^ 23 = 8388608 := rfl
    rw [e23] at n1 ⊢
    have d1 : 8388608 ≤ ca * 8388608 / cb := (Nat.le_div_iff_mul_le (by omega)).mpr (by omega)
    have d2 : ca * 8388608 / cb < 16777216 := (Nat.div_lt_iff_lt_mul (by omega)).mpr (by omega)
    refine f_settle (by omega) (by omega) (by omega) ?_
    by_cases c0 : e = 0
    · have ec : ca = cb := by have := h0 c0; omega
      right
      refine ⟨by omega, ?_⟩
      unfold FP.Core.nearest
      rw [ec, Nat.mul_mod_right, if_pos (by omega), Nat.mul_div_cancel_left _ (by omega)]
    · left
      omega
  · have lead : FP.Core.leading ca cb = -1 := by
      unfold FP.Core.leading
      rw [f_log a1 a2, f_log b1 b2]
      show (if cb * 2 ^ ((23 : Int) - 23).toNat ≤ ca * 2 ^ (-((23 : Int) - 23)).toNat then (23 : Int) - 23 else (23 : Int) - 23 - 1) = -1
      rw [show ((23 : Int) - 23).toNat = 0 from rfl, show (-((23 : Int) - 23)).toNat = 0 from rfl, if_neg (by omega)]
      rfl
    have q : FP.Core.quantum FP.Core.b32 ca cb e = e - 24 := by
      unfold FP.Core.quantum
      rw [lead]
      show max (-149 : Int) (-1 + e - ((24 : Nat) - 1)) = _
      omega
    rw [q]
    unfold FP.Core.roundAt FP.Core.unitsNum FP.Core.unitsDen
    rw [show (e - (e - 24)).toNat = 24 by omega, show (e - 24 - e).toNat = 0 by omega, Nat.pow_zero, Nat.mul_one]
    have n1 := f_near (n := ca * 2 ^ 24) (d := cb)
    have e24 : (2 : Nat) ^ 24 = 16777216 := rfl
    rw [e24] at n1 ⊢
    have d1 : 8388608 ≤ ca * 16777216 / cb := (Nat.le_div_iff_mul_le (by omega)).mpr (by omega)
    have d2 : ca * 16777216 / cb < 16777216 := (Nat.div_lt_iff_lt_mul (by omega)).mpr (by omega)
    exact f_settle (by omega) (by omega) (by omega) (Or.inl (by omega))
theorem f_back {z : FP.Core.Datum} (h : fOne z) : FP.Core.decode FP.Core.b32 (UInt32.ofNat (FP.Core.encode FP.Core.b32 z)).toNat = z := by
  obtain ⟨c, q, rfl, h1, h2, h3, h4, -⟩ := h
  have en : FP.Core.encode FP.Core.b32 (.fin false c q) = FP.Core.assemble FP.Core.b32 false ((q - (-149)).toNat + 1) (c - 8388608) := if_neg (show ¬ c < 8388608 by omega)
  rw [en]
  have lt : FP.Core.assemble FP.Core.b32 false ((q - (-149)).toNat + 1) (c - 8388608) < 2 ^ 32 := by
    show (0 * 256 + ((q - (-149)).toNat + 1)) * 8388608 + (c - 8388608) < 4294967296
    omega
  rw [UInt32.toNat_ofNat', Nat.mod_eq_of_lt lt, dec_fin (by omega) (by omega) (by omega)]
  rw [show 8388608 + (c - 8388608) = c by omega, show (-149 : Int) + ((((q - (-149)).toNat + 1 : Nat) : Int) - 1) = q by omega]
theorem f_div {a b : Nat} (h0 : 0 < a) (hab : a ≤ b) (hb : b < 16777216) : ∃ z, fOne z ∧ FP.Core.decode FP.Core.b32 (FP.fdiv (FP.i2f (iN (a : Int))) (FP.i2f (iN (b : Int)))).toNat = z := by
  obtain ⟨la, hla, ea, a1, a2⟩ := f_dec h0 (show a < 16777216 by omega)
  obtain ⟨lb, hlb, eb, b1, b2⟩ := f_dec (show 0 < b by omega) hb
  have hm := f_mono hla hlb hab a1 b2
  have e0 : FP.fdiv (FP.i2f (iN (a : Int))) (FP.i2f (iN (b : Int))) = UInt32.ofNat (FP.Core.encode FP.Core.b32 (FP.Core.quotient FP.Core.b32 (FP.Core.decode FP.Core.b32 (FP.i2f (iN (a : Int))).toNat) (FP.Core.decode FP.Core.b32 (FP.i2f (iN (b : Int))).toNat))) := rfl
  have q : FP.Core.quotient FP.Core.b32 (.fin false (a * 2 ^ (23 - la)) ((la : Int) - 23)) (.fin false (b * 2 ^ (23 - lb)) ((lb : Int) - 23)) = FP.Core.roundRatio FP.Core.b32 false (a * 2 ^ (23 - la)) (b * 2 ^ (23 - lb)) ((la : Int) - 23 - ((lb : Int) - 23)) := by
    show (if b * 2 ^ (23 - lb) = 0 then _ else FP.Core.roundRatio FP.Core.b32 (false != false) _ _ _) = _
    rw [if_neg (by omega)]
    rfl
  have hz := f_ratio (e := (la : Int) - 23 - ((lb : Int) - 23)) a1 a2 b1 b2 (by omega) (fun w => by
    have : la = lb := by omega
    rw [this]
    exact Nat.mul_le_mul_right _ hab)
  rw [e0, ea, eb, q]
  exact ⟨_, hz, f_back hz⟩
theorem f_gt {a b : Int} (h : b < a) : compare a b = .gt := by
  show compareOfLessAndEq a b = .gt
  unfold compareOfLessAndEq
  rw [if_neg (by omega), if_neg (by omega)]
theorem f_lt {a b : Int} (h : a < b) : compare a b = .lt := by
  show compareOfLessAndEq a b = .lt
  unfold compareOfLessAndEq
  rw [if_pos h]
theorem f_eq {a b : Int} (h : a = b) : compare a b = .eq := by
  show compareOfLessAndEq a b = .eq
  unfold compareOfLessAndEq
  rw [if_neg (by omega), if_pos h]
theorem f_cmp {x : UInt32} {z : FP.Core.Datum} (hz : fOne z) (e : FP.Core.decode FP.Core.b32 x.toNat = z) : Op.cmpValue (FP.fcmp x FP.fconst0) .l = iN 1 ∧ ∃ v9 : Int, (v9 = 0 ∨ v9 = -1) ∧ Op.cmpValue (FP.fcmp x FP.fconst1) .g = iN v9 := by
  obtain ⟨c, q, rfl, h1, h2, h3, h4, h5⟩ := hz
  have d0 : FP.Core.decode FP.Core.b32 FP.fconst0.toNat = .fin false 0 (-149) := by decide +kernel
  have d1 : FP.Core.decode FP.Core.b32 FP.fconst1.toNat = .fin false 8388608 (-23) := by decide +kernel
  have o0 : FP.fcmp x FP.fconst0 = some (compare (FP.Core.signed false (FP.Core.inUnits c q (min q (-149)))) (FP.Core.signed false (FP.Core.inUnits 0 (-149) (min q (-149))))) := by
    show FP.Core.order (FP.Core.decode FP.Core.b32 x.toNat) (FP.Core.decode FP.Core.b32 FP.fconst0.toNat) = _
    rw [e, d0]
    rfl
  have o1 : FP.fcmp x FP.fconst1 = some (compare (FP.Core.signed false (FP.Core.inUnits c q (min q (-23)))) (FP.Core.signed false (FP.Core.inUnits 8388608 (-23) (min q (-23))))) := by
    show FP.Core.order (FP.Core.decode FP.Core.b32 x.toNat) (FP.Core.decode FP.Core.b32 FP.fconst1.toNat) = _
    rw [e, d1]
    rfl
  have u0 : FP.Core.signed false (FP.Core.inUnits 0 (-149) (min q (-149))) = 0 := by
    show ((0 * 2 ^ _ : Nat) : Int) = 0
    rw [Nat.zero_mul]
    rfl
  have u1 : 0 < FP.Core.signed false (FP.Core.inUnits c q (min q (-149))) := by
    show (0 : Int) < ((c * 2 ^ _ : Nat) : Int)
    exact Int.natCast_pos.mpr (Nat.mul_pos (by omega) (Nat.pow_pos (by decide)))
  refine ⟨?_, ?_⟩
  · rw [o0, u0, f_gt u1]
    rfl
  · rw [o1]
    have m1 : FP.Core.signed false (FP.Core.inUnits c q (min q (-23))) = (c : Int) := by
      show ((c * 2 ^ (q - min q (-23)).toNat : Nat) : Int) = _
      rw [show (q - min q (-23)).toNat = 0 by omega, Nat.pow_zero, Nat.mul_one]
    have m2 : FP.Core.signed false (FP.Core.inUnits 8388608 (-23) (min q (-23))) = ((8388608 * 2 ^ (-23 - q).toNat : Nat) : Int) := by
      show ((8388608 * 2 ^ (-23 - min q (-23)).toNat : Nat) : Int) = _
      rw [show min q (-23) = q by omega]
    rw [m1, m2]
    by_cases c0 : q = -23
    · rw [f_eq (by rw [h5 c0, c0]; rfl)]
      exact ⟨0, Or.inl rfl, rfl⟩
    · have p : (2 : Nat) ^ 1 ≤ 2 ^ (-23 - q).toNat := Nat.pow_le_pow_right (by decide) (by omega)
      have p2 : c < 8388608 * 2 ^ (-23 - q).toNat := by omega
      rw [f_lt (Int.ofNat_lt.mpr p2)]
      exact ⟨-1, Or.inr rfl, rfl⟩
