/-! How much of its box a figure fills -/
theorem log_1 : Nat.log2 1 = 0 := Nat.lt_one_iff.mp ((Nat.log2_lt (by decide)).mpr (by decide))
theorem rnd_int {b : Nat} (h0 : 0 < b) (h1 : b < 16777216) : ∃ l : Nat, l < 24 ∧ FP.Core.round FP.Core.b32 (FP.Core.ofInt (b : Int)) = .fin false (b * 2 ^ (23 - l)) ((l : Int) - 23) ∧ 8388608 ≤ b * 2 ^ (23 - l) ∧ b * 2 ^ (23 - l) < 16777216 := by
  have hb : b ≠ 0 := by omega
  have l1 : 2 ^ b.log2 ≤ b := Nat.log2_self_le hb
  have l2 : b < 2 ^ (b.log2 + 1) := (Nat.log2_lt hb).mp (Nat.lt_succ_self _)
  have l3 : b.log2 < 24 := (Nat.log2_lt hb).mpr h1
  generalize hl : b.log2 = l at l1 l2 l3
  have p1 : 2 ^ l * 2 ^ (23 - l) = 8388608 := by
    rw [← Nat.pow_add, show l + (23 - l) = 23 by omega]
  have p2 : 2 ^ (l + 1) * 2 ^ (23 - l) = 16777216 := by
    rw [← Nat.pow_add, show l + 1 + (23 - l) = 24 by omega]
  have c1 : 8388608 ≤ b * 2 ^ (23 - l) := by
    rw [← p1]
    exact Nat.mul_le_mul_right _ l1
  have c2 : b * 2 ^ (23 - l) < 16777216 := by
    rw [← p2]
    exact Nat.mul_lt_mul_of_pos_right l2 (Nat.pow_pos (by decide))
  refine ⟨l, l3, ?_, c1, c2⟩
  have e0 : FP.Core.round FP.Core.b32 (FP.Core.ofInt (b : Int)) = FP.Core.roundRatio FP.Core.b32 false b 1 0 := by
    unfold FP.Core.ofInt FP.Core.round
    rw [show decide ((b : Int) < 0) = false from decide_eq_false (by omega), Int.natAbs_natCast]
  have lead : FP.Core.leading b 1 = (l : Int) := by
    unfold FP.Core.leading
    rw [hl, log_1]
    show (if 1 * 2 ^ ((l : Int) - (0 : Nat)).toNat ≤ b * 2 ^ (-((l : Int) - (0 : Nat))).toNat then (l : Int) - (0 : Nat) else (l : Int) - (0 : Nat) - 1) = (l : Int)
    rw [show ((l : Int) - (0 : Nat)).toNat = l by omega, show (-((l : Int) - (0 : Nat))).toNat = 0 by omega, if_pos (by omega)]
    omega
  have q : FP.Core.quantum FP.Core.b32 b 1 0 = (l : Int) - 23 := by
    unfold FP.Core.quantum
    rw [lead]
    show max (-149 : Int) ((l : Int) + 0 - ((24 : Nat) - 1)) = _
    omega
  rw [e0]
  unfold FP.Core.roundRatio
  rw [if_neg hb, q]
  unfold FP.Core.roundAt FP.Core.unitsNum FP.Core.unitsDen
  rw [show (0 - ((l : Int) - 23)).toNat = 23 - l by omega, show ((l : Int) - 23 - 0).toNat = 0 by omega]
  have n1 : FP.Core.nearest (b * 2 ^ (23 - l)) (1 * 2 ^ 0) = b * 2 ^ (23 - l) := by
    show FP.Core.nearest (b * 2 ^ (23 - l)) 1 = _
    unfold FP.Core.nearest
    rw [Nat.mod_one, if_pos (by omega), Nat.div_one]
  rw [n1]
  have s1 : FP.Core.settle FP.Core.b32 false (b * 2 ^ (23 - l)) ((l : Int) - 23) = FP.Core.bound FP.Core.b32 false (b * 2 ^ (23 - l)) ((l : Int) - 23) := if_pos (show b * 2 ^ (23 - l) < 16777216 from c2)
  have s2 : FP.Core.bound FP.Core.b32 false (b * 2 ^ (23 - l)) ((l : Int) - 23) = .fin false (b * 2 ^ (23 - l)) ((l : Int) - 23) := if_pos (show (l : Int) - 23 ≤ 104 by omega)
  rw [s1, s2]
theorem dec_fin {e t : Nat} (ht : t < 8388608) (he : e < 255) (h0 : 0 < e) : FP.Core.decode FP.Core.b32 (FP.Core.assemble FP.Core.b32 false e t) = .fin false (8388608 + t) (-149 + ((e : Int) - 1)) := by
  have ev : FP.Core.assemble FP.Core.b32 false e t = (0 * 256 + e) * 8388608 + t := rfl
  have e1 : FP.Core.fieldT FP.Core.b32 (FP.Core.assemble FP.Core.b32 false e t) = t := by
    rw [ev]
    show ((0 * 256 + e) * 8388608 + t) % 8388608 = t
    omega
  have e2 : FP.Core.fieldE FP.Core.b32 (FP.Core.assemble FP.Core.b32 false e t) = e := by
    rw [ev]
    show ((0 * 256 + e) * 8388608 + t) / 8388608 % 256 = e
    omega
  have e3 : FP.Core.fieldS FP.Core.b32 (FP.Core.assemble FP.Core.b32 false e t) = false := by
    rw [ev]
    show (((0 * 256 + e) * 8388608 + t) / 8388608 / 256 % 2 == 1) = false
    rw [show ((0 * 256 + e) * 8388608 + t) / 8388608 / 256 % 2 = 0 by omega]
    rfl
  unfold FP.Core.decode
  rw [e1, e2, e3]
  have x1 : ¬ e = FP.Core.b32.exps - 1 := show ¬ e = 255 by omega
  rw [if_neg x1, if_neg (show ¬ e = 0 by omega)]
  rfl
theorem dec_int {b : Nat} (h0 : 0 < b) (h1 : b < 16777216) : ∃ d r, d ≠ 0 ∧ FP.Core.decode FP.Core.b32 (FP.i2f (iN (b : Int))).toNat = .fin false d r := by
  obtain ⟨l, hl, e, c1, c2⟩ := rnd_int h0 h1
  have ti : (iN (b : Int)).toInt = (b : Int) := iN_toInt ⟨by omega, by omega⟩
  have ei : FP.i2f (iN (b : Int)) = UInt32.ofNat (FP.Core.encode FP.Core.b32 (FP.Core.round FP.Core.b32 (FP.Core.ofInt (iN (b : Int)).toInt))) := rfl
  rw [ei, ti, e]
  have en : FP.Core.encode FP.Core.b32 (.fin false (b * 2 ^ (23 - l)) ((l : Int) - 23)) = FP.Core.assemble FP.Core.b32 false (((l : Int) - 23 - (-149)).toNat + 1) (b * 2 ^ (23 - l) - 8388608) := if_neg (show ¬ b * 2 ^ (23 - l) < 8388608 by omega)
  rw [en]
  have lt : FP.Core.assemble FP.Core.b32 false (((l : Int) - 23 - (-149)).toNat + 1) (b * 2 ^ (23 - l) - 8388608) < 2 ^ 32 := by
    show (0 * 256 + (((l : Int) - 23 - (-149)).toNat + 1)) * 8388608 + (b * 2 ^ (23 - l) - 8388608) < 4294967296
    omega
  rw [UInt32.toNat_ofNat', Nat.mod_eq_of_lt lt, dec_fin (by omega) (by omega) (by omega)]
  exact ⟨_, _, by omega, rfl⟩
theorem fdiv_n32 (a : Int32) {b : Nat} (h0 : 0 < b) (h1 : b < 16777216) : vf_n32 (FP.fdiv (FP.i2f a) (FP.i2f (iN (b : Int)))) ∧ vf_n64 (FP.f2d (FP.fdiv (FP.i2f a) (FP.i2f (iN (b : Int))))) := by
  obtain ⟨d, r, hd, e⟩ := dec_int h0 h1
  obtain ⟨z, hz, ez⟩ := fdiv_can a e hd
  rw [ez]
  exact ⟨enc32 hz, f2d_n64 (dec32 hz)⟩
theorem fdiv_0 {b : Nat} (h0 : 0 < b) (h1 : b < 16777216) : FP.fdiv (FP.i2f (iN 0)) (FP.i2f (iN (b : Int))) = FP.fconst0 := by
  obtain ⟨d, r, hd, e⟩ := dec_int h0 h1
  have e0 : FP.fdiv (FP.i2f (iN 0)) (FP.i2f (iN (b : Int))) = UInt32.ofNat (FP.Core.encode FP.Core.b32 (FP.Core.quotient FP.Core.b32 (FP.Core.decode FP.Core.b32 (FP.i2f (iN 0)).toNat) (FP.Core.decode FP.Core.b32 (FP.i2f (iN (b : Int))).toNat))) := rfl
  have ez : FP.Core.decode FP.Core.b32 (FP.i2f (iN 0)).toNat = .fin false 0 (-149) := by decide +kernel
  rw [e0, e, ez]
  have q : FP.Core.quotient FP.Core.b32 (.fin false 0 (-149)) (.fin false d r) = .fin false 0 (-149) := by
    show (if d = 0 then _ else FP.Core.roundRatio FP.Core.b32 (false != false) 0 d (-149 - r)) = _
    rw [if_neg hd]
    exact if_pos rfl
  rw [q]
  rfl

