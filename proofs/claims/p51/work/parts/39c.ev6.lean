/-! THE LAYER, third half: what the law needs beside -/
section GEV6
variable {C : g_E} {k n : Nat} {z : Option Nat} {h : g_hp} {pc : Nat} {L : List (Nat × Value)} {st : List Value}
theorem e_ldcI {idx : Nat} {v : Int32} {c9 : Int} (hw : Cond.constant C.2.1.1.cls idx v ∈ GW) (hv : v = iN c9) (hd : decode (g_cc C) pc = .ok (.ldc idx, 2)) (kk : Ev C k n z h (pc + 2) L (.int (iN c9) :: st)) : Ev C k n z h pc L st := by
  intro p e s m args below meth c H locs ls hC hS hH hb hl
  refine lv_ldc hC.1 hC.2.1 hC.2.2.2.2.2.1 (hC.2.2.2.2.2.2.1 _ hw) hd ?_
  rw [hv]
  exact kk p e s m args below meth c H locs ls hC hS hH hb hl
theorem e_xor {x y : Int32} (hd : decode (g_cc C) pc = .ok (.ixor, 1)) (kk : ∀ v : Int, Ev C k n z h (pc + 1) L (.int (iN v) :: st)) : Ev C k n z h pc L (.int y :: .int x :: st) := by
  intro p e s m args below meth c H locs ls hC hS hH hb hl
  have q := kk (x ^^^ y).toInt
  rw [iN_asI] at q
  exact lv_ixor hC.1 hC.2.1 hd (q p e s m args below meth c H locs ls hC hS hH hb hl)
theorem or_bP (p q : Prop) [Decidable p] [Decidable q] : iN (bP p) ||| iN (bP q) = iN (bP (p ∨ q)) := by
  by_cases hp : p <;> by_cases hq : q
  · rw [bP_t hp, bP_t hq, bP_t (Or.inl hp)]
    decide
  · rw [bP_t hp, bP_f hq, bP_t (Or.inl hp)]
    decide
  · rw [bP_f hp, bP_t hq, bP_t (Or.inr hq)]
    decide
  · rw [bP_f hp, bP_f hq, bP_f (fun w => w.elim hp hq)]
    decide
theorem e_orP {p q : Prop} [Decidable p] [Decidable q] (hd : decode (g_cc C) pc = .ok (.ior, 1)) (kk : Ev C k n z h (pc + 1) L (.int (iN (bP (p ∨ q))) :: st)) : Ev C k n z h pc L (.int (iN (bP q)) :: .int (iN (bP p)) :: st) := by
  intro p9 e s m args below meth c H locs ls hC hS hH hb hl
  refine lv_ior hC.1 hC.2.1 hd ?_
  rw [or_bP]
  exact kk p9 e s m args below meth c H locs ls hC hS hH hb hl
theorem u_toI (u : UInt32) : u.toInt32 = iN (u.toNat : Int) := by
  apply Int32.toBitVec_inj.mp
  show u.toBitVec = BitVec.ofInt 32 _
  apply BitVec.eq_of_toNat_eq
  rw [BitVec.toNat_ofInt]
  have h1 : u.toBitVec.toNat = u.toNat := rfl
  have h2 := u.toNat_lt
  rw [h1]
  omega
theorem e_ushr {x : Int32} {y : Int} {t : Nat} (hy : (iN y).toUInt32 &&& Int32.toUInt32 31 = UInt32.ofNat t) (ht : t < 32) (hd : decode (g_cc C) pc = .ok (.iushr, 1)) (kk : ∀ v : Int, 0 ≤ v → v * 2 ^ t < 4294967296 → Ev C k n z h (pc + 1) L (.int (iN v) :: st)) : Ev C k n z h pc L (.int (iN y) :: .int x :: st) := by
  intro p e s m args below meth c H locs ls hC hS hH hb hl
  have e1 : (x.toUInt32 >>> UInt32.ofNat t).toNat = x.toUInt32.toNat / 2 ^ t := by
    rw [UInt32.toNat_shiftRight, Nat.shiftRight_eq_div_pow]
    have : (UInt32.ofNat t).toNat = t := UInt32.toNat_ofNat_of_lt' (by show t < 4294967296; omega)
    rw [this, Nat.mod_eq_of_lt ht]
  refine lv_iushr hC.1 hC.2.1 hd (v := iN ((x.toUInt32.toNat / 2 ^ t : Nat) : Int)) ?_ ?_
  · rw [hy, u_toI, e1]
  · refine kk _ (Int.natCast_nonneg _) ?_ p e s m args below meth c H locs ls hC hS hH hb hl
    have h2 := x.toUInt32.toNat_lt
    have h3 := Nat.div_mul_le_self x.toUInt32.toNat (2 ^ t)
    generalize x.toUInt32.toNat / 2 ^ t = q at h3 ⊢
    have h4 : ((q * 2 ^ t : Nat) : Int) < 4294967296 := by omega
    rw [Int.natCast_mul, Int.natCast_pow] at h4
    exact h4
theorem e_fcmp {x y : UInt32} {op : CmpOp} {v : Int} (hv : Op.cmpValue (FP.fcmp x y) op = iN v) (hd : decode (g_cc C) pc = .ok (.fcmp op, 1)) (kk : Ev C k n z h (pc + 1) L (.int (iN v) :: st)) : Ev C k n z h pc L (.float y :: .float x :: st) := by
  intro p e s m args below meth c H locs ls hC hS hH hb hl
  refine lv_fcmp hC.1 hC.2.1 hd ?_
  rw [hv]
  exact kk p e s m args below meth c H locs ls hC hS hH hb hl
theorem e_fconst1 (hd : decode (g_cc C) pc = .ok (.fconst 1, 1)) (kk : Ev C k n z h (pc + 1) L (.float FP.fconst1 :: st)) : Ev C k n z h pc L st := by
  intro p e s m args below meth c H locs ls hC hS hH hb hl
  exact lv_fconst1 hC.1 hC.2.1 hd (kk p e s m args below meth c H locs ls hC hS hH hb hl)
/-- the script -/
theorem e_scLen (hd : decode (g_cc C) pc = .ok (.arraylength, 1)) (kk : ∀ L9 : Nat, L9 = C.1.2.1.2 9 1 → L9 ≤ 260 → Ev C k n z h (pc + 1) L (.int (iN L9) :: st)) : Ev C k n z h pc L (.ref (C.1.2.1.2 9 0) :: st) := by
  intro p e s m args below meth c H locs ls hC hS hH hb hl
  obtain ⟨h1, h2, h3, xs, hX⟩ := hC.2.2.2.2.2.2.2.1.2.2.2.2.2.2.2.2
  have q := kk _ rfl h3 p e s m args below meth c H locs ls hC hS hH hb hl
  rw [← iN_nat] at q
  exact va_slen hC.1 hC.2.1 hX h2 (Nat.not_le.mpr h1) hS hd q
theorem e_scAt {i : Int} (h0 : 0 ≤ i) (hi : i < (C.1.2.1.2 9 1 : Nat)) (hd : decode (g_cc C) pc = .ok (.iaload, 1)) (kk : ∀ v : Int, Ev C k n z h (pc + 1) L (.int (iN v) :: st)) : Ev C k n z h pc L (.int (iN i) :: .ref (C.1.2.1.2 9 0) :: st) := by
  intro p e s m args below meth c H locs ls hC hS hH hb hl
  obtain ⟨h1, h2, h3, xs, hX⟩ := hC.2.2.2.2.2.2.2.1.2.2.2.2.2.2.2.2
  refine va_sld hC.1 hC.2.1 hX h2 (Nat.not_le.mpr h1) hS (iN_in h0 hi (by omega)) hd ?_
  have q := kk (xs (iN i).toNatClampNeg).toInt
  rw [iN_asI] at q
  exact q p e s m args below meth c H locs ls hC hS hH hb hl
theorem g_rm_of {C : g_E} {M : g_M} {k n mc ms : Nat} (h1 : (Nat.ble (M.2.2.2.2.1.1 + 1) C.2.2.1.frames && Nat.ble (14 + (M.2.2.1 + 11) + M.2.2.2.2.1.2) C.2.2.1.locals) = true) (h2 : k + mc ≤ C.2.2.1.cells) (h3 : n + ms ≤ C.2.2.1.slots) : g_rm C M k n mc ms = true := by
  unfold g_rm
  rw [h1, Nat.ble_eq_true_of_le h2, Nat.ble_eq_true_of_le h3]
  rfl
end GEV6
