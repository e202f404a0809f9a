/-! Widening is no NaN -/
theorem dec32 {d : FP.Core.Datum} (h : canD FP.Core.b32 d) : FP.Core.decode FP.Core.b32 (UInt32.ofNat (FP.Core.encode FP.Core.b32 d)).toNat ≠ .nan := by
  obtain ⟨s, e, t, h1, h2, h3⟩ := enc_can FP.Core.b32 (by decide) (by decide) (by decide) h
  have h2' : t < 8388608 := h2
  have h3' : e + 2 ≤ 256 ∨ (e + 1 = 256 ∧ t = 0) := h3
  have h4 : FP.Core.assemble FP.Core.b32 s e t < 2 ^ 32 := by
    show (s.toNat * 256 + e) * 8388608 + t < 2 ^ 32
    cases s with
    | false => show (0 * 256 + e) * 8388608 + t < 2 ^ 32; omega
    | true => show (1 * 256 + e) * 8388608 + t < 2 ^ 32; omega
  rw [h1, UInt32.toNat_ofNat', Nat.mod_eq_of_lt h4]
  exact dec_asm (by decide) s h2 h3
theorem f2d_n64 {x : UInt32} (h : FP.Core.decode FP.Core.b32 x.toNat ≠ .nan) : vf_n64 (FP.f2d x) := by
  unfold FP.f2d
  have h2 : FP.Core.fIsNaN x = false := by
    show decide (FP.Core.decode FP.Core.b32 x.toNat = FP.Core.Datum.nan) = false
    exact decide_eq_false h
  rw [h2]
  show vf_n64 (UInt64.ofNat (FP.Core.encode FP.Core.b64 (FP.Core.round FP.Core.b64 (FP.Core.decode FP.Core.b32 x.toNat))))
  exact enc64 (can_round FP.Core.b64 (by decide) (by decide) h)
theorem i2f_can (a : Int32) : ∃ d, canD FP.Core.b32 d ∧ FP.i2f a = UInt32.ofNat (FP.Core.encode FP.Core.b32 d) :=
  ⟨_, can_round FP.Core.b32 (by decide) (by decide) (d := FP.Core.ofInt a.toInt) (fun q => nomatch q), rfl⟩
/-- a quotient of a rounded number by what decodes to a number that is not 0 -/
theorem fdiv_can (a : Int32) {y : UInt32} {t : Bool} {d : Nat} {r : Int} (hy : FP.Core.decode FP.Core.b32 y.toNat = .fin t d r) (hd : d ≠ 0) : ∃ z, canD FP.Core.b32 z ∧ FP.fdiv (FP.i2f a) y = UInt32.ofNat (FP.Core.encode FP.Core.b32 z) := by
  obtain ⟨x, hx, ex⟩ := i2f_can a
  refine ⟨FP.Core.quotient FP.Core.b32 (FP.Core.decode FP.Core.b32 (FP.i2f a).toNat) (FP.Core.decode FP.Core.b32 y.toNat), ?_, rfl⟩
  rw [hy, ex]
  exact can_quot (by decide) (by decide) (dec32 hx) hd

