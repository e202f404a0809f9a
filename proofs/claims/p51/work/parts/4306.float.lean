/-! Quotients of ints are no NaN -/
def canD (f : FP.Core.Fmt) : FP.Core.Datum → Prop
  | .nan => False
  | .inf _ => True
  | .fin _ c q => c < 2 ^ f.p ∧ q ≤ f.qmax
theorem can_bound (f : FP.Core.Fmt) (s : Bool) (c : Nat) (q : Int) (h : c < 2 ^ f.p) : canD f (FP.Core.bound f s c q) := by
  unfold FP.Core.bound
  split
  · first | exact trivial | exact ⟨h, by omega⟩
  · first | exact trivial | exact ⟨h, by omega⟩
theorem can_settle (f : FP.Core.Fmt) (hp : 0 < f.p) (s : Bool) (c : Nat) (q : Int) : canD f (FP.Core.settle f s c q) := by
  unfold FP.Core.settle
  split
  · rename_i h
    exact can_bound f s c q h
  · refine can_bound f s _ _ ?_
    unfold FP.Core.Fmt.tails
    exact Nat.pow_lt_pow_right (by decide) (by omega)
theorem can_ratio (f : FP.Core.Fmt) (hp : 0 < f.p) (hq : f.qmin ≤ f.qmax) (s : Bool) (num den : Nat) (e : Int) : canD f (FP.Core.roundRatio f s num den e) := by
  unfold FP.Core.roundRatio
  split
  · exact ⟨Nat.pow_pos (by decide), hq⟩
  · unfold FP.Core.roundAt
    exact can_settle f hp _ _ _
theorem can_round (f : FP.Core.Fmt) (hp : 0 < f.p) (hq : f.qmin ≤ f.qmax) {d : FP.Core.Datum} (h : d ≠ .nan) : canD f (FP.Core.round f d) := by
  unfold FP.Core.round
  cases d with
  | nan => exact absurd rfl h
  | inf s => exact trivial
  | fin s c q => exact can_ratio f hp hq _ _ _ _
/-- what a datum's bits are -/
theorem enc_can (f : FP.Core.Fmt) (hp : 0 < f.p) (hw : f.qmax - f.qmin + 3 ≤ (f.exps : Int)) (hw2 : 3 ≤ f.exps) {d : FP.Core.Datum} (h : canD f d) : ∃ (s : Bool) (e t : Nat), FP.Core.encode f d = FP.Core.assemble f s e t ∧ t < f.tails ∧ (e + 2 ≤ f.exps ∨ (e + 1 = f.exps ∧ t = 0)) := by
  have ht : 0 < f.tails := Nat.pow_pos (by decide)
  have h2 : 2 ^ f.p = f.tails + f.tails := by
    unfold FP.Core.Fmt.tails
    obtain ⟨p, hp2⟩ : ∃ p, f.p = p + 1 := ⟨f.p - 1, by omega⟩
    rw [hp2, Nat.pow_succ, Nat.add_sub_cancel]
    omega
  unfold FP.Core.encode
  cases d with
  | nan => exact absurd h id
  | inf s => exact ⟨s, f.exps - 1, 0, rfl, ht, Or.inr ⟨by omega, rfl⟩⟩
  | fin s c q =>
    obtain ⟨h3, h4⟩ := h
    show ∃ s1 e t, (if c < f.tails then FP.Core.assemble f s 0 c else FP.Core.assemble f s ((q - f.qmin).toNat + 1) (c - f.tails)) = _ ∧ _
    split
    · rename_i c1
      exact ⟨s, 0, c, rfl, c1, Or.inl (by omega)⟩
    · exact ⟨s, (q - f.qmin).toNat + 1, c - f.tails, rfl, by omega, Or.inl (by omega)⟩
theorem bits64 {s : Bool} {e t : Nat} (ht : t < 4503599627370496) (he : e + 2 ≤ 2048 ∨ (e + 1 = 2048 ∧ t = 0)) : vf_n64 (UInt64.ofNat ((s.toNat * 2048 + e) * 4503599627370496 + t)) := by
  unfold vf_n64
  rw [UInt64.le_iff_toNat_le, UInt64.toNat_and]
  rw [show (9223372036854775807 : UInt64).toNat = 2 ^ 63 - 1 from rfl, Nat.and_two_pow_sub_one_eq_mod, UInt64.toNat_ofNat']
  rw [show (9218868437227405312 : UInt64).toNat = 9218868437227405312 from rfl]
  cases s with
  | false => show ((0 * 2048 + e) * 4503599627370496 + t) % 2 ^ 64 % 2 ^ 63 ≤ _; omega
  | true => show ((1 * 2048 + e) * 4503599627370496 + t) % 2 ^ 64 % 2 ^ 63 ≤ _; omega
theorem bits32 {s : Bool} {e t : Nat} (ht : t < 8388608) (he : e + 2 ≤ 256 ∨ (e + 1 = 256 ∧ t = 0)) : vf_n32 (UInt32.ofNat ((s.toNat * 256 + e) * 8388608 + t)) := by
  unfold vf_n32
  rw [UInt32.le_iff_toNat_le, UInt32.toNat_and]
  rw [show (2147483647 : UInt32).toNat = 2 ^ 31 - 1 from rfl, Nat.and_two_pow_sub_one_eq_mod, UInt32.toNat_ofNat']
  rw [show (2139095040 : UInt32).toNat = 2139095040 from rfl]
  cases s with
  | false => show ((0 * 256 + e) * 8388608 + t) % 2 ^ 32 % 2 ^ 31 ≤ _; omega
  | true => show ((1 * 256 + e) * 8388608 + t) % 2 ^ 32 % 2 ^ 31 ≤ _; omega
theorem enc64 {d : FP.Core.Datum} (h : canD FP.Core.b64 d) : vf_n64 (UInt64.ofNat (FP.Core.encode FP.Core.b64 d)) := by
  obtain ⟨s, e, t, h1, h2, h3⟩ := enc_can FP.Core.b64 (by decide) (by decide) (by decide) h
  rw [h1]
  exact bits64 h2 h3
theorem enc32 {d : FP.Core.Datum} (h : canD FP.Core.b32 d) : vf_n32 (UInt32.ofNat (FP.Core.encode FP.Core.b32 d)) := by
  obtain ⟨s, e, t, h1, h2, h3⟩ := enc_can FP.Core.b32 (by decide) (by decide) (by decide) h
  rw [h1]
  exact bits32 h2 h3

