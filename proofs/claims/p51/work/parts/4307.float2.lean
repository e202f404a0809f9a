/-! The mean is no NaN -/
theorem dec_asm {f : FP.Core.Fmt} (hx : 0 < f.exps) (s : Bool) {e t : Nat} (ht : t < f.tails) (he : e + 2 ≤ f.exps ∨ (e + 1 = f.exps ∧ t = 0)) : FP.Core.decode f (FP.Core.assemble f s e t) ≠ .nan := by
  have h0 : 0 < f.tails := by omega
  have e1 : FP.Core.fieldT f (FP.Core.assemble f s e t) = t := by
    unfold FP.Core.fieldT FP.Core.assemble
    rw [Nat.mul_comm, Nat.mul_add_mod, Nat.mod_eq_of_lt ht]
  have e2 : FP.Core.fieldE f (FP.Core.assemble f s e t) = e := by
    unfold FP.Core.fieldE FP.Core.assemble
    rw [Nat.mul_comm _ f.tails, Nat.mul_add_div h0, Nat.div_eq_of_lt ht, Nat.add_zero, Nat.mul_comm, Nat.mul_add_mod, Nat.mod_eq_of_lt (by omega)]
  unfold FP.Core.decode
  rw [e1, e2]
  split
  · rename_i c
    rw [if_pos (by omega)]
    exact fun q => nomatch q
  · split
    · exact fun q => nomatch q
    · exact fun q => nomatch q
theorem dec64 {d : FP.Core.Datum} (h : canD FP.Core.b64 d) : FP.Core.decode FP.Core.b64 (UInt64.ofNat (FP.Core.encode FP.Core.b64 d)).toNat ≠ .nan := by
  obtain ⟨s, e, t, h1, h2, h3⟩ := enc_can FP.Core.b64 (by decide) (by decide) (by decide) h
  have h2' : t < 4503599627370496 := h2
  have h3' : e + 2 ≤ 2048 ∨ (e + 1 = 2048 ∧ t = 0) := h3
  have h4 : FP.Core.assemble FP.Core.b64 s e t < 2 ^ 64 := by
    show (s.toNat * 2048 + e) * 4503599627370496 + t < 2 ^ 64
    cases s with
    | false => show (0 * 2048 + e) * 4503599627370496 + t < 2 ^ 64; omega
    | true => show (1 * 2048 + e) * 4503599627370496 + t < 2 ^ 64; omega
  rw [h1, UInt64.toNat_ofNat', Nat.mod_eq_of_lt h4]
  exact dec_asm (by decide) s h2 h3
theorem can_quot {f : FP.Core.Fmt} (hp : 0 < f.p) (hq : f.qmin ≤ f.qmax) {x : FP.Core.Datum} (hx : x ≠ .nan) {t : Bool} {d : Nat} {r : Int} (hd : d ≠ 0) : canD f (FP.Core.quotient f x (.fin t d r)) := by
  unfold FP.Core.quotient
  cases x with
  | nan => exact absurd rfl hx
  | inf s => exact trivial
  | fin s c q =>
    show canD f (if d = 0 then _ else FP.Core.roundRatio f (s != t) c d (q - r))
    rw [if_neg hd]
    exact can_ratio f hp hq _ _ _ _
def chk64 (n : Nat) : Bool := match FP.Core.decode FP.Core.b64 (FP.i2d (iN (n : Int))).toNat with
  | .fin _ d _ => !(d == 0)
  | _ => false
theorem chk_60 : (List.range 60).all (fun i => chk64 (i + 1)) = true := by decide +kernel
theorem i2d_can (a : Int32) : ∃ d, canD FP.Core.b64 d ∧ FP.i2d a = UInt64.ofNat (FP.Core.encode FP.Core.b64 d) :=
  ⟨_, can_round FP.Core.b64 (by decide) (by decide) (d := FP.Core.ofInt a.toInt) (fun q => nomatch q), rfl⟩
theorem div_n64 (a : Int32) {n : Nat} (h1 : 0 < n) (h2 : n ≤ 60) : vf_n64 (FP.ddiv (FP.i2d a) (FP.i2d (iN (n : Int)))) := by
  have hc := List.all_eq_true.mp chk_60 (n - 1) (List.mem_range.mpr (by omega))
  rw [show n - 1 + 1 = n by omega] at hc
  unfold chk64 at hc
  obtain ⟨d, hd, ed⟩ := i2d_can a
  show vf_n64 (UInt64.ofNat (FP.Core.encode FP.Core.b64 (FP.Core.quotient FP.Core.b64 (FP.Core.decode FP.Core.b64 (FP.i2d a).toNat) (FP.Core.decode FP.Core.b64 (FP.i2d (iN (n : Int))).toNat))))
  split at hc
  · rename_i t d2 r e9
    rw [e9, ed]
    refine enc64 (can_quot (by decide) (by decide) (dec64 hd) (fun q => ?_))
    rw [q] at hc
    exact nomatch hc
  · exact nomatch hc
