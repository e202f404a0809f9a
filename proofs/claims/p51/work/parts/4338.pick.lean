/-! Pick's theorem -/
noncomputable def ic (p : Prop) : Int := @ite Int p (Classical.propDecidable p) 1 0
theorem ic_t {p : Prop} (h : p) : ic p = 1 := if_pos h
theorem ic_f {p : Prop} (h : ¬ p) : ic p = 0 := if_neg h
section PICK
variable {A B w : Int} {a b c d o p q r z P : Pt} {u v : Nat → Pt} {n i j k e R : Nat} {x y : Int}
theorem sumN_1 {f : Nat → Int} {n u : Nat} (hu : u < n) (hz : ∀ i, i < n → i ≠ u → f i = 0) : sumN f n = f u := by
  rw [sumN_sp f n hu, sumN_z n fun i hi => ?_, Int.add_zero]
  by_cases c : i = u
  · exact if_pos c
  · rw [if_neg c]
    exact hz i hi c
theorem bx_pt (h1 : -(R : Int) ≤ P.1 ∧ P.1 ≤ R) (h2 : -(R : Int) ≤ P.2 ∧ P.2 ≤ R) : bx R (fun x y => ic ((x, y) = P)) = 1 := by
  unfold bx
  rw [sumN_1 (u := (P.2 + R).toNat) (by omega) fun t _ ht => sumN_z _ fun s _ => ic_f fun g => ht ?_]
  · rw [sumN_1 (u := (P.1 + R).toNat) (by omega) fun s _ hs => ic_f fun g => hs ?_]
    · exact ic_t (pt_eq (by show (((P.1 + R).toNat : Nat) : Int) - R = P.1; omega) (by show (((P.2 + R).toNat : Nat) : Int) - R = P.2; omega))
    · have : (s : Int) - R = P.1 := congrArg Prod.fst g
      omega
  · have : (t : Int) - R = P.2 := congrArg Prod.snd g
    omega
theorem bez : ∀ (N a b : Nat), a < N → ∃ u v : Int, u * a + v * b = Nat.gcd a b
  | 0, _, _, h => absurd h (Nat.not_lt_zero _)
  | N + 1, a, b, h => by
    by_cases c : a = 0
    · subst c
      rw [Nat.gcd_zero_left]
      exact ⟨0, 1, by rw [Int.zero_mul, Int.one_mul, Int.zero_add]⟩
    · obtain ⟨u, v, e⟩ := bez N (b % a) a (by have := Nat.mod_lt b (show 0 < a by omega); omega)
      refine ⟨v - u * (b / a : Nat), u, ?_⟩
      rw [Nat.gcd_rec a b, ← e]
      have m : (b : Int) = (a : Int) * ((b / a : Nat) : Int) + ((b % a : Nat) : Int) := by
        have := Nat.div_add_mod b a
        rw [← Int.natCast_mul, ← Int.natCast_add, this]
      generalize ((b / a : Nat) : Int) = k at *
      generalize ((b % a : Nat) : Int) = l at *
      rw [m]
      grind
theorem bezI (x y : Int) : ∃ u v p q : Int, u * x + v * y = Nat.gcd x.natAbs y.natAbs ∧ x = Nat.gcd x.natAbs y.natAbs * p ∧ y = Nat.gcd x.natAbs y.natAbs * q := by
  obtain ⟨u, v, e⟩ := bez (x.natAbs + 1) x.natAbs y.natAbs (by omega)
  obtain ⟨p, hp⟩ := Nat.gcd_dvd_left x.natAbs y.natAbs
  obtain ⟨q, hq⟩ := Nat.gcd_dvd_right x.natAbs y.natAbs
  generalize Nat.gcd x.natAbs y.natAbs = g at *
  have hp' : (x.natAbs : Int) = g * p := by rw [hp, Int.natCast_mul]
  have hq' : (y.natAbs : Int) = g * q := by rw [hq, Int.natCast_mul]
  have sx : ∃ s : Int, s * s = 1 ∧ x = s * x.natAbs := by
    rcases Int.le_total 0 x with c | c
    · exact ⟨1, rfl, by omega⟩
    · exact ⟨-1, rfl, by omega⟩
  have sy : ∃ s : Int, s * s = 1 ∧ y = s * y.natAbs := by
    rcases Int.le_total 0 y with c | c
    · exact ⟨1, rfl, by omega⟩
    · exact ⟨-1, rfl, by omega⟩
  obtain ⟨s, s1, s2⟩ := sx
  obtain ⟨t, t1, t2⟩ := sy
  refine ⟨u * s, v * t, s * p, t * q, ?_, ?_, ?_⟩
  · rw [← e]
    generalize (x.natAbs : Int) = xa at *
    generalize (y.natAbs : Int) = ya at *
    rw [s2, t2]
    grind
  · rw [hp'] at s2
    rw [s2]
    grind
  · rw [hq'] at t2
    rw [t2]
    grind
/-- as many places on an edge, one end left out, as the greatest common divisor says -/
theorem seg_cnt (ha1 : -(R : Int) ≤ a.1 ∧ a.1 ≤ R) (ha2 : -(R : Int) ≤ a.2 ∧ a.2 ≤ R) (hb1 : -(R : Int) ≤ b.1 ∧ b.1 ≤ R) (hb2 : -(R : Int) ≤ b.2 ∧ b.2 ≤ R) (hab : a ≠ b) : bx R (fun x y => ic (On a b (x, y) ∧ (x, y) ≠ b)) = (Nat.gcd (b.1 - a.1).natAbs (b.2 - a.2).natAbs : Int) := by
  obtain ⟨U, V, p, q, e0, e1, e2⟩ := bezI (b.1 - a.1) (b.2 - a.2)
  have hg : 0 < Nat.gcd (b.1 - a.1).natAbs (b.2 - a.2).natAbs := by
    refine Nat.pos_of_ne_zero fun g => hab ?_
    have := Nat.gcd_eq_zero_iff.mp g
    exact pt_eq (by omega) (by omega)
  generalize Nat.gcd (b.1 - a.1).natAbs (b.2 - a.2).natAbs = g at *
  have hgI : (0 : Int) < g := by omega
  have one : U * p + V * q = 1 := by
    rw [e1, e2] at e0
    have : (g : Int) * (U * p + V * q) = g * 1 := by
      rw [Int.mul_one, ← e0]
      grind
    exact Int.eq_of_mul_eq_mul_left (by omega) this
  have npq : ¬ (p = 0 ∧ q = 0) := fun w => by
    rw [w.1, w.2, Int.mul_zero, Int.mul_zero] at one
    exact absurd one (by decide)
  have inj : ∀ k l : Int, k * p = l * p → k * q = l * q → k = l := fun k l h1 h2 => by
    have : k * (U * p + V * q) = l * (U * p + V * q) := by
      have a1 : k * (U * p + V * q) = U * (k * p) + V * (k * q) := by grind
      have a2 : l * (U * p + V * q) = U * (l * p) + V * (l * q) := by grind
      rw [a1, a2, h1, h2]
    rw [one, Int.mul_one, Int.mul_one] at this
    exact this
  have btw : ∀ k t : Int, 0 ≤ k → k ≤ g → min 0 (g * t) ≤ k * t ∧ k * t ≤ max 0 (g * t) := fun k t h1 h2 => by
    rcases Int.le_total 0 t with c | c
    · have s1 := Int.mul_nonneg h1 c
      have s2 := Int.mul_nonneg (show 0 ≤ (g : Int) - k by omega) c
      rw [Int.sub_mul] at s2
      omega
    · have s1 := Int.mul_nonpos_of_nonneg_of_nonpos h1 c
      have s2 := Int.mul_nonpos_of_nonneg_of_nonpos (show 0 ≤ (g : Int) - k by omega) c
      rw [Int.sub_mul] at s2
      omega
  have back : ∀ k t : Int, t ≠ 0 → min 0 (g * t) ≤ k * t → k * t ≤ max 0 (g * t) → 0 ≤ k ∧ k ≤ g := fun k t ht h1 h2 => by
    rcases Int.lt_or_gt_of_ne ht with c | c
    · have s0 := Int.mul_neg_of_pos_of_neg hgI c
      constructor
      · refine Classical.byContradiction fun w => ?_
        have := Int.mul_pos_of_neg_of_neg (show k < 0 by omega) c
        omega
      · refine Classical.byContradiction fun w => ?_
        have := Int.mul_neg_of_pos_of_neg (show 0 < k - g by omega) c
        rw [Int.sub_mul] at this
        omega
    · have s0 := Int.mul_pos hgI c
      constructor
      · refine Classical.byContradiction fun w => ?_
        have := Int.mul_neg_of_neg_of_pos (show k < 0 by omega) c
        omega
      · refine Classical.byContradiction fun w => ?_
        have := Int.mul_pos (show 0 < k - g by omega) c
        rw [Int.sub_mul] at this
        omega
  have onP : ∀ k : Int, 0 ≤ k → k < g → On a b (a.1 + k * p, a.2 + k * q) ∧ (a.1 + k * p, a.2 + k * q) ≠ b := fun k h1 h2 => by
    have b1 := btw k p h1 (by omega)
    have b2 := btw k q h1 (by omega)
    refine ⟨⟨?_, ?_, ?_, ?_, ?_⟩, fun w => ?_⟩
    · show min a.1 b.1 ≤ a.1 + k * p
      omega
    · show a.1 + k * p ≤ max a.1 b.1
      omega
    · show min a.2 b.2 ≤ a.2 + k * q
      omega
    · show a.2 + k * q ≤ max a.2 b.2
      omega
    · show (b.1 - a.1) * (a.2 + k * q - a.2) - (b.2 - a.2) * (a.1 + k * p - a.1) = 0
      rw [e1, e2]
      grind
    · have w1 : a.1 + k * p = b.1 := congrArg Prod.fst w
      have w2 : a.2 + k * q = b.2 := congrArg Prod.snd w
      have := inj k g (by omega) (by omega)
      omega
  have onK : ∀ z : Pt, On a b z → z ≠ b → ∃ k : Int, 0 ≤ k ∧ k < g ∧ z = (a.1 + k * p, a.2 + k * q) := fun z h hz => by
    obtain ⟨h1, h2, h3, h4, h5⟩ := h
    have t : p * (z.2 - a.2) = q * (z.1 - a.1) := by
      have h5 : (b.1 - a.1) * (z.2 - a.2) - (b.2 - a.2) * (z.1 - a.1) = 0 := h5
      rw [e1, e2] at h5
      have : (g : Int) * (p * (z.2 - a.2)) = g * (q * (z.1 - a.1)) := by
        rw [← Int.mul_assoc, ← Int.mul_assoc]
        omega
      exact Int.eq_of_mul_eq_mul_left (by omega) this
    have k1 : (U * (z.1 - a.1) + V * (z.2 - a.2)) * p = z.1 - a.1 := by
      have : (U * (z.1 - a.1) + V * (z.2 - a.2)) * p = U * p * (z.1 - a.1) + V * (p * (z.2 - a.2)) := by grind
      rw [this, t]
      have : U * p * (z.1 - a.1) + V * (q * (z.1 - a.1)) = (U * p + V * q) * (z.1 - a.1) := by grind
      rw [this, one, Int.one_mul]
    have k2 : (U * (z.1 - a.1) + V * (z.2 - a.2)) * q = z.2 - a.2 := by
      have : (U * (z.1 - a.1) + V * (z.2 - a.2)) * q = U * (q * (z.1 - a.1)) + V * q * (z.2 - a.2) := by grind
      rw [this, ← t]
      have : U * (p * (z.2 - a.2)) + V * q * (z.2 - a.2) = (U * p + V * q) * (z.2 - a.2) := by grind
      rw [this, one, Int.one_mul]
    generalize U * (z.1 - a.1) + V * (z.2 - a.2) = k at k1 k2
    have rng : 0 ≤ k ∧ k ≤ g := by
      by_cases c : p = 0
      · exact back k q (fun w => npq ⟨c, w⟩) (by omega) (by omega)
      · exact back k p c (by omega) (by omega)
    refine ⟨k, rng.1, ?_, pt_eq (by show z.1 = a.1 + k * p; omega) (by show z.2 = a.2 + k * q; omega)⟩
    refine Classical.byContradiction fun w => hz (pt_eq ?_ ?_)
    · rw [show k = g by omega] at k1
      omega
    · rw [show k = g by omega] at k2
      omega
  have eq : bx R (fun x y => ic (On a b (x, y) ∧ (x, y) ≠ b)) = bx R (fun x y => sumN (fun k => ic ((x, y) = (a.1 + (k : Int) * p, a.2 + (k : Int) * q))) g) := bx_cg fun x y _ _ _ _ => by
    by_cases h : On a b (x, y) ∧ (x, y) ≠ b
    · obtain ⟨k, k1, k2, k3⟩ := onK _ h.1 h.2
      rw [ic_t h, sumN_1 (u := k.toNat) (by omega) fun i _ hi => ic_f fun w => hi ?_]
      · rw [show ((k.toNat : Nat) : Int) = k by omega]
        exact (ic_t k3).symm
      · rw [k3] at w
        have w1 : a.1 + k * p = a.1 + (i : Int) * p := congrArg Prod.fst w
        have w2 : a.2 + k * q = a.2 + (i : Int) * q := congrArg Prod.snd w
        have := inj k i (by omega) (by omega)
        omega
    · rw [ic_f h, sumN_z g fun i hi => ic_f fun w => h ?_]
      rw [w]
      exact onP i (by omega) (by omega)
  rw [eq, bx_sm, sumN_cg (g := fun _ => 1) g fun k hk => ?_, sumN_c, Int.mul_one]
  have o := (onP k (by omega) (by omega)).1
  obtain ⟨h1, h2, h3, h4, -⟩ := o
  exact bx_pt ⟨by omega, by omega⟩ ⟨by omega, by omega⟩
theorem lvm_inj {p q : Pt} (h1 : -1000 ≤ p.1 ∧ p.1 ≤ 1000) (h2 : -1000 ≤ q.1 ∧ q.1 ≤ 1000) (h : lv (-1) 100000 p = lv (-1) 100000 q) : p = q := by
  unfold lv at h
  exact pt_eq (by omega) (by omega)
/-- off the edges both numbers are alike -/
theorem off_same (hv : ∀ i, i < n → lv A B z ≠ lv A B (v i)) (off : ∀ i, i < n → ¬ On (v i) (v (nxt n i)) z) : wN A B v n z = wN (-A) (-B) v n z := by
  have e : sumN (fun i => cS A B (v i) (v (nxt n i)) z - cS (-A) (-B) (v i) (v (nxt n i)) z) n = sumN (fun i => (if lv A B z < lv A B (v (nxt n i)) then (1 : Int) else 0) - (if lv A B z < lv A B (v i) then 1 else 0)) n := sumN_cg n fun i hi => by
    have l1 := hv i hi
    have l2 := hv _ (nxt_lt hi)
    have t1 : lv A B (v i) < lv A B z → lv A B z < lv A B (v (nxt n i)) → T3 (v i) (v (nxt n i)) z ≠ 0 := fun g1 g2 t => off i hi (on_of (A := A) (B := B) (by omega) (by omega) (by omega) t)
    have t2 : lv A B (v (nxt n i)) < lv A B z → lv A B z < lv A B (v i) → T3 (v i) (v (nxt n i)) z ≠ 0 := fun g1 g2 t => off i hi (On_sym (on_of (A := A) (B := B) (by omega) (by omega) (by omega) (by rw [T3_ba', t]; rfl)))
    unfold cS
    rw [lv_neg, lv_neg, lv_neg]
    generalize T3 (v i) (v (nxt n i)) z = t at *
    split <;> split <;> (try split) <;> (try split) <;> (try split) <;> (try split) <;> omega
  rw [ring_sum (fun i => if lv A B z < lv A B (v i) then (1 : Int) else 0), sumN_sb] at e
  unfold wN
  omega
/-- on an edge, at no corner, one of both numbers is the one, the other the other -/
theorem om_edge (h : Smp A B v n) (hi : i < n) (hv : ∀ i, i < n → lv A B z ≠ lv A B (v i)) (on : On (v i) (v (nxt n i)) z) : om A B v n z = 2 * mu A B v n + 1 := by
  have h3 := h.1
  have l1 := hv i hi
  have l2 := hv _ (nxt_lt hi)
  have e1 := on_edge h hi (On_T on)
  have e2 := on_edge (Smp_neg h) hi (On_T on)
  rw [lv_neg, lv_neg, lv_neg, mu_neg h] at e2
  unfold om
  rcases Int.lt_or_gt_of_ne (Smp_lv h hi (nxt_lt hi) (Ne.symm (nxt_ne (by omega) hi))) with g | g
  · have l := on_lv on g
    have f1 := e1.1 (by omega) (by omega)
    have f2 := e2.2 (by omega) (by omega)
    omega
  · have l := on_lv (On_sym on) g
    have f1 := e1.2 (by omega) (by omega)
    have f2 := e2.1 (by omega) (by omega)
    omega
/-- no place lies on two edges but a corner on its two -/
theorem on_two (h : Smp A B v n) (hi : i < n) (hj : j < n) (e : i ≠ j) (o1 : On (v i) (v (nxt n i)) z) (o2 : On (v j) (v (nxt n j)) z) (n1 : z ≠ v (nxt n i)) (n2 : z ≠ v (nxt n j)) (hz : ∀ k, k < n → lv A B z = lv A B (v k) → z = v k) : False := by
  have h3 := h.1
  have lj : ∀ j, j < n → lv A B (v j) ≠ lv A B (v (nxt n j)) := fun j hj => Smp_lv h hj (nxt_lt hj) (Ne.symm (nxt_ne (by omega) hj))
  have adj : ∀ i j, i < n → j < n → nxt n i = j → On (v i) (v (nxt n i)) z → On (v j) (v (nxt n j)) z → z ≠ v (nxt n i) → False := fun i j hi hj e o1 o2 n1 => by
    have f := Fdb_T (A := A) (B := B) (h.2.2.1 j hj)
    have ep : prv n j = i := by rw [← e, prv_nxt hi]
    rw [ep] at f
    rw [e] at o1 n1
    have k := id_af A B (v i) (v j) (v j) (v (nxt n j)) z
    rw [On_T o1, On_T o2, T3_bb, Int.mul_zero, Int.mul_zero, Int.mul_zero, Int.zero_add, Int.add_zero] at k
    have lz : lv A B z ≠ lv A B (v j) := fun w => n1 (hz j hj w)
    have l1 := lj i hi
    have l2 := lj j hj
    rw [e] at l1
    have t : T3 (v i) (v j) (v (nxt n j)) = 0 := (Int.mul_eq_zero.mp k.symm).resolve_left (by omega)
    rcases Int.lt_or_gt_of_ne l1 with g1 | g1 <;> rcases Int.lt_or_gt_of_ne l2 with g2 | g2
    · have q1 := on_lv o1 g1
      have q2 := on_lv o2 g2
      omega
    · exact f (Or.inr ⟨g1, g2⟩) t
    · exact f (Or.inl ⟨g1, g2⟩) t
    · have q1 := on_lv (On_sym o1) g1
      have q2 := on_lv (On_sym o2) g2
      omega
  by_cases c1 : nxt n i = j
  · exact adj i j hi hj c1 o1 o2 n1
  · by_cases c2 : nxt n j = i
    · exact adj j i hj hi c2 o2 o1 n2
    · exact h.2.2.2 i j hi hj e c1 c2 (com (lj i hi) (lj j hj) o1 o2)
theorem odd_sum {f : Nat → Prop} {c : Nat → Int} : ∀ n, (∀ i, i < n → (f i ↔ c i ≠ 0) ∧ -1 ≤ c i ∧ c i ≤ 1) → (oddN f n ↔ sumN c n % 2 = 1)
  | 0, _ => by
    show False ↔ (0 : Int) % 2 = 1
    exact ⟨fun h => h.elim, fun h => absurd h (by decide)⟩
  | n + 1, h => by
    have ih := odd_sum n fun i hi => h i (by omega)
    have hn := h n (by omega)
    show ¬ (oddN f n ↔ f n) ↔ (sumN c n + c n) % 2 = 1
    rw [ih, hn.1]
    omega
end PICK

