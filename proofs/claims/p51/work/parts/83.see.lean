/-! The mathematics of the law's checks: what corners see -/
section MSEE
variable {L : PL} {a b c d p q : Pt} {A B x y K : Int} {v : Nat → Pt} {i j k n s t : Nat}
def ps (a b c d : Pt) : Prop := sg (T3 a b c) * sg (T3 a b d) < 0 ∧ sg (T3 c d a) * sg (T3 c d b) < 0
theorem ps_sw (h : ps a b c d) : ps b a c d := by
  unfold ps at h ⊢
  rw [sg_mul, sg_mul] at h ⊢
  have e1 := T3_ba' a b c
  have e2 := T3_ba' a b d
  omega
theorem opn_ps : opn L i j ↔ (∀ k, k < L.length → ¬ ps (pt L i) (pt L j) (pt L k) (pt L (nxt L.length k))) ∧ ∀ s, s < L.length → On (pt L i) (pt L j) (pt L s) → ∀ t, s < t → t < L.length → On (pt L i) (pt L j) (pt L t) → ¬ wM L s t < 0 := Iff.rfl
theorem opn_sw (h : opn L i j) : opn L j i := by
  have h' := opn_ps.mp h
  exact opn_ps.mpr ⟨fun k hk w => h'.1 k hk (ps_sw w), fun s hs os t hst ht ot => h'.2 s hs (On_sym os) t hst ht (On_sym ot)⟩
theorem On_2 : On (sc 2 a) (sc 2 b) (sc 2 q) ↔ On a b q := by
  constructor
  · exact On_sc (by decide)
  · rintro ⟨h1, h2, h3, h4, t⟩
    have e := T3_sc 2 a b q
    have t' : T3 a b q = 0 := t
    rw [t'] at e
    refine ⟨?_, ?_, ?_, ?_, e⟩
    · show min (2 * a.1) (2 * b.1) ≤ 2 * q.1
      omega
    · show 2 * q.1 ≤ max (2 * a.1) (2 * b.1)
      omega
    · show min (2 * a.2) (2 * b.2) ≤ 2 * q.2
      omega
    · show 2 * q.2 ≤ max (2 * a.2) (2 * b.2)
      omega
theorem eOn_2 {i : Nat} : eOn L 2 x y i ↔ On (sc 2 (pt L i)) (sc 2 (pt L (nxt L.length i))) (x, y) := Iff.rfl
theorem wI_on2 (hk : k < L.length) (o : On (sc 2 (pt L k)) (sc 2 (pt L (nxt L.length k))) (x, y)) : wI L 2 x y = 0 := by
  unfold wI
  rw [if_pos ⟨k, hk, eOn_2.mpr o⟩]
theorem wI_half (L : PL) (x y : Int) : wI L 2 (2 * x) (2 * y) = wI L 1 x y := by
  have e1 : (∃ i, i < L.length ∧ eOn L 2 (2 * x) (2 * y) i) = (∃ i, i < L.length ∧ eOn L 1 x y i) := propext ⟨fun ⟨i, hi, o⟩ => ⟨i, hi, eOn_1.mpr (On_2.mp o)⟩, fun ⟨i, hi, o⟩ => ⟨i, hi, (On_2 (q := (x, y))).mpr (eOn_1.mp o)⟩⟩
  have e2 : eTog L 2 (2 * x) (2 * y) = eTog L 1 x y := funext fun i => propext (by
    have t2 := T3_sc 2 (pt L i) (pt L (nxt L.length i)) (x, y)
    have t1 := T3_sc 1 (pt L i) (pt L (nxt L.length i)) (x, y)
    rw [sc_1 (x, y)] at t1
    have t2' : tw (2 * pX L i) (2 * pY L i) (2 * pX L (nxt L.length i)) (2 * pY L (nxt L.length i)) (2 * x) (2 * y) = 2 * 2 * T3 (pt L i) (pt L (nxt L.length i)) (x, y) := t2
    have t1' : tw (1 * pX L i) (1 * pY L i) (1 * pX L (nxt L.length i)) (1 * pY L (nxt L.length i)) x y = 1 * 1 * T3 (pt L i) (pt L (nxt L.length i)) (x, y) := t1
    unfold eTog
    rw [t2', t1']
    omega)
  unfold wI
  rw [e1, e2]
theorem On_mid (a b : Pt) : On (sc 2 a) (sc 2 b) (ad a b) := by
  refine ⟨?_, ?_, ?_, ?_, ?_⟩
  · show min (2 * a.1) (2 * b.1) ≤ a.1 + b.1
    omega
  · show a.1 + b.1 ≤ max (2 * a.1) (2 * b.1)
    omega
  · show min (2 * a.2) (2 * b.2) ≤ a.2 + b.2
    omega
  · show a.2 + b.2 ≤ max (2 * a.2) (2 * b.2)
    omega
  · have e : T3 (sc 2 a) (sc 2 b) (ad a b) = 2 * (T3 a b a + T3 a b b) := T3_mid a b a b
    rw [T3_ba, T3_bb] at e
    exact e
theorem On_r (a b : Pt) : On a b b := On_sym (On_l b a)
/-- what lies on an edge is its ends -/
theorem on_ends (h : Smp A B v n) (hk : k < n) (hi : i < n) (o : On (v k) (v (nxt n k)) (v i)) : i = k ∨ i = nxt n k := by
  refine Classical.byContradiction fun w => ?_
  have w1 : k ≠ i := fun e => w (Or.inl e.symm)
  have w2 : nxt n k ≠ i := fun e => w (Or.inr e.symm)
  by_cases c : nxt n i = k
  · refine h.2.2.1 k hk (Or.inl ?_)
    rw [← c, prv_nxt hi, c]
    exact o
  · exact h.2.2.2 k i hk hi w1 w2 c (Or.inr (Or.inl o))
theorem sg0 : sg 0 = 0 := rfl
theorem opn_nxt (h : Smp A B (pt L) L.length) (hk : k < L.length) : opn L k (nxt L.length k) := by
  refine opn_ps.mpr ⟨fun i hi w => ?_, fun s hs os t hst ht ot => ?_⟩
  · by_cases c1 : k = i
    · subst c1
      have w1 := w.1
      rw [T3_ba, sg0, Int.zero_mul] at w1
      omega
    · by_cases c2 : nxt L.length k = i
      · have w1 := w.1
        rw [← c2, T3_bb, sg0, Int.zero_mul] at w1
        omega
      · by_cases c3 : nxt L.length i = k
        · have w1 := w.1
          rw [c3, T3_ba, sg0, Int.mul_zero] at w1
          omega
        · exact h.2.2.2 k i hk hi c1 c2 c3 (Or.inl w)
  · have a1 := on_ends h hk hs os
    have a2 := on_ends h hk ht ot
    have z : wM L s t = 0 := by
      refine wI_on2 hk ?_
      rcases a1 with e1 | e1
      · rcases a2 with e2 | e2
        · omega
        · rw [← e2, e1]
          exact On_mid (pt L k) (pt L t)
      · rcases a2 with e2 | e2
        · rw [← e1, e2]
          have := On_mid (pt L k) (pt L s)
          rw [ad_comm] at this
          exact this
        · omega
    omega
theorem m_see (h : Smp A B (pt L) L.length) : seeG L := fun k hk => by
  refine ⟨fun i hi => ⟨⟨opn_sw, opn_sw⟩, fun hx hy ho => ?_⟩, opn_nxt h hk⟩
  have ex : 2 * (pX L k + pX L i).tdiv 2 = pX L k + pX L i := by
    have := Int.mul_tdiv_add_tmod (pX L k + pX L i) 2
    omega
  have ey : 2 * (pY L k + pY L i).tdiv 2 = pY L k + pY L i := by
    have := Int.mul_tdiv_add_tmod (pY L k + pY L i) 2
    omega
  rw [← wI_half, ex, ey]
  have ho' := opn_ps.mp ho
  rcases Nat.lt_trichotomy k i with g | g | g
  · have := ho'.2 k hk (On_l _ _) i g hi (On_r _ _)
    have e : wM L k i = wI L 2 (pX L k + pX L i) (pY L k + pY L i) := rfl
    omega
  · subst g
    have o : On (sc 2 (pt L k)) (sc 2 (pt L (nxt L.length k))) (2 * pX L k, 2 * pY L k) := (On_2 (q := pt L k)).mpr (On_l _ _)
    have z := wI_on2 hk o
    rw [show pX L k + pX L k = 2 * pX L k by omega, show pY L k + pY L k = 2 * pY L k by omega, z]
    exact Int.le_refl _
  · have := ho'.2 i hi (On_r _ _) k g hk (On_l _ _)
    have e : wM L i k = wI L 2 (pX L i + pX L k) (pY L i + pY L k) := rfl
    rw [show pX L k + pX L i = pX L i + pX L k by omega, show pY L k + pY L i = pY L i + pY L k by omega]
    omega
end MSEE
