/-! The mathematics of the law's checks: what is in a figure, at some scale -/
/-- how far to the left of a line a place lies, at some scale -/
def Gk (a c : Pt) (K : Int) (Z : Pt) : Int := cr (sb c a) Z - K * cr (sb c a) a
def Bx (a c : Pt) (K : Int) (Z : Pt) : Prop := (min (K * a.1) (K * c.1) ≤ Z.1 ∧ Z.1 ≤ max (K * a.1) (K * c.1)) ∧ min (K * a.2) (K * c.2) ≤ Z.2 ∧ Z.2 ≤ max (K * a.2) (K * c.2)
def InK (W : PL) (K : Int) (Z : Pt) : Prop := (∀ k, k < W.length → 0 ≤ Gk (pt W k) (pt W (nxt W.length k)) K Z) ∧ (W.length < 3 → Bx (pt W 0) (pt W (nxt W.length 0)) K Z)
section MAPA
variable {D : Pt → Prop} {W : PL} {a c b q Z Z1 Z2 Y : Pt} {K K1 K2 m x y : Int} {i j k n : Nat}
theorem T3_G (a c : Pt) (K : Int) (Z : Pt) : T3 (sc K a) (sc K c) Z = K * Gk a c K Z := by
  simp only [T3, tw, sc, Gk, cr, sb]
  grind
theorem T3_G1 (a c q : Pt) : T3 a c q = Gk a c 1 q := by
  simp only [T3, tw, Gk, cr, sb]
  grind
theorem Gk_ad (a c : Pt) (K1 K2 : Int) (Z1 Z2 : Pt) : Gk a c (K1 + K2) (ad Z1 Z2) = Gk a c K1 Z1 + Gk a c K2 Z2 := by
  simp only [Gk, cr, sb, ad]
  grind
theorem Gk_sc (a c : Pt) (m K : Int) (Z : Pt) : Gk a c (m * K) (sc m Z) = m * Gk a c K Z := by
  simp only [Gk, cr, sb, sc]
  grind
theorem Gk_sw (a c : Pt) (K : Int) (Z : Pt) : Gk c a K Z = - Gk a c K Z := by
  simp only [Gk, cr, sb]
  grind
theorem Gk_aa (a : Pt) (K : Int) (Z : Pt) : Gk a a K Z = 0 := by
  simp only [Gk, cr, sb]
  grind
theorem mm_ad {A C z1 z2 : Int} (h1 : 0 ≤ K1) (h2 : 0 ≤ K2) (e1 : min (K1 * A) (K1 * C) ≤ z1 ∧ z1 ≤ max (K1 * A) (K1 * C)) (e2 : min (K2 * A) (K2 * C) ≤ z2 ∧ z2 ≤ max (K2 * A) (K2 * C)) : min ((K1 + K2) * A) ((K1 + K2) * C) ≤ z1 + z2 ∧ z1 + z2 ≤ max ((K1 + K2) * A) ((K1 + K2) * C) := by
  rw [Int.add_mul, Int.add_mul]
  rcases Int.le_total A C with g | g
  · have g1 := Int.mul_le_mul_of_nonneg_left g h1
    have g2 := Int.mul_le_mul_of_nonneg_left g h2
    omega
  · have g1 := Int.mul_le_mul_of_nonneg_left g h1
    have g2 := Int.mul_le_mul_of_nonneg_left g h2
    omega
theorem mm_sc {A C z : Int} (h1 : 0 ≤ m) (e1 : min (K * A) (K * C) ≤ z ∧ z ≤ max (K * A) (K * C)) : min (m * K * A) (m * K * C) ≤ m * z ∧ m * z ≤ max (m * K * A) (m * K * C) := by
  rw [Int.mul_assoc, Int.mul_assoc]
  rcases Int.le_total (K * A) (K * C) with g | g
  · have g1 := Int.mul_le_mul_of_nonneg_left g h1
    have g2 := Int.mul_le_mul_of_nonneg_left (show K * A ≤ z by omega) h1
    have g3 := Int.mul_le_mul_of_nonneg_left (show z ≤ K * C by omega) h1
    omega
  · have g1 := Int.mul_le_mul_of_nonneg_left g h1
    have g2 := Int.mul_le_mul_of_nonneg_left (show K * C ≤ z by omega) h1
    have g3 := Int.mul_le_mul_of_nonneg_left (show z ≤ K * A by omega) h1
    omega
theorem Bx_ad (h1 : 0 ≤ K1) (h2 : 0 ≤ K2) (e1 : Bx a c K1 Z1) (e2 : Bx a c K2 Z2) : Bx a c (K1 + K2) (ad Z1 Z2) := ⟨mm_ad h1 h2 e1.1 e2.1, mm_ad h1 h2 e1.2 e2.2⟩
theorem Bx_sc (h1 : 0 ≤ m) (e1 : Bx a c K Z) : Bx a c (m * K) (sc m Z) := ⟨mm_sc h1 e1.1, mm_sc h1 e1.2⟩
theorem On_Bx : On (sc K a) (sc K c) Z ↔ Bx a c K Z ∧ K * Gk a c K Z = 0 := by
  have e := T3_G a c K Z
  constructor
  · rintro ⟨h1, h2, h3, h4, t⟩
    exact ⟨⟨⟨h1, h2⟩, h3, h4⟩, e ▸ t⟩
  · rintro ⟨⟨⟨h1, h2⟩, h3, h4⟩, t⟩
    exact ⟨h1, h2, h3, h4, e.trans t⟩
theorem sc_1 (a : Pt) : sc 1 a = a := pt_eq (Int.one_mul _) (Int.one_mul _)
theorem In_ad (h1 : 0 ≤ K1) (h2 : 0 ≤ K2) (e1 : InK W K1 Z1) (e2 : InK W K2 Z2) : InK W (K1 + K2) (ad Z1 Z2) := by
  refine ⟨fun k hk => ?_, fun h => Bx_ad h1 h2 (e1.2 h) (e2.2 h)⟩
  rw [Gk_ad]
  have := e1.1 k hk
  have := e2.1 k hk
  omega
theorem In_sc (h1 : 0 ≤ m) (e1 : InK W K Z) : InK W (m * K) (sc m Z) := by
  refine ⟨fun k hk => ?_, fun h => Bx_sc h1 (e1.2 h)⟩
  rw [Gk_sc]
  exact Int.mul_nonneg h1 (e1.1 k hk)
theorem hul_small (h : hul D W) (hl : W.length < 3) (hq : D q) : On (pt W 0) (pt W (nxt W.length 0)) q := by
  have h0 := h.1
  have t0 := h.2.2.2.2 0 h0 q hq
  by_cases c1 : W.length = 1
  · rw [c1] at t0 ⊢
    rcases t0 with w | w
    · have e : T3 (pt W 0) (pt W 0) q = 0 := T3_aa _ _
      have w' : 0 < T3 (pt W 0) (pt W 0) q := w
      omega
    · exact w
  · have c2 : W.length = 2 := by omega
    have t1 := h.2.2.2.2 1 (by omega) q hq
    rw [c2] at t0 t1 ⊢
    rcases t0 with w | w
    · rcases t1 with w1 | w1
      · have w' : 0 < T3 (pt W 0) (pt W 1) q := w
        have w1' : 0 < T3 (pt W 1) (pt W 0) q := w1
        rw [T3_ba'] at w1'
        omega
      · exact On_sym w1
    · exact w
theorem In_D (h : hul D W) (hq : D q) : InK W 1 q := by
  refine ⟨fun k hk => ?_, fun hl => ?_⟩
  · rw [← T3_G1]
    exact nn_or (h.2.2.2.2 k hk q hq)
  · have o := hul_small h hl hq
    rw [← sc_1 (pt W 0), ← sc_1 (pt W (nxt W.length 0))] at o
    exact (On_Bx.mp o).1
theorem wI_on (hk : k < W.length) (o : On (pt W k) (pt W (nxt W.length k)) (x, y)) : wI W 1 x y = 0 := by
  unfold wI
  rw [if_pos ⟨k, hk, eOn_1.mpr o⟩]
theorem In_edge (hl : W.length < 3) (h0 : 0 < W.length) (h : InK W K Z) : Gk (pt W 0) (pt W (nxt W.length 0)) K Z = 0 := by
  by_cases c1 : W.length = 1
  · rw [c1]
    exact Gk_aa _ _ _
  · have c2 : W.length = 2 := by omega
    have t0 := h.1 0 h0
    have t1 := h.1 1 (by omega)
    rw [c2] at t0 t1 ⊢
    have t0' : 0 ≤ Gk (pt W 0) (pt W 1) K Z := t0
    have t1' : 0 ≤ Gk (pt W 1) (pt W 0) K Z := t1
    rw [Gk_sw] at t1'
    show Gk (pt W 0) (pt W 1) K Z = 0
    omega
theorem In_wI (he : edL W) (h0 : 0 < W.length) (h : InK W 1 (x, y)) : 0 ≤ wI W 1 x y := by
  by_cases hl : W.length < 3
  · have o : On (sc 1 (pt W 0)) (sc 1 (pt W (nxt W.length 0))) (x, y) := On_Bx.mpr ⟨h.2 hl, by rw [In_edge hl h0 h]; rfl⟩
    rw [sc_1, sc_1] at o
    rw [wI_on h0 o]
    exact Int.le_refl _
  · have hp : ∀ k, k < W.length → 0 ≤ T3 (pt W k) (pt W (nxt W.length k)) (x, y) := fun k hk => by
      rw [T3_G1]
      exact h.1 k hk
    by_cases c : ∃ k, k < W.length ∧ On (pt W k) (pt W (nxt W.length k)) (x, y)
    · obtain ⟨k, hk, o⟩ := c
      rw [wI_on hk o]
      exact Int.le_refl _
    · rw [(wI_cv he (by omega)).mpr fun k hk => (cv_on he (by omega) hp hk).elim id fun o => absurd ⟨k, hk, o⟩ c]
      decide
theorem In_out (he : edL W) (h3 : 3 ≤ W.length) (h : wI W 1 b.1 b.2 < 0) : ∃ k, k < W.length ∧ Gk (pt W k) (pt W (nxt W.length k)) 1 b < 0 := by
  refine Classical.byContradiction fun c => ?_
  have := In_wI (x := b.1) (y := b.2) he (by omega) ⟨fun k hk => Classical.byContradiction fun g => c ⟨k, hk, Int.not_le.mp g⟩, fun w => by omega⟩
  omega
/-- the least of fractions -/
theorem frac_min {Q : Nat → Prop} (N E : Nat → Int) (hE : ∀ i, Q i → 0 < E i) : ∀ n, (∃ j, j < n ∧ Q j) → ∃ j, j < n ∧ Q j ∧ ∀ i, i < n → Q i → N j * E i ≤ N i * E j
  | 0, h => by
    obtain ⟨j, hj, _⟩ := h
    exact absurd hj (Nat.not_lt_zero _)
  | n + 1, h => by
    by_cases e : ∃ j, j < n ∧ Q j
    · obtain ⟨j, hj, qj, mj⟩ := frac_min N E hE n e
      by_cases c : Q n ∧ N n * E j < N j * E n
      · refine ⟨n, by omega, c.1, fun i hi qi => ?_⟩
        by_cases g : i = n
        · subst g
          exact Int.le_refl _
        · have h1 := mj i (by omega) qi
          have h2 := Int.mul_le_mul_of_nonneg_right (Int.le_of_lt c.2) (Int.le_of_lt (hE i qi))
          have h3 := Int.mul_le_mul_of_nonneg_right h1 (Int.le_of_lt (hE n c.1))
          have e1 : N n * E j * E i = E j * (N n * E i) := by grind
          have e2 : N j * E n * E i = N j * E i * E n := by grind
          have e3 : N i * E j * E n = E j * (N i * E n) := by grind
          exact (kle (hE j qj)).mp (by omega)
      · refine ⟨j, by omega, qj, fun i hi qi => ?_⟩
        by_cases g : i = n
        · subst g
          exact Int.not_lt.mp fun w => c ⟨qi, w⟩
        · exact mj i (by omega) qi
    · obtain ⟨j, hj, qj⟩ := h
      have ej : j = n := by
        refine Classical.byContradiction fun g => e ⟨j, by omega, qj⟩
      subst ej
      refine ⟨j, by omega, qj, fun i hi qi => ?_⟩
      by_cases g : i = j
      · subst g
        exact Int.le_refl _
      · exact absurd ⟨i, by omega, qi⟩ e
/-- on the way from a place within to one outside an edge is met -/
theorem exit (hW : hul D W) (he : edL W) (hK : 0 < K) (hY : InK W K Y) (hb : wI W 1 b.1 b.2 < 0) : ∃ s t : Int, 0 < s ∧ 0 ≤ t ∧ ∃ k, k < W.length ∧ On (sc (s * K + t) (pt W k)) (sc (s * K + t) (pt W (nxt W.length k))) (ad (sc s Y) (sc t b)) := by
  by_cases hl : W.length < 3
  · refine ⟨1, 0, by decide, Int.le_refl _, 0, hW.1, ?_⟩
    have e : ad (sc 1 Y) (sc 0 b) = Y := pt_eq (by show 1 * Y.1 + 0 * b.1 = _; omega) (by show 1 * Y.2 + 0 * b.2 = _; omega)
    rw [e, show (1 * K + 0 : Int) = K by omega]
    exact On_Bx.mpr ⟨hY.2 hl, by rw [In_edge hl hW.1 hY, Int.mul_zero]⟩
  · obtain ⟨k0, hk0, g0⟩ := In_out he (by omega) hb
    obtain ⟨k, hk, gk, mk⟩ := frac_min (Q := fun k => k < W.length ∧ Gk (pt W k) (pt W (nxt W.length k)) 1 b < 0) (fun k => Gk (pt W k) (pt W (nxt W.length k)) K Y) (fun k => - Gk (pt W k) (pt W (nxt W.length k)) 1 b) (fun i q => by have := q.2; show 0 < - _; omega) W.length ⟨k0, hk0, hk0, g0⟩
    have gk2 := gk.2
    have yk := hY.1 k hk
    have tot : ∀ j, j < W.length → Gk (pt W j) (pt W (nxt W.length j)) (- Gk (pt W k) (pt W (nxt W.length k)) 1 b * K + Gk (pt W k) (pt W (nxt W.length k)) K Y) (ad (sc (- Gk (pt W k) (pt W (nxt W.length k)) 1 b) Y) (sc (Gk (pt W k) (pt W (nxt W.length k)) K Y) b)) = - Gk (pt W k) (pt W (nxt W.length k)) 1 b * Gk (pt W j) (pt W (nxt W.length j)) K Y + Gk (pt W k) (pt W (nxt W.length k)) K Y * Gk (pt W j) (pt W (nxt W.length j)) 1 b := fun j hj => by
      have e1 := Gk_ad (pt W j) (pt W (nxt W.length j)) (- Gk (pt W k) (pt W (nxt W.length k)) 1 b * K) (Gk (pt W k) (pt W (nxt W.length k)) K Y * 1) (sc (- Gk (pt W k) (pt W (nxt W.length k)) 1 b) Y) (sc (Gk (pt W k) (pt W (nxt W.length k)) K Y) b)
      rw [Gk_sc, Gk_sc, Int.mul_one] at e1
      exact e1
    generalize hs : - Gk (pt W k) (pt W (nxt W.length k)) 1 b = s at *
    generalize ht : Gk (pt W k) (pt W (nxt W.length k)) K Y = t at *
    have s0 : 0 < s := by omega
    have nn : ∀ j, j < W.length → 0 ≤ Gk (pt W j) (pt W (nxt W.length j)) (s * K + t) (ad (sc s Y) (sc t b)) := fun j hj => by
      rw [tot j hj]
      by_cases c : Gk (pt W j) (pt W (nxt W.length j)) 1 b < 0
      · have h1 := mk j hj ⟨hj, c⟩
        have h2 : t * -Gk (pt W j) (pt W (nxt W.length j)) 1 b ≤ Gk (pt W j) (pt W (nxt W.length j)) K Y * s := h1
        rw [Int.mul_neg] at h2
        rw [Int.mul_comm] at h2
        have e3 := Int.mul_comm s (Gk (pt W j) (pt W (nxt W.length j)) K Y)
        have e4 := Int.mul_comm t (Gk (pt W j) (pt W (nxt W.length j)) 1 b)
        omega
      · exact Int.add_nonneg (Int.mul_nonneg (Int.le_of_lt s0) (hY.1 j hj)) (Int.mul_nonneg yk (by omega))
    have z : Gk (pt W k) (pt W (nxt W.length k)) (s * K + t) (ad (sc s Y) (sc t b)) = 0 := by
      rw [tot k hk, ht]
      have e5 : Gk (pt W k) (pt W (nxt W.length k)) 1 b = -s := by omega
      rw [e5, Int.mul_comm, Int.mul_neg]
      omega
    have hK2 : 0 < s * K + t := by
      have := Int.mul_pos s0 hK
      omega
    refine ⟨s, t, s0, yk, k, hk, ?_⟩
    have hpv : prv W.length k < W.length := prv_lt hk
    have en := nxt_prv hk
    have t1 := ed_turn he (by omega) hpv
    rw [en] at t1
    have t2 := ed_turn he (by omega) hk
    refine inb (z := sc (s * K + t) (pt W (prv W.length k))) (c := sc (s * K + t) (pt W (nxt W.length (nxt W.length k)))) ?_ ?_ ?_ ?_ ?_
    · rw [T3_sc]
      exact (kps hK2).mpr t1
    · rw [T3_sc]
      exact (kps hK2).mpr t2
    · rw [T3_G]
      have := nn _ hpv
      rw [en] at this
      exact Int.mul_nonneg (Int.le_of_lt hK2) this
    · rw [T3_G]
      exact Int.mul_nonneg (Int.le_of_lt hK2) (nn _ (nxt_lt hk))
    · rw [T3_G, z, Int.mul_zero]
end MAPA
