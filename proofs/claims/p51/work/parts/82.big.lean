/-! The mathematics of the law's checks: a polygon is no bigger than its hull -/
section MBIG
variable {D : Pt → Prop} {L H : PL} {a b c p q r z : Pt} {v : Nat → Pt} {A B g1 g2 x y : Int} {R i j k n : Nat}
theorem id_hf (A B g1 g2 : Int) (a b z : Pt) : (lv A B b - lv A B z) * (lv g1 g2 a - lv g1 g2 z) + (lv A B z - lv A B a) * (lv g1 g2 b - lv g1 g2 z) = (B * g1 - A * g2) * T3 a b z := by
  obtain ⟨a1, a2⟩ := a
  obtain ⟨b1, b2⟩ := b
  obtain ⟨z1, z2⟩ := z
  simp only [T3, tw, lv]
  grind
theorem id_g1 (g1 g2 : Int) (a b z : Pt) : g1 * T3 a b z = (z.2 - a.2) * (lv g1 g2 b - lv g1 g2 a) - (b.2 - a.2) * (lv g1 g2 z - lv g1 g2 a) := by
  obtain ⟨a1, a2⟩ := a
  obtain ⟨b1, b2⟩ := b
  obtain ⟨z1, z2⟩ := z
  simp only [T3, tw, lv]
  grind
theorem id_g2 (g1 g2 : Int) (a b z : Pt) : g2 * T3 a b z = (b.1 - a.1) * (lv g1 g2 z - lv g1 g2 a) - (z.1 - a.1) * (lv g1 g2 b - lv g1 g2 a) := by
  obtain ⟨a1, a2⟩ := a
  obtain ⟨b1, b2⟩ := b
  obtain ⟨z1, z2⟩ := z
  simp only [T3, tw, lv]
  grind
theorem hf_up (hg : ¬ (g1 = 0 ∧ g2 = 0)) (h1 : lv A B a < lv A B z) (h2 : lv A B z < lv A B b) (ga : lv g1 g2 z ≤ lv g1 g2 a) (gb : lv g1 g2 z ≤ lv g1 g2 b) (off : ¬ On a b z) : 0 < (B * g1 - A * g2) * T3 a b z := by
  rw [← id_hf]
  have n1 := Int.mul_nonneg (show 0 ≤ lv A B b - lv A B z by omega) (show 0 ≤ lv g1 g2 a - lv g1 g2 z by omega)
  have n2 := Int.mul_nonneg (show 0 ≤ lv A B z - lv A B a by omega) (show 0 ≤ lv g1 g2 b - lv g1 g2 z by omega)
  refine Classical.byContradiction fun w => off ?_
  have z1 := zero_of (k := lv A B b - lv A B z) (z := lv g1 g2 a - lv g1 g2 z) (by omega) (by omega)
  have z2 := zero_of (k := lv A B z - lv A B a) (z := lv g1 g2 b - lv g1 g2 z) (by omega) (by omega)
  have e1 := id_g1 g1 g2 a b z
  have e2 := id_g2 g1 g2 a b z
  rw [show lv g1 g2 b - lv g1 g2 a = 0 by omega, show lv g1 g2 z - lv g1 g2 a = 0 by omega, Int.mul_zero, Int.mul_zero] at e1 e2
  have t : T3 a b z = 0 := by
    rcases Int.mul_eq_zero.mp e1 with w1 | w1
    · rcases Int.mul_eq_zero.mp e2 with w2 | w2
      · exact absurd ⟨w1, w2⟩ hg
      · exact w2
    · exact w1
  exact on_of (show lv A B a < lv A B b by omega) (by omega) (by omega) t
/-- beside all corners the number is 0 -/
theorem wN_half (hg : ¬ (g1 = 0 ∧ g2 = 0)) (hz : ∀ i, i < n → lv g1 g2 z ≤ lv g1 g2 (v i)) (hv : ∀ i, i < n → lv A B z ≠ lv A B (v i)) (off : ∀ i, i < n → ¬ On (v i) (v (nxt n i)) z) : wN A B v n z = 0 := by
  have up : ∀ i, i < n → lv A B (v i) < lv A B z → lv A B z < lv A B (v (nxt n i)) → 0 < (B * g1 - A * g2) * T3 (v i) (v (nxt n i)) z := fun i hi h1 h2 => hf_up hg h1 h2 (hz i hi) (hz _ (nxt_lt hi)) (off i hi)
  have dn : ∀ i, i < n → lv A B z < lv A B (v i) → lv A B (v (nxt n i)) < lv A B z → (B * g1 - A * g2) * T3 (v i) (v (nxt n i)) z < 0 := fun i hi h1 h2 => by
    have w := hf_up hg h2 h1 (hz _ (nxt_lt hi)) (hz i hi) (fun o => off i hi (On_sym o))
    rw [T3_ba', Int.mul_neg] at w
    omega
  unfold wN
  by_cases c : 0 < B * g1 - A * g2
  · have e : ∀ i, i < n → cS A B (v i) (v (nxt n i)) z = (fun j => if lv A B (v j) < lv A B z then (-1 : Int) else 0) (nxt n i) - (fun j => if lv A B (v j) < lv A B z then (-1 : Int) else 0) i := fun i hi => by
      have d1 := hv i hi
      have d2 := hv _ (nxt_lt hi)
      show _ = (if lv A B (v (nxt n i)) < lv A B z then (-1 : Int) else 0) - (if lv A B (v i) < lv A B z then (-1 : Int) else 0)
      unfold cS
      by_cases c1 : lv A B (v i) < lv A B z
      · by_cases c2 : lv A B (v (nxt n i)) < lv A B z
        · rw [if_neg (by omega), if_neg (by omega), if_pos c2, if_pos c1]
          rfl
        · have t := pos_of c (up i hi c1 (by omega))
          rw [if_pos ⟨by omega, by omega, t⟩, if_neg c2, if_pos c1]
          rfl
      · by_cases c2 : lv A B (v (nxt n i)) < lv A B z
        · have t := ng_of (Int.le_of_lt c) (dn i hi (by omega) c2)
          rw [if_neg (by omega), if_pos ⟨by omega, by omega, t⟩, if_pos c2, if_neg c1]
          rfl
        · rw [if_neg (by omega), if_neg (by omega), if_neg c2, if_neg c1]
          rfl
    rw [sumN_cg n e]
    exact ring_sum (fun j => if lv A B (v j) < lv A B z then (-1 : Int) else 0) n
  · refine sumN_z n fun i hi => ?_
    have d1 := hv i hi
    have d2 := hv _ (nxt_lt hi)
    have k1 : lv A B (v i) < lv A B z → lv A B z < lv A B (v (nxt n i)) → ¬ 0 < T3 (v i) (v (nxt n i)) z := fun h1 h2 t => by
      have := up i hi h1 h2
      have := Int.mul_nonneg (show 0 ≤ -(B * g1 - A * g2) by omega) (Int.le_of_lt t)
      rw [Int.neg_mul] at this
      omega
    have k2 : lv A B z < lv A B (v i) → lv A B (v (nxt n i)) < lv A B z → ¬ T3 (v i) (v (nxt n i)) z < 0 := fun h1 h2 t => by
      have := dn i hi h1 h2
      have := Int.mul_nonneg (show 0 ≤ -(B * g1 - A * g2) by omega) (show 0 ≤ -T3 (v i) (v (nxt n i)) z by omega)
      rw [Int.neg_mul, Int.mul_neg] at this
      omega
    unfold cS
    rw [if_neg (fun w => k1 (by omega) w.2.1 w.2.2), if_neg (fun w => k2 (by omega) (by omega) w.2.2)]
theorem col3 (h1 : On b c p) (h2 : On b c q) (h3 : On b c r) : T3 p q r = 0 := by
  by_cases e : b = c
  · subst e
    obtain ⟨x1, x2, y1, y2, -⟩ := h1
    obtain ⟨u1, u2, v1, v2, -⟩ := h2
    have : p = q := pt_eq (by omega) (by omega)
    rw [this]
    exact T3_aa _ _
  · have hab := lv_sq b c e
    have k := id_3 (c.1 - b.1) (c.2 - b.2) b c p q r
    rw [On_T h1, On_T h2, On_T h3, Int.mul_zero, Int.mul_zero, Int.mul_zero] at k
    exact zero_of (k := lv (c.1 - b.1) (c.2 - b.2) c - lv (c.1 - b.1) (c.2 - b.2) b) (by omega) k
/-- as many places on the edges as the edges' own numbers say -/
theorem bnd_cnt (h : Smp (-1) 100000 (pt L) L.length) (hR : R ≤ 1000) (hv : inR R (pt L) L.length) : srd L = bx R (fun x y => ic (∃ i, i < L.length ∧ On (pt L i) (pt L (nxt L.length i)) (x, y))) := by
  have h3 := h.1
  have ne : ∀ i, i < L.length → pt L i ≠ pt L (nxt L.length i) := fun i hi => Smp_ne h hi
  have e1 : sumN (fun i => bx R (fun x y => ic (On (pt L i) (pt L (nxt L.length i)) (x, y) ∧ (x, y) ≠ pt L (nxt L.length i)))) L.length = srd L := sumN_cg _ fun i hi => by
    have b1 := hv i hi
    have b2 := hv _ (nxt_lt hi)
    exact seg_cnt b1.1 b1.2 b2.1 b2.2 (ne i hi)
  rw [← e1, ← bx_sm]
  refine bx_cg fun x y h1 h2 h3' h4 => ?_
  have hb : ∀ i, i < L.length → -1000 ≤ (pt L i).1 ∧ (pt L i).1 ≤ 1000 := fun i hi => by
    have := hv i hi
    have t1 := this.1
    omega
  have hz : ∀ k, k < L.length → lv (-1) 100000 (x, y) = lv (-1) 100000 (pt L k) → (x, y) = pt L k := fun k hk g => lvm_inj (p := (x, y)) (by show -1000 ≤ x ∧ x ≤ 1000; omega) (hb k hk) g
  by_cases c : ∃ i, i < L.length ∧ On (pt L i) (pt L (nxt L.length i)) (x, y)
  · rw [ic_t c]
    obtain ⟨i, hi, o, n⟩ : ∃ i, i < L.length ∧ On (pt L i) (pt L (nxt L.length i)) (x, y) ∧ (x, y) ≠ pt L (nxt L.length i) := by
      obtain ⟨i, hi, o⟩ := c
      by_cases e : (x, y) = pt L (nxt L.length i)
      · refine ⟨_, nxt_lt hi, ?_, ?_⟩
        · rw [e]
          exact On_l _ _
        · rw [e]
          exact ne _ (nxt_lt hi)
      · exact ⟨i, hi, o, e⟩
    rw [sumN_1 hi fun j hj ej => ic_f fun w => on_two h hj hi ej w.1 o w.2 n hz]
    exact ic_t ⟨o, n⟩
  · rw [ic_f c]
    exact sumN_z _ fun i hi => ic_f fun w => c ⟨i, hi, w.1⟩
/-- what is inside is inside the hull -/
theorem in_in (h : Smp (-1) 100000 (pt L) L.length) (hb : ∀ i, i < L.length → (-1000 ≤ pX L i ∧ pX L i ≤ 1000) ∧ (-1000 ≤ pY L i ∧ pY L i ≤ 1000)) (hH : hul D H) (cH : cvx H) (h3 : 3 ≤ H.length) (hd : ∀ i, i < L.length → D (pt L i)) (hx : -1000 ≤ x ∧ x ≤ 1000) (w : wI L 1 x y = 1) : wI H 1 x y = 1 := by
  refine (wI_cv cH.2.2.1 h3).mpr fun k hk => Classical.byContradiction fun t => ?_
  have off : ∀ i, i < L.length → ¬ On (pt L i) (pt L (nxt L.length i)) (x, y) := fun i hi o => by
    rw [wI_on hi o] at w
    exact absurd w (by decide)
  have lz : ∀ i, i < L.length → lv (-1) 100000 (x, y) ≠ lv (-1) 100000 (pt L i) := fun i hi g => off i hi (by
    rw [lvm_inj (p := (x, y)) hx (hb i hi).1 g]
    exact On_l _ _)
  have cl : ∀ d q : Pt, cr d q = lv (-d.2) d.1 q := fun d q => by
    simp only [cr, lv]
    grind
  have eT : ∀ q, T3 (pt H k) (pt H (nxt H.length k)) q = lv (-(sb (pt H (nxt H.length k)) (pt H k)).2) (sb (pt H (nxt H.length k)) (pt H k)).1 q - lv (-(sb (pt H (nxt H.length k)) (pt H k)).2) (sb (pt H (nxt H.length k)) (pt H k)).1 (pt H k) := fun q => by
    rw [T3_G1, ← cl, ← cl]
    show _ - 1 * _ = _
    omega
  have gz : ∀ i, i < L.length → lv (-(sb (pt H (nxt H.length k)) (pt H k)).2) (sb (pt H (nxt H.length k)) (pt H k)).1 (x, y) ≤ lv (-(sb (pt H (nxt H.length k)) (pt H k)).2) (sb (pt H (nxt H.length k)) (pt H k)).1 (pt L i) := fun i hi => by
    have q := nn_or (hH.2.2.2.2 k hk _ (hd i hi))
    rw [eT] at q t
    omega
  have gn : ¬ (-(sb (pt H (nxt H.length k)) (pt H k)).2 = 0 ∧ (sb (pt H (nxt H.length k)) (pt H k)).1 = 0) := fun g => by
    refine W_ne hH (by omega) hk (pt_eq ?_ ?_)
    · have := g.2
      have e : (sb (pt H (nxt H.length k)) (pt H k)).1 = (pt H (nxt H.length k)).1 - (pt H k).1 := rfl
      omega
    · have := g.1
      have e : (sb (pt H (nxt H.length k)) (pt H k)).2 = (pt H (nxt H.length k)).2 - (pt H k).2 := rfl
      omega
  have n1 := wN_half (A := -1) (B := 100000) gn gz lz off
  have n2 := wN_half (A := - -1) (B := -100000) gn gz (fun i hi g => lz i hi (by rw [lv_neg, lv_neg] at g; omega)) off
  have o := wI_om h hb hx off
  rw [ic_t w] at o
  unfold om at o
  rw [n1, n2] at o
  omega
theorem m_big (hL : polP L) (hc : closes L) : ((da L).natAbs : Int) = 2 * pin L + srd L - 2 ∧ ((da L).natAbs : Int) ≤ da (hO L) := by
  obtain ⟨⟨l1, l2⟩, hG⟩ := hL
  have hok : okP L := fun i hi => by
    have := hG i hi
    omega
  obtain ⟨h, hv⟩ := Smp_P hc hok
  have hb : ∀ i, i < L.length → (-1000 ≤ pX L i ∧ pX L i ≤ 1000) ∧ (-1000 ≤ pY L i ∧ pY L i ≤ 1000) := fun i hi => by
    have := hG i hi
    omega
  have pk := pick_abs (R := 400) (by decide) h (fun i hi => by
    have := hG i hi
    have ex : (pt L i).1 = pX L i := rfl
    have ey : (pt L i).2 = pY L i := rfl
    omega)
  have hv4 : inR 400 (pt L) L.length := fun i hi => by
    have := hG i hi
    have ex : (pt L i).1 = pX L i := rfl
    have ey : (pt L i).2 = pY L i := rfl
    omega
  obtain ⟨hH, cH, lH⟩ := ho_hul hok (by omega) (by omega)
  refine ⟨by rw [pin_bx (R := 400) (by decide) h hv4]; exact pk.1, ?_⟩
  have hd : ∀ i, i < L.length → pq L L.length (pt L i) := fun i hi => ⟨i, hi, rfl⟩
  have h3 : 3 ≤ (hO L).length := by
    refine Classical.byContradiction fun w => ?_
    obtain ⟨i, hi, mi⟩ := top_ex (-1) 100000 (pt L) (show 0 < L.length by omega)
    have hp := prv_lt hi
    have hn := nxt_lt hi
    have al : ∀ j, j < L.length → On (pt (hO L) 0) (pt (hO L) (nxt (hO L).length 0)) (pt L j) := fun j hj => hul_small hH (by omega) (hd j hj)
    have t := col3 (al _ hp) (al _ hi) (al _ hn)
    have d1 := Smp_lv h hp hi (prv_ne (by omega) hi)
    have d2 := Smp_lv h hn hi (nxt_ne (by omega) hi)
    have m1 := mi _ hp
    have m2 := mi _ hn
    refine Fdb_T (A := - -1) (B := -100000) (h.2.2.1 i hi) (Or.inl ⟨?_, ?_⟩) t
    · rw [lv_neg, lv_neg]
      omega
    · rw [lv_neg, lv_neg]
      omega
  obtain ⟨hS, hvH⟩ := Smp_F2 cH h3
  have pH : ((da (hO L)).natAbs : Int) = 2 * bx 400 (fun x y => ic (wI (hO L) 1 x y = 1)) + srd (hO L) - 2 := (pick_abs (R := 400) (by decide) hS hvH).1
  have dp : 0 < da (hO L) := (m_pick cH h3).2
  have e1 := bnd_cnt (R := 400) h (by decide) hv4
  have e2 := bnd_cnt (L := hO L) (R := 400) hS (by decide) hvH
  have eL : ((da L).natAbs : Int) + 2 = bx 400 (fun x y => 2 * ic (wI L 1 x y = 1) + ic (∃ i, i < L.length ∧ On (pt L i) (pt L (nxt L.length i)) (x, y))) := by
    rw [bx_ad, bx_mul, ← e1, pk.1]
    omega
  have eH : da (hO L) + 2 = bx 400 (fun x y => 2 * ic (wI (hO L) 1 x y = 1) + ic (∃ i, i < (hO L).length ∧ On (pt (hO L) i) (pt (hO L) (nxt (hO L).length i)) (x, y))) := by
    rw [bx_ad, bx_mul, ← e2]
    omega
  have le : bx 400 (fun x y => 2 * ic (wI L 1 x y = 1) + ic (∃ i, i < L.length ∧ On (pt L i) (pt L (nxt L.length i)) (x, y))) ≤ bx 400 (fun x y => 2 * ic (wI (hO L) 1 x y = 1) + ic (∃ i, i < (hO L).length ∧ On (pt (hO L) i) (pt (hO L) (nxt (hO L).length i)) (x, y))) := by
    refine sumN_le _ fun t ht => sumN_le _ fun s hs => ?_
    generalize hxx : ((s : Int) - (400 : Nat)) = x
    generalize ((t : Int) - (400 : Nat)) = y
    have hx : -1000 ≤ x ∧ x ≤ 1000 := by omega
    show 2 * ic (wI L 1 x y = 1) + ic _ ≤ 2 * ic (wI (hO L) 1 x y = 1) + ic _
    have n1 := ic_nn (wI (hO L) 1 x y = 1)
    have n2 := ic_nn (∃ i, i < (hO L).length ∧ On (pt (hO L) i) (pt (hO L) (nxt (hO L).length i)) (x, y))
    by_cases c1 : wI L 1 x y = 1
    · have c2 : ¬ ∃ i, i < L.length ∧ On (pt L i) (pt L (nxt L.length i)) (x, y) := fun ⟨i, hi, o⟩ => by
        rw [wI_on hi o] at c1
        exact absurd c1 (by decide)
      rw [ic_t c1, ic_f c2, ic_t (in_in h hb hH cH h3 hd hx c1)]
      omega
    · rw [ic_f c1]
      by_cases c2 : ∃ i, i < L.length ∧ On (pt L i) (pt L (nxt L.length i)) (x, y)
      · rw [ic_t c2]
        obtain ⟨i, hi, o⟩ := c2
        have I : InK (hO L) 1 (x, y) := by
          refine ⟨fun k hk => ?_, fun hl => by omega⟩
          rw [← T3_G1]
          exact on_nn o (nn_or (hH.2.2.2.2 k hk _ (hd i hi))) (nn_or (hH.2.2.2.2 k hk _ (hd _ (nxt_lt hi))))
        have wn := In_wI cH.2.2.1 hH.1 I
        rcases wI_nn cH.2.2.1 wn with g | ⟨g3, g⟩
        · rw [ic_t g]
          omega
        · rw [ic_t ((wI_cv cH.2.2.1 h3).mpr g)]
          omega
      · rw [ic_f c2]
        omega
  omega
end MBIG
