/-! The mathematics of the law's checks: two figures touch if and only if their difference holds the origin -/
section MAPB
variable {D HA HB : Pt → Prop} {W V A B M : PL} {a c b p q r z m Z : Pt} {K u v x y : Int} {i j k n : Nat}
theorem on_lin (h : On b c q) : ∃ L s : Int, 0 < L ∧ 0 ≤ s ∧ s ≤ L ∧ L * (q.1 - b.1) = s * (c.1 - b.1) ∧ L * (q.2 - b.2) = s * (c.2 - b.2) := by
  by_cases e : b = c
  · subst e
    obtain ⟨x1, x2, y1, y2, -⟩ := h
    refine ⟨1, 0, by decide, by decide, by decide, ?_, ?_⟩
    · rw [show q.1 - b.1 = 0 by omega]
      omega
    · rw [show q.2 - b.2 = 0 by omega]
      omega
  · have hab := lv_sq b c e
    have o := on_lv h hab
    have t : T3 b c q = 0 := On_T h
    have k1 := id_x (c.1 - b.1) (c.2 - b.2) b c q
    have k2 := id_y (c.1 - b.1) (c.2 - b.2) b c q
    rw [t, Int.mul_zero] at k1 k2
    exact ⟨lv (c.1 - b.1) (c.2 - b.2) c - lv (c.1 - b.1) (c.2 - b.2) b, lv (c.1 - b.1) (c.2 - b.2) q - lv (c.1 - b.1) (c.2 - b.2) b, by omega, by omega, by omega, by rw [k1, Int.sub_zero], by rw [k2, Int.add_zero]⟩
theorem on_le (h : On b c q) (h1 : lv u v b ≤ K) (h2 : lv u v c ≤ K) : lv u v q ≤ K := by
  obtain ⟨L, s, hL, h0, hs, e1, e2⟩ := on_lin h
  have e : L * (K - lv u v q) = s * (K - lv u v c) + (L - s) * (K - lv u v b) := by
    simp only [lv]
    grind
  have n1 := Int.mul_nonneg h0 (show 0 ≤ K - lv u v c by omega)
  have n2 := Int.mul_nonneg (show 0 ≤ L - s by omega) (show 0 ≤ K - lv u v b by omega)
  have := nn_of hL (z := K - lv u v q) (by omega)
  omega
theorem on_ge (h : On b c q) (h1 : K ≤ lv u v b) (h2 : K ≤ lv u v c) : K ≤ lv u v q := by
  have := on_le (u := -u) (v := -v) (K := -K) h (by rw [lv_neg]; omega) (by rw [lv_neg]; omega)
  rw [lv_neg] at this
  omega
theorem id_top (u v : Int) (z m c p : Pt) : T3 z m c * (lv u v m - lv u v p) = T3 m c p * (lv u v m - lv u v z) + T3 z m p * (lv u v m - lv u v c) := by
  obtain ⟨z1, z2⟩ := z
  obtain ⟨m1, m2⟩ := m
  obtain ⟨c1, c2⟩ := c
  obtain ⟨p1, p2⟩ := p
  simp only [T3, tw, lv]
  grind
/-- what isn't outside is on an edge, or left of three edges at least -/
theorem wI_nn (he : edL W) (h : 0 ≤ wI W 1 x y) : (∃ k, k < W.length ∧ On (pt W k) (pt W (nxt W.length k)) (x, y)) ∨ (3 ≤ W.length ∧ ∀ k, k < W.length → 0 < T3 (pt W k) (pt W (nxt W.length k)) (x, y)) := by
  by_cases c : ∃ k, k < W.length ∧ On (pt W k) (pt W (nxt W.length k)) (x, y)
  · exact Or.inl c
  · right
    have e := sd_wI he x y
    have h3 : 3 ≤ W.length := by
      refine Classical.byContradiction fun w => ?_
      by_cases z : W.length = 0
      · rw [if_pos z] at e
        omega
      · rw [if_neg z] at e
        have e2 : sdI W x y = -1 := by
          unfold sdI
          exact (cif_f fun q => c q).trans (if_pos (Or.inl (by omega)))
        omega
    refine ⟨h3, (wI_cv he h3).mp ?_⟩
    have b := wI_1 W 1 x y
    refine b.mp ?_
    refine Classical.byContradiction fun w => ?_
    have z : wI W 1 x y = 0 := by omega
    unfold wI at z
    rw [if_neg (fun ⟨k, hk, o⟩ => c ⟨k, hk, eOn_1.mp o⟩)] at z
    split at z <;> omega
theorem in_le (he : edL W) (h : 0 ≤ wI W 1 x y) (hk : ∀ k, k < W.length → lv u v (pt W k) ≤ K) : lv u v (x, y) ≤ K := by
  rcases wI_nn he h with ⟨k, h1, o⟩ | ⟨h3, hp⟩
  · exact on_le o (hk k h1) (hk _ (nxt_lt h1))
  · obtain ⟨i, hi, mi⟩ := top_ex u v (pt W) (show 0 < W.length by omega)
    have hpv : prv W.length i < W.length := prv_lt hi
    have en := nxt_prv hi
    have t1 := ed_turn he h3 hpv
    rw [en] at t1
    have p1 := hp _ hpv
    rw [en] at p1
    have e := id_top u v (pt W (prv W.length i)) (pt W i) (pt W (nxt W.length i)) (x, y)
    have n1 := Int.mul_nonneg (Int.le_of_lt (hp i hi)) (show 0 ≤ lv u v (pt W i) - lv u v (pt W (prv W.length i)) by have := mi _ hpv; omega)
    have n2 := Int.mul_nonneg (Int.le_of_lt p1) (show 0 ≤ lv u v (pt W i) - lv u v (pt W (nxt W.length i)) by have := mi _ (nxt_lt hi); omega)
    have := nn_of t1 (z := lv u v (pt W i) - lv u v (x, y)) (by omega)
    have := hk i hi
    omega
theorem in_ge (he : edL W) (h : 0 ≤ wI W 1 x y) (hk : ∀ k, k < W.length → K ≤ lv u v (pt W k)) : K ≤ lv u v (x, y) := by
  have := in_le (u := -u) (v := -v) (K := -K) he h (fun k h1 => by have := hk k h1; rw [lv_neg]; omega)
  rw [lv_neg] at this
  omega
theorem id_cs (u v : Int) (a a' b b' : Pt) : T3 b b' a' * lv u v a - T3 b b' a * lv u v a' = T3 a a' b * lv u v b' - T3 a a' b' * lv u v b ∧ T3 b b' a' - T3 b b' a = T3 a a' b - T3 a a' b' := by
  obtain ⟨a1, a2⟩ := a
  obtain ⟨c1, c2⟩ := a'
  obtain ⟨b1, b2⟩ := b
  obtain ⟨d1, d2⟩ := b'
  simp only [T3, tw, lv]
  constructor <;> grind
theorem wsum {s t la lb K : Int} (hs : 0 ≤ s) (ht : 0 ≤ t) (h1 : K ≤ la) (h2 : K ≤ lb) : (s + t) * K ≤ s * la + t * lb := by
  have := Int.mul_le_mul_of_nonneg_left h1 hs
  have := Int.mul_le_mul_of_nonneg_left h2 ht
  rw [Int.add_mul]
  omega
theorem wsum2 {s t la lb K : Int} (hs : 0 ≤ s) (ht : 0 ≤ t) (h1 : la ≤ K) (h2 : lb ≤ K) : s * la + t * lb ≤ (s + t) * K := by
  have := Int.mul_le_mul_of_nonneg_left h1 hs
  have := Int.mul_le_mul_of_nonneg_left h2 ht
  rw [Int.add_mul]
  omega
theorem cross_sep {a' b' : Pt} (h1 : K + 1 ≤ lv u v a) (h2 : K + 1 ≤ lv u v a') (h3 : lv u v b ≤ K) (h4 : lv u v b' ≤ K) : ¬ Mt a a' b b' := by
  rintro (⟨p1, p2⟩ | o | o | o | o)
  · obtain ⟨e1, e2⟩ := id_cs u v a a' b b'
    rw [sg_mul] at p1 p2
    rcases p2 with ⟨s1, s2⟩ | ⟨s1, s2⟩
    · have w1 := wsum (s := T3 b b' a') (t := - T3 b b' a) (by omega) (by omega) h1 h2
      rw [Int.neg_mul] at w1
      rcases p1 with ⟨q1, q2⟩ | ⟨q1, q2⟩
      · omega
      · have w2 := wsum2 (s := T3 a a' b) (t := - T3 a a' b') (by omega) (by omega) h4 h3
        rw [Int.neg_mul] at w2
        have e3 : (T3 b b' a' + -T3 b b' a) * (K + 1) = (T3 a a' b + -T3 a a' b') * K + (T3 a a' b + -T3 a a' b') := by
          rw [show T3 b b' a' + -T3 b b' a = T3 a a' b + -T3 a a' b' by omega, Int.mul_add, Int.mul_one]
        omega
    · have w1 := wsum (s := - T3 b b' a') (t := T3 b b' a) (by omega) (by omega) h1 h2
      rw [Int.neg_mul] at w1
      rcases p1 with ⟨q1, q2⟩ | ⟨q1, q2⟩
      · have w2 := wsum2 (s := - T3 a a' b) (t := T3 a a' b') (by omega) (by omega) h4 h3
        rw [Int.neg_mul] at w2
        have e3 : (-T3 b b' a' + T3 b b' a) * (K + 1) = (-T3 a a' b + T3 a a' b') * K + (-T3 a a' b + T3 a a' b') := by
          rw [show -T3 b b' a' + T3 b b' a = -T3 a a' b + T3 a a' b' by omega, Int.mul_add, Int.mul_one]
        omega
      · omega
  · have := on_ge o h1 h2
    omega
  · have := on_ge o h1 h2
    omega
  · have := on_le o h3 h4
    omega
  · have := on_le o h3 h4
    omega
/-- what is outside is parted by a line -/
theorem sep0 (h : hul D W) (he : edL W) (hw : wI W 1 0 0 < 0) : ∃ u v : Int, ∀ q, D q → 0 < lv u v q := by
  have cl : ∀ d q : Pt, cr d q = lv (-d.2) d.1 q := fun d q => by
    simp only [cr, lv]
    grind
  have cl0 : ∀ u v : Int, lv u v (0, 0) = 0 := fun u v => by
    show u * 0 + v * 0 = 0
    omega
  by_cases h3 : W.length < 3
  · have on0 : ¬ On (pt W 0) (pt W (nxt W.length 0)) (0, 0) := fun o => by
      have := wI_on h.1 o
      omega
    have all : ∀ q, D q → On (pt W 0) (pt W (nxt W.length 0)) q := fun q hq => hul_small h h3 hq
    generalize pt W 0 = a at on0 all
    generalize pt W (nxt W.length 0) = c at on0 all
    have eT : ∀ q, T3 a c q = cr (sb c a) q - cr (sb c a) a := fun q => by
      rw [T3_G1]
      show _ - 1 * _ = _
      omega
    have e0 : cr (sb c a) (0, 0) = 0 := by rw [cl, cl0]
    by_cases g : cr (sb c a) a = 0
    · by_cases e : a = c
      · subst e
        have na : ¬ (a.1 = 0 ∧ a.2 = 0) := fun w => on0 ⟨by show min a.1 a.1 ≤ 0; omega, by show 0 ≤ max a.1 a.1; omega, by show min a.2 a.2 ≤ 0; omega, by show 0 ≤ max a.2 a.2; omega, T3_aa a (0, 0)⟩
        refine ⟨a.1, a.2, fun q hq => ?_⟩
        obtain ⟨x1, x2, y1, y2, -⟩ := all q hq
        have : q = a := pt_eq (by omega) (by omega)
        rw [this]
        exact sq_pos na
      · have hab := lv_sq a c e
        have t0 : T3 a c (0, 0) = 0 := by rw [eT, e0, g]; rfl
        by_cases c1 : 0 < lv (c.1 - a.1) (c.2 - a.2) a
        · refine ⟨c.1 - a.1, c.2 - a.2, fun q hq => ?_⟩
          have := on_lv (all q hq) hab
          omega
        · refine ⟨-(c.1 - a.1), -(c.2 - a.2), fun q hq => ?_⟩
          have := on_lv (all q hq) hab
          rw [lv_neg]
          refine Classical.byContradiction fun w => on0 (on_of hab ?_ ?_ t0)
          · rw [cl0]; omega
          · rw [cl0]; omega
    · have eq : ∀ q, D q → cr (sb c a) q = cr (sb c a) a := fun q hq => by
        have t := On_T (all q hq)
        have := eT q
        omega
      by_cases c1 : 0 < cr (sb c a) a
      · refine ⟨-(sb c a).2, (sb c a).1, fun q hq => ?_⟩
        rw [← cl, eq q hq]
        exact c1
      · refine ⟨- -(sb c a).2, -(sb c a).1, fun q hq => ?_⟩
        rw [lv_neg, ← cl, eq q hq]
        omega
  · obtain ⟨k, hk, g⟩ := In_out (b := (0, 0)) he (by omega) hw
    refine ⟨-(sb (pt W (nxt W.length k)) (pt W k)).2, (sb (pt W (nxt W.length k)) (pt W k)).1, fun q hq => ?_⟩
    rw [← cl]
    have g1 := (In_D h hq).1 k hk
    have e1 : cr (sb (pt W (nxt W.length k)) (pt W k)) (0, 0) = 0 := by rw [cl, cl0]
    have g2 : cr (sb (pt W (nxt W.length k)) (pt W k)) (0, 0) - 1 * cr (sb (pt W (nxt W.length k)) (pt W k)) (pt W k) < 0 := g
    have g3 : 0 ≤ cr (sb (pt W (nxt W.length k)) (pt W k)) q - 1 * cr (sb (pt W (nxt W.length k)) (pt W k)) (pt W k) := g1
    omega
theorem tch_sum (hA : hul HA A) (cA : cvx A) (hB : hul HB B) (cB : cvx B) (hM : hul (fun q => ∃ p r, HA p ∧ HB r ∧ q = sb p r) M) (cM : cvx M) (h : tch A B) : 0 ≤ wI M 1 0 0 := by
  refine Classical.byContradiction fun w => ?_
  obtain ⟨u, v, hs⟩ := sep0 hM cM.2.2.1 (by omega)
  have sp : ∀ p r, HA p → HB r → lv u v r + 1 ≤ lv u v p := fun p r hp hr => by
    have := hs _ ⟨p, r, hp, hr, rfl⟩
    rw [lv_sb] at this
    omega
  rcases h with ⟨i, hi, g⟩ | ⟨i, hi, g⟩ | ⟨i, hi, j, hj, g⟩
  · have := in_le (u := u) (v := v) (K := lv u v (pt A i) - 1) cB.2.2.1 g (fun k hk => by
      have := sp _ _ (hA.2.1 i hi) (hB.2.1 k hk)
      omega)
    have e : lv u v (pX A i, pY A i) = lv u v (pt A i) := rfl
    omega
  · have := in_ge (u := u) (v := v) (K := lv u v (pt B i) + 1) cA.2.2.1 g (fun k hk => sp _ _ (hA.2.1 k hk) (hB.2.1 i hi))
    have e : lv u v (pX B i, pY B i) = lv u v (pt B i) := rfl
    omega
  · have m := meet_M.mp g
    have n := nxt_lt hi
    have n2 := nxt_lt hj
    refine cross_sep (u := u) (v := v) (K := max (lv u v (pt B j)) (lv u v (pt B (nxt B.length j)))) ?_ ?_ (by omega) (by omega) m
    · have := sp _ _ (hA.2.1 i hi) (hB.2.1 j hj)
      have := sp _ _ (hA.2.1 i hi) (hB.2.1 _ n2)
      omega
    · have := sp _ _ (hA.2.1 _ n) (hB.2.1 j hj)
      have := sp _ _ (hA.2.1 _ n) (hB.2.1 _ n2)
      omega
end MAPB
