/-! The mathematics of the law's checks: where the difference holds the origin the figures touch -/
section MAPC
variable {D HA HB : Pt → Prop} {W V A B M : PL} {a c b p q r z m Z X Y : Pt} {K u v x y : Int} {i j k n : Nat}
theorem W_ne (h : hul D W) (h2 : 2 ≤ W.length) (hk : k < W.length) : pt W k ≠ pt W (nxt W.length k) := by
  by_cases c : k + 1 < W.length
  · rw [nxt_e c]
    exact h.2.2.2.1 k (k + 1) (by omega) c
  · rw [nxt_l (by omega)]
    exact fun e => h.2.2.2.1 0 k (by omega) hk e.symm
/-- what isn't outside is in -/
theorem on_nn (h : On b c q) (h1 : 0 ≤ T3 a p b) (h2 : 0 ≤ T3 a p c) : 0 ≤ T3 a p q := by
  obtain ⟨L, s, hL, h0, hs, e1, e2⟩ := on_lin h
  have e : L * T3 a p q = s * T3 a p c + (L - s) * T3 a p b := by
    simp only [T3, tw]
    grind
  refine nn_of hL ?_
  rw [e]
  exact Int.add_nonneg (Int.mul_nonneg h0 h2) (Int.mul_nonneg (by omega) h1)
theorem wI_In (he : edL W) (h0 : 0 < W.length) (h : 0 ≤ wI W 1 x y) : InK W 1 (x, y) := by
  rcases wI_nn he h with ⟨k, h1, o⟩ | ⟨h3, hp⟩
  · refine ⟨fun j hj => ?_, fun hl => ?_⟩
    · rw [← T3_G1]
      exact on_nn o (ed_nn he hj h1) (ed_nn he hj (nxt_lt h1))
    · have o' : On (pt W 0) (pt W (nxt W.length 0)) (x, y) := by
        by_cases e : k = 0
        · subst e
          exact o
        · have e1 : k = 1 := by omega
          have e2 : W.length = 2 := by omega
          subst e1
          rw [e2] at o ⊢
          exact On_sym o
      rw [← sc_1 (pt W 0), ← sc_1 (pt W (nxt W.length 0))] at o'
      exact (On_Bx.mp o').1
  · refine ⟨fun j hj => ?_, fun hl => by omega⟩
    rw [← T3_G1]
    exact Int.le_of_lt (hp j hj)
theorem mm_un {A C z : Int} (h1 : 0 < K) (e1 : min (K * A) (K * C) ≤ K * z ∧ K * z ≤ max (K * A) (K * C)) : min (1 * A) (1 * C) ≤ z ∧ z ≤ max (1 * A) (1 * C) := by
  rw [Int.one_mul, Int.one_mul]
  rcases Int.le_total A C with g | g
  · have g1 := Int.mul_le_mul_of_nonneg_left g (Int.le_of_lt h1)
    have g2 := (kle h1).mp (show K * A ≤ K * z by omega)
    have g3 := (kle h1).mp (show K * z ≤ K * C by omega)
    omega
  · have g1 := Int.mul_le_mul_of_nonneg_left g (Int.le_of_lt h1)
    have g2 := (kle h1).mp (show K * C ≤ K * z by omega)
    have g3 := (kle h1).mp (show K * z ≤ K * A by omega)
    omega
theorem In_un (h1 : 0 < K) (h : InK W K (sc K p)) : InK W 1 p := by
  refine ⟨fun k hk => ?_, fun hl => ?_⟩
  · have g := h.1 k hk
    have e := Gk_sc (pt W k) (pt W (nxt W.length k)) K 1 p
    rw [Int.mul_one] at e
    rw [e] at g
    exact nn_of h1 g
  · have g := h.2 hl
    exact ⟨mm_un h1 g.1, mm_un h1 g.2⟩
theorem one_in (hl : W.length = 1) (h : InK W K X) : X = sc K (pt W 0) := by
  have g := h.2 (by omega)
  rw [hl] at g
  obtain ⟨⟨g1, g2⟩, g3, g4⟩ := g
  have g1' : min (K * (pt W 0).1) (K * (pt W 0).1) ≤ X.1 := g1
  have g2' : X.1 ≤ max (K * (pt W 0).1) (K * (pt W 0).1) := g2
  have g3' : min (K * (pt W 0).2) (K * (pt W 0).2) ≤ X.2 := g3
  have g4' : X.2 ≤ max (K * (pt W 0).2) (K * (pt W 0).2) := g4
  refine pt_eq ?_ ?_
  · show X.1 = K * (pt W 0).1
    omega
  · show X.2 = K * (pt W 0).2
    omega
theorem id_qq (L K s u : Int) (Z q b c : Int) (e : L * (Z - K * b) = s * (K * c - K * b)) : L * Z = (L - s) * K * b + s * K * c := by grind
/-- a place on a stretch, by weights -/
theorem On_w (hK : 0 < K) (h : On (sc K b) (sc K c) Z) : ∃ L u v : Int, 0 < L ∧ 0 ≤ u ∧ 0 ≤ v ∧ u + v = L * K ∧ sc L Z = ad (sc u b) (sc v c) := by
  obtain ⟨L, s, hL, h0, hs, e1, e2⟩ := on_lin h
  refine ⟨L, (L - s) * K, s * K, hL, Int.mul_nonneg (by omega) (Int.le_of_lt hK), Int.mul_nonneg h0 (Int.le_of_lt hK), ?_, pt_eq ?_ ?_⟩
  · rw [← Int.add_mul]
    exact congrArg (· * K) (by omega)
  · exact id_qq L K s 0 Z.1 0 b.1 c.1 e1
  · exact id_qq L K s 0 Z.2 0 b.2 c.2 e2
theorem com_pt (hA : hul HA A) (cA : cvx A) (hB : hul HB B) (cB : cvx B) (hM : hul (fun q => ∃ p r, HA p ∧ HB r ∧ q = sb p r) M) (cM : cvx M) (h : 0 ≤ wI M 1 0 0) : ∃ K X, 0 < K ∧ InK A K X ∧ InK B K X := by
  have hm := hM.2.1
  obtain ⟨p0, r0, hp0, hr0, e0⟩ := hm 0 hM.1
  by_cases z : (pt M 0).1 = 0 ∧ (pt M 0).2 = 0
  · have e1 : (pt M 0).1 = p0.1 - r0.1 := by rw [e0]; rfl
    have e2 : (pt M 0).2 = p0.2 - r0.2 := by rw [e0]; rfl
    have : p0 = r0 := pt_eq (by omega) (by omega)
    subst this
    exact ⟨1, p0, by decide, In_D hA hp0, In_D hB hr0⟩
  · have I0 := wI_In cM.2.2.1 hM.1 h
    have hb : wI M 1 (-(401 * (pt M 0).1), -(401 * (pt M 0).2)).1 (-(401 * (pt M 0).1), -(401 * (pt M 0).2)).2 < 0 := by
      have := far_lies (L := M) (c := 400) (fun i hi => cM.2.1 i hi) (x := -(401 * (pt M 0).1)) (y := -(401 * (pt M 0).2)) (by omega)
      show wI M 1 (-(401 * (pt M 0).1)) (-(401 * (pt M 0).2)) < 0
      omega
    obtain ⟨s, t, hs, ht, k, hk, o⟩ := exit hM cM.2.2.1 (K := 1) (by decide) I0 hb
    obtain ⟨L, u, v, hL, hu, hv, e, ez⟩ := On_w (by omega) o
    obtain ⟨p1, r1, hp1, hr1, e1⟩ := hm k hk
    obtain ⟨p2, r2, hp2, hr2, e2⟩ := hm _ (nxt_lt hk)
    rw [e1, e2] at ez
    rw [e0] at ez
    have hw : 0 ≤ 401 * t * L := Int.mul_nonneg (by omega) (Int.le_of_lt hL)
    have hN : 0 < u + v := by
      rw [e]
      exact Int.mul_pos hL (by omega)
    have x1 : 401 * t * L * p0.1 + (u * p1.1 + v * p2.1) = 401 * t * L * r0.1 + (u * r1.1 + v * r2.1) := by
      have t1 := congrArg Prod.fst ez
      have t2 : L * (s * 0 + t * (-(401 * (p0.1 - r0.1)))) = u * (p1.1 - r1.1) + v * (p2.1 - r2.1) := t1
      grind
    have x2 : 401 * t * L * p0.2 + (u * p1.2 + v * p2.2) = 401 * t * L * r0.2 + (u * r1.2 + v * r2.2) := by
      have t1 := congrArg Prod.snd ez
      have t2 : L * (s * 0 + t * (-(401 * (p0.2 - r0.2)))) = u * (p1.2 - r1.2) + v * (p2.2 - r2.2) := t1
      grind
    refine ⟨401 * t * L * 1 + (u * 1 + v * 1), ad (sc (401 * t * L) p0) (ad (sc u p1) (sc v p2)), by omega, In_ad (by omega) (by omega) (In_sc hw (In_D hA hp0)) (In_ad (by omega) (by omega) (In_sc hu (In_D hA hp1)) (In_sc hv (In_D hA hp2))), ?_⟩
    have ex : ad (sc (401 * t * L) p0) (ad (sc u p1) (sc v p2)) = ad (sc (401 * t * L) r0) (ad (sc u r1) (sc v r2)) := pt_eq x1 x2
    rw [ex]
    exact In_ad (by omega) (by omega) (In_sc hw (In_D hB hr0)) (In_ad (by omega) (by omega) (In_sc hu (In_D hB hr1)) (In_sc hv (In_D hB hr2)))
theorem sum_tch (hA : hul HA A) (cA : cvx A) (bA : ∀ q, HA q → bp q) (hB : hul HB B) (cB : cvx B) (bB : ∀ q, HB q → bp q) (hM : hul (fun q => ∃ p r, HA p ∧ HB r ∧ q = sb p r) M) (cM : cvx M) (h : 0 ≤ wI M 1 0 0) : tch A B := by
  obtain ⟨K, X, hK, IA, IB⟩ := com_pt hA cA hB cB hM cM h
  by_cases g1 : hasC A B
  · exact Or.inl g1
  by_cases g2 : hasC B A
  · exact Or.inr (Or.inl g2)
  refine Or.inr (Or.inr ?_)
  have oA : ∀ i, i < A.length → wI B 1 (pt A i).1 (pt A i).2 < 0 := fun i hi => Classical.byContradiction fun w => g1 ⟨i, hi, by
    have w' : ¬ wI B 1 (pX A i) (pY A i) < 0 := w
    omega⟩
  have oB : ∀ i, i < B.length → wI A 1 (pt B i).1 (pt B i).2 < 0 := fun i hi => Classical.byContradiction fun w => g2 ⟨i, hi, by
    have w' : ¬ wI A 1 (pX B i) (pY B i) < 0 := w
    omega⟩
  have lA : 2 ≤ A.length := by
    refine Classical.byContradiction fun w => ?_
    have h0 := hA.1
    have e := one_in (by omega) IA
    rw [e] at IB
    have := In_wI (x := (pt A 0).1) (y := (pt A 0).2) cB.2.2.1 hB.1 (In_un hK IB)
    have := oA 0 h0
    omega
  have lB : 2 ≤ B.length := by
    refine Classical.byContradiction fun w => ?_
    have h0 := hB.1
    have e := one_in (by omega) IB
    rw [e] at IA
    have := In_wI (x := (pt B 0).1) (y := (pt B 0).2) cA.2.2.1 hA.1 (In_un hK IA)
    have := oB 0 h0
    omega
  obtain ⟨s, t, hs, ht, k, hk, o⟩ := exit hB cB.2.2.1 hK IB (oA 0 hA.1)
  have hK1 : 0 < s * K + t := by
    have := Int.mul_pos hs hK
    omega
  have IA1 : InK A (s * K + t) (ad (sc s X) (sc t (pt A 0))) := by
    have q := In_ad (K1 := s * K) (K2 := t * 1) (Int.le_of_lt (Int.mul_pos hs hK)) (by omega) (In_sc (Int.le_of_lt hs) IA) (In_sc ht (In_D hA (hA.2.1 0 hA.1)))
    rw [Int.mul_one] at q
    exact q
  obtain ⟨s', t', hs', ht', l, hl, o'⟩ := exit hA cA.2.2.1 hK1 IA1 (oB k hk)
  generalize ad (sc s X) (sc t (pt A 0)) = Z1 at o IA1 o'
  generalize s * K + t = K1 at hK1 o IA1 o'
  have hK2 : 0 < s' * K1 + t' := by
    have := Int.mul_pos hs' hK1
    omega
  have ob := On_Bx.mp o
  have og : Gk (pt B k) (pt B (nxt B.length k)) K1 Z1 = 0 := by
    rcases Int.mul_eq_zero.mp ob.2 with w | w
    · omega
    · exact w
  have o2 : On (sc (s' * K1 + t') (pt B k)) (sc (s' * K1 + t') (pt B (nxt B.length k))) (ad (sc s' Z1) (sc t' (pt B k))) := by
    have ol : On (sc 1 (pt B k)) (sc 1 (pt B (nxt B.length k))) (pt B k) := by
      rw [sc_1, sc_1]
      exact On_l _ _
    have ol2 := On_Bx.mp ol
    have q := Bx_ad (K1 := s' * K1) (K2 := t' * 1) (Int.le_of_lt (Int.mul_pos hs' hK1)) (by omega) (Bx_sc (Int.le_of_lt hs') ob.1) (Bx_sc ht' ol2.1)
    have q2 := Gk_ad (pt B k) (pt B (nxt B.length k)) (s' * K1) (t' * 1) (sc s' Z1) (sc t' (pt B k))
    rw [Int.mul_one] at q q2
    refine On_Bx.mpr ⟨q, ?_⟩
    have q3 := Gk_sc (pt B k) (pt B (nxt B.length k)) t' 1 (pt B k)
    rw [Int.mul_one] at q3
    have q4 : Gk (pt B k) (pt B (nxt B.length k)) 1 (pt B k) = 0 := by
      rw [← T3_G1]
      exact T3_ba _ _
    rw [q2, Gk_sc, q3, og, q4, Int.mul_zero, Int.mul_zero]
    exact Int.mul_zero _
  refine ⟨l, hl, k, hk, meet_M.mpr (Mt_sc hK2 (com (A := 100000) (B := 1) ?_ ?_ o' o2))⟩
  · rw [lv_sc, lv_sc]
    intro e
    exact W_ne hA lA hl (lv_inj (bA _ (hA.2.1 l hl)) (bA _ (hA.2.1 _ (nxt_lt hl))) (Int.eq_of_mul_eq_mul_left (by omega) e))
  · rw [lv_sc, lv_sc]
    intro e
    exact W_ne hB lB hk (lv_inj (bB _ (hB.2.1 k hk)) (bB _ (hB.2.1 _ (nxt_lt hk))) (Int.eq_of_mul_eq_mul_left (by omega) e))
end MAPC
