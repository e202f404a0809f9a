/-! A figure's inside by crossings and by sides -/
section CONV2
variable {W : PL} {p a b : Pt} {i j u v : Nat}
theorem On_sym (h : On a b p) : On b a p := by
  obtain ⟨h1, h2, h3, h4, h5⟩ := h
  have h5 : T3 a b p = 0 := h5
  refine ⟨by omega, by omega, by omega, by omega, ?_⟩
  show T3 b a p = 0
  have e : T3 b a p = - T3 a b p := by
    rw [T3_rot, T3_swap]
  omega
theorem up_on {y : Int} {x : Int} (u : upE W y i) (t : T3 (pt W i) (pt W (nxt W.length i)) (x, y) = 0) : On (pt W i) (pt W (nxt W.length i)) (x, y) := by
  obtain ⟨u1, u2⟩ := u
  refine on_of (A := 0) (B := 1) ?_ ?_ ?_ t
  · show 0 * _ + 1 * pY W i < 0 * _ + 1 * pY W (nxt W.length i)
    omega
  · show 0 * _ + 1 * pY W i ≤ 0 * _ + 1 * y
    omega
  · show 0 * _ + 1 * y ≤ 0 * _ + 1 * pY W (nxt W.length i)
    omega
theorem T3_ba' (a b p : Pt) : T3 b a p = - T3 a b p := by
  rw [T3_rot, T3_swap]
theorem dn_on {y : Int} {x : Int} (u : dnE W y i) (t : T3 (pt W i) (pt W (nxt W.length i)) (x, y) = 0) : On (pt W i) (pt W (nxt W.length i)) (x, y) := by
  obtain ⟨u1, u2⟩ := u
  refine On_sym (on_of (A := 0) (B := 1) ?_ ?_ ?_ ?_)
  · show 0 * _ + 1 * pY W (nxt W.length i) < 0 * _ + 1 * pY W i
    omega
  · show 0 * _ + 1 * pY W (nxt W.length i) ≤ 0 * _ + 1 * y
    omega
  · show 0 * _ + 1 * y ≤ 0 * _ + 1 * pY W i
    omega
  · rw [T3_ba', t]
    rfl
theorem cv_both (h : edL W) (hu : u < W.length) (hv : v < W.length) (uu : upE W p.2 u) (dv : dnE W p.2 v) (t1 : 0 < T3 (pt W u) (pt W (nxt W.length u)) p) (t2 : 0 < T3 (pt W v) (pt W (nxt W.length v)) p) : ∀ k, k < W.length → 0 ≤ T3 (pt W k) (pt W (nxt W.length k)) p := fun k hk => by
  obtain ⟨u1, u2⟩ := uu
  obtain ⟨d1, d2⟩ := dv
  have e := id_2 (pt W u) (pt W (nxt W.length u)) (pt W v) (pt W (nxt W.length v)) (pt W k) (pt W (nxt W.length k)) p
  have pa : 0 < T3 (pt W u) (pt W (nxt W.length u)) p * ((pt W v).2 - (pt W (nxt W.length v)).2) := Int.mul_pos t1 (show 0 < pY W v - pY W (nxt W.length v) by omega)
  have pb : 0 < T3 (pt W v) (pt W (nxt W.length v)) p * ((pt W (nxt W.length u)).2 - (pt W u).2) := Int.mul_pos t2 (show 0 < pY W (nxt W.length u) - pY W u by omega)
  refine nn_of (Int.add_pos pa pb) ?_
  rw [e]
  have w1 := Int.mul_nonneg (show 0 ≤ (pt W (nxt W.length u)).2 - p.2 from Int.le_of_lt (Int.sub_pos_of_lt u2)) (ed_nn h hk hu)
  have w2 := Int.mul_nonneg (show 0 ≤ p.2 - (pt W u).2 from Int.sub_nonneg_of_le u1) (ed_nn h hk (nxt_lt hu))
  have w3 := Int.mul_nonneg (show 0 ≤ (pt W v).2 - p.2 from Int.le_of_lt (Int.sub_pos_of_lt d1)) (ed_nn h hk (nxt_lt hv))
  have w4 := Int.mul_nonneg (show 0 ≤ p.2 - (pt W (nxt W.length v)).2 from Int.sub_nonneg_of_le d2) (ed_nn h hk hv)
  exact Int.add_nonneg (Int.mul_nonneg (Int.le_of_lt t2) (Int.add_nonneg w1 w2)) (Int.mul_nonneg (Int.le_of_lt t1) (Int.add_nonneg w3 w4))
theorem cv_neg (h : edL W) (hu : u < W.length) (hv : v < W.length) (uu : upE W p.2 u) (dv : dnE W p.2 v) (t1 : T3 (pt W u) (pt W (nxt W.length u)) p < 0) (t2 : T3 (pt W v) (pt W (nxt W.length v)) p < 0) : False := by
  obtain ⟨u1, u2⟩ := uu
  obtain ⟨d1, d2⟩ := dv
  have e := id_1 (pt W u) (pt W (nxt W.length u)) (pt W v) (pt W (nxt W.length v)) p
  have pa : T3 (pt W u) (pt W (nxt W.length u)) p * ((pt W v).2 - (pt W (nxt W.length v)).2) < 0 := Int.mul_neg_of_neg_of_pos t1 (show 0 < pY W v - pY W (nxt W.length v) by omega)
  have pb : T3 (pt W v) (pt W (nxt W.length v)) p * ((pt W (nxt W.length u)).2 - (pt W u).2) < 0 := Int.mul_neg_of_neg_of_pos t2 (show 0 < pY W (nxt W.length u) - pY W u by omega)
  have w3 := Int.mul_nonneg (show 0 ≤ (pt W v).2 - p.2 from Int.le_of_lt (Int.sub_pos_of_lt d1)) (ed_nn h hu (nxt_lt hv))
  have w4 := Int.mul_nonneg (show 0 ≤ p.2 - (pt W (nxt W.length v)).2 from Int.sub_nonneg_of_le d2) (ed_nn h hu hv)
  omega
theorem eTog_1 {x y : Int} : eTog W 1 x y i ↔ (upE W y i ∧ 0 < T3 (pt W i) (pt W (nxt W.length i)) (x, y)) ∨ (dnE W y i ∧ ¬ 0 < T3 (pt W i) (pt W (nxt W.length i)) (x, y)) := by
  unfold eTog upE dnE
  simp only [Int.one_mul]
  show ¬ (y < pY W i ↔ y < pY W (nxt W.length i)) ∧ (0 < T3 (pt W i) (pt W (nxt W.length i)) (x, y) ↔ pY W i < pY W (nxt W.length i)) ↔ _
  generalize T3 (pt W i) (pt W (nxt W.length i)) (x, y) = t
  omega
theorem eOn_1 {x y : Int} : eOn W 1 x y i ↔ On (pt W i) (pt W (nxt W.length i)) (x, y) := by
  unfold eOn
  simp only [Int.one_mul]
  exact Iff.rfl
theorem cv_in (h : edL W) (hn : 3 ≤ W.length) {x y : Int} (he : ∀ i, i < W.length → ¬ On (pt W i) (pt W (nxt W.length i)) (x, y)) : oddN (eTog W 1 x y) W.length ↔ ∀ k, k < W.length → 0 < T3 (pt W k) (pt W (nxt W.length k)) (x, y) := by
  by_cases hc : ∃ u, u < W.length ∧ upE W y u
  · obtain ⟨u, hu, uu⟩ := hc
    obtain ⟨v, hv, dv⟩ := up_dn hu uu
    have huv : u ≠ v := fun e => by
      have w1 := uu.1
      have w2 := dv.1
      rw [e] at w1
      omega
    have oth : ∀ i, i < W.length → i ≠ u → i ≠ v → ¬ eTog W 1 x y i := fun i hi h1 h2 w => by
      rcases eTog_1.mp w with ⟨w, _⟩ | ⟨w, _⟩
      · exact h1 (up_one h hi hu w uu)
      · exact h2 (dn_one h hi hv w dv)
    have fu : eTog W 1 x y u ↔ 0 < T3 (pt W u) (pt W (nxt W.length u)) (x, y) := by
      rw [eTog_1]
      constructor
      · rintro (⟨_, w⟩ | ⟨w, _⟩)
        · exact w
        · exact absurd w.1 (Int.not_lt.mpr uu.1)
      · exact fun w => Or.inl ⟨uu, w⟩
    have fv : eTog W 1 x y v ↔ ¬ 0 < T3 (pt W v) (pt W (nxt W.length v)) (x, y) := by
      rw [eTog_1]
      constructor
      · rintro (⟨w, _⟩ | ⟨_, w⟩)
        · exact absurd dv.1 (Int.not_lt.mpr w.1)
        · exact w
      · exact fun w => Or.inr ⟨dv, w⟩
    rw [odd_two' huv hu hv oth, fu, fv]
    constructor
    · intro w
      by_cases c1 : 0 < T3 (pt W u) (pt W (nxt W.length u)) (x, y)
      · have c2 : 0 < T3 (pt W v) (pt W (nxt W.length v)) (x, y) := Classical.byContradiction fun c2 => w ⟨fun _ => c2, fun _ => c1⟩
        have nn := cv_both h hu hv uu dv c1 c2
        exact fun k hk => (cv_on h hn nn hk).elim id (fun g => absurd g (he k hk))
      · exfalso
        have c2 : ¬ 0 < T3 (pt W v) (pt W (nxt W.length v)) (x, y) := fun c2 => w ⟨fun g => absurd g c1, fun g => absurd c2 g⟩
        have z1 : T3 (pt W u) (pt W (nxt W.length u)) (x, y) ≠ 0 := fun z => he u hu (up_on uu z)
        have z2 : T3 (pt W v) (pt W (nxt W.length v)) (x, y) ≠ 0 := fun z => he v hv (dn_on dv z)
        exact cv_neg (p := (x, y)) h hu hv uu dv (by omega) (by omega)
    · exact fun w g => g.mp (w u hu) (w v hv)
  · have nd : ∀ i, i < W.length → ¬ dnE W y i := fun i hi w => hc (dn_up hi w)
    have z : ¬ oddN (eTog W 1 x y) W.length := odd_none _ fun i hi w => by
      rcases eTog_1.mp w with ⟨w, _⟩ | ⟨w, _⟩
      · exact hc ⟨i, hi, w⟩
      · exact nd i hi w
    exact ⟨fun w => absurd w z, fun w => absurd (cv_cross h hn w) hc⟩
theorem ls_pos {x y : Int} : ∀ n, ¬ lsN W x y n < 1 ↔ ∀ i, i < n → 0 < T3 (pt W i) (pt W (nxt W.length i)) (x, y)
  | 0 => ⟨fun _ i hi => absurd hi (Nat.not_lt_zero _), fun _ => by show ¬ (1 : Int) < 1; decide⟩
  | n + 1 => by
    have ih := ls_pos (x := x) (y := y) n
    have e : hSg W x y n = sg (T3 (pt W n) (pt W (nxt W.length n)) (x, y)) := rfl
    have hb := (lsN_bd W x y n).2
    unfold lsN
    rw [e]
    constructor
    · intro w i hi
      by_cases c : 0 < T3 (pt W n) (pt W (nxt W.length n)) (x, y)
      · rw [sg_pos c, if_neg (by omega)] at w
        by_cases ei : i = n
        · rw [ei]
          exact c
        · exact ih.mp w i (by omega)
      · exfalso
        have s0 : sg (T3 (pt W n) (pt W (nxt W.length n)) (x, y)) ≤ 0 := by
          unfold sg
          rw [if_neg c]
          split <;> omega
        split at w <;> omega
    · intro w
      rw [sg_pos (w n (by omega)), if_neg (by omega)]
      exact ih.mpr fun i hi => w i (by omega)
/-- sides and crossings tell the same -/
theorem sd_wI (h : edL W) (x y : Int) : (if W.length = 0 then (-1 : Int) else sdI W x y) = wI W 1 x y := by
  by_cases c0 : W.length = 0
  · rw [if_pos c0]
    have := (wI_e (L := W) (s := 1) (x := x) (y := y) (fun i hi => absurd hi (by omega))).2
    rw [c0] at this
    exact (this (fun w => w)).symm
  rw [if_neg c0]
  by_cases c1 : ∃ i, i < W.length ∧ On (pt W i) (pt W (nxt W.length i)) (x, y)
  · obtain ⟨i, hi, w⟩ := c1
    rw [wI_0 hi (eOn_1.mpr w)]
    unfold sdI
    exact cif_t ⟨i, hi, w⟩
  · have he : ∀ i, i < W.length → ¬ On (pt W i) (pt W (nxt W.length i)) (x, y) := fun i hi w => c1 ⟨i, hi, w⟩
    have k := wI_e (L := W) (s := 1) (x := x) (y := y) (fun i hi w => he i hi (eOn_1.mp w))
    have es : sdI W x y = if W.length < 3 ∨ lsN W x y W.length < 1 then -1 else 1 := by
      unfold sdI
      exact cif_f c1
    rw [es]
    by_cases c2 : W.length < 3
    · rw [if_pos (Or.inl c2)]
      refine (k.2 fun w => ?_).symm
      by_cases c3 : W.length = 1
      · rw [c3] at w
        have w' : eTog W 1 x y 0 := (odd_one (f := eTog W 1 x y) 1 (by omega) (fun i hi e => absurd hi (by omega))).mp w
        have n0 : nxt W.length 0 = 0 := by
          rw [c3]
          rfl
        rcases eTog_1.mp w' with ⟨⟨g1, g2⟩, _⟩ | ⟨⟨g1, g2⟩, _⟩
        · rw [n0] at g2
          omega
        · rw [n0] at g2
          omega
      · have c4 : W.length = 2 := by omega
        have n0 : nxt W.length 0 = 1 := by
          rw [c4]
          rfl
        have n1 : nxt W.length 1 = 0 := by
          rw [c4]
          rfl
        have w2 := (odd_two' (f := eTog W 1 x y) (u := 0) (v := 1) (n := W.length) (by omega) (by omega) (by omega) (fun i hi e1 e2 => absurd hi (by omega))).mp w
        apply w2
        have t : T3 (pt W 1) (pt W 0) (x, y) = - T3 (pt W 0) (pt W 1) (x, y) := T3_ba' _ _ _
        have u0 : ¬ (upE W y 0 ∧ T3 (pt W 0) (pt W (nxt W.length 0)) (x, y) = 0) := fun g => he 0 (by omega) (up_on (W := W) (x := x) (y := y) (i := 0) g.1 g.2)
        have d0 : ¬ (dnE W y 0 ∧ T3 (pt W 0) (pt W (nxt W.length 0)) (x, y) = 0) := fun g => he 0 (by omega) (dn_on (W := W) (x := x) (y := y) (i := 0) g.1 g.2)
        rw [eTog_1, eTog_1]
        unfold upE dnE at *
        rw [n0] at u0 d0 ⊢
        rw [n1, t]
        generalize T3 (pt W 0) (pt W 1) (x, y) = z at u0 d0 ⊢
        have u0 : ¬ ((pY W 0 ≤ y ∧ y < pY W 1) ∧ z = 0) := fun g => u0 ⟨g.1, g.2⟩
        have d0 : ¬ ((y < pY W 0 ∧ pY W 1 ≤ y) ∧ z = 0) := fun g => d0 ⟨g.1, g.2⟩
        clear t w2 w es k
        omega
    · have hn : 3 ≤ W.length := by omega
      have ki := cv_in h hn he
      by_cases c3 : lsN W x y W.length < 1
      · rw [if_pos (Or.inr c3)]
        exact (k.2 fun w => absurd c3 ((ls_pos _).mpr (ki.mp w))).symm
      · rw [if_neg (fun g => g.elim c2 c3)]
        exact (k.1 (ki.mpr ((ls_pos _).mp c3))).symm
/-- a point of the hull's points is on an edge or inside -/
theorem hul_wI {D : Pt → Prop} (hW : hul D W) (h : edL W) {x y : Int} (hd : D (x, y)) : wI W 1 x y ≤ 0 ↔ ∃ i, i < W.length ∧ On (pt W i) (pt W (nxt W.length i)) (x, y) := by
  constructor
  · intro w
    refine Classical.byContradiction fun c => ?_
    have he : ∀ i, i < W.length → ¬ On (pt W i) (pt W (nxt W.length i)) (x, y) := fun i hi w => c ⟨i, hi, w⟩
    have all : ∀ i, i < W.length → 0 < T3 (pt W i) (pt W (nxt W.length i)) (x, y) := fun i hi => (hW.2.2.2.2 i hi _ hd).elim id (fun g => absurd g (he i hi))
    have h0 := hW.1
    have hn : 3 ≤ W.length := by
      refine Classical.byContradiction fun g => ?_
      by_cases c3 : W.length = 1
      · have := all 0 (by omega)
        rw [show nxt W.length 0 = 0 by rw [c3]; rfl, T3_aa] at this
        omega
      · have c4 : W.length = 2 := by omega
        have a0 := all 0 (by omega)
        have a1 := all 1 (by omega)
        rw [show nxt W.length 0 = 1 by rw [c4]; rfl] at a0
        rw [show nxt W.length 1 = 0 by rw [c4]; rfl, T3_ba'] at a1
        omega
    have k := (wI_e (L := W) (s := 1) (x := x) (y := y) (fun i hi w => he i hi (eOn_1.mp w))).1 ((cv_in h hn he).mpr all)
    omega
  · rintro ⟨i, hi, w⟩
    rw [wI_0 hi (eOn_1.mpr w)]
    exact Int.le_refl _
end CONV2

