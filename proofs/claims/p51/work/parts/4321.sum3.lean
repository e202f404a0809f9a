/-! Two figures round -/
section FIGS
variable {D DA DB : Pt → Prop} {H HA HB : PL} {k kA kB i j : Nat}
theorem gout_lv {u : Pt} (h : -2000 ≤ u.2 ∧ u.2 ≤ 2000) : gout u.1 u.2 ↔ 0 < lv 100000 1 u := by
  unfold lv gout
  omega
theorem fig_two (t : two 100000 1 D H k) : H.length ≠ 2 := fun e => by
  obtain ⟨k0, k1, h1, h2, h3⟩ := t
  rw [e] at h3
  have h3 : pt H 1 = pt H 0 := h3
  by_cases c : k = 2
  · have := h1.2.1 0 (Nat.le_refl _) (by rw [List.length_take]; omega)
    rw [pt_take (by omega), pt_take (by omega)] at this
    have this : lv 100000 1 (pt H 0) < lv 100000 1 (pt H 1) := this
    rw [h3] at this
    exact Int.lt_irrefl _ this
  · have := h2.2.1 0 (by omega) (by omega)
    have this : lv (-100000) (-1) (pt H 0) < lv (-100000) (-1) (pt H 1) := this
    rw [h3] at this
    exact Int.lt_irrefl _ this
theorem fig_egs (t : two 100000 1 D H k) : egs (shut H) = H.length - 1 := by
  have n2 := fig_two t
  have k0 := t.1
  have k1 := t.2.1
  unfold egs
  by_cases c : 1 < H.length
  · rw [sh_len c, if_pos (by omega)]
  · have : shut H = H := by
      unfold shut
      rw [if_neg c]
    rw [this, if_neg c]
    omega
theorem fig_e (t : two 100000 1 D H k) (hi : i + 1 < H.length) : (rnE (shut H) i, rsE (shut H) i) = ve H i := by
  have c : 1 < H.length := by omega
  have e1 := sh_nx c t.2.2.2.2 (j := i) (by omega)
  have e2 := sh_at c (j := i) (by omega)
  rw [← sh_len c] at e1
  unfold ve
  rw [← e1, ← e2]
  rfl
theorem fig_0 (t : two 100000 1 D H k) : pt (shut H) 0 = pt H 0 := by
  by_cases c : 1 < H.length
  · exact sh_at c (by omega)
  · unfold shut
    rw [if_neg c]
theorem fig_g (t : two 100000 1 D H k) (hb : ∀ q, D q → bp q) (hi : i + 1 < H.length) : gout (rnE (shut H) i) (rsE (shut H) i) ↔ i + 1 < k := by
  have e := fig_e t hi
  have e1 : rnE (shut H) i = (ve H i).1 := congrArg Prod.fst e
  have e2 : rsE (shut H) i = (ve H i).2 := congrArg Prod.snd e
  have b1 := hb _ (two_D t (j := i) (by omega))
  have b2 := hb _ (two_D t hi)
  rw [e1, e2, gout_lv (by
    have x1 := b1.2
    have x2 := b2.2
    show -2000 ≤ (pt H (i + 1)).2 - (pt H i).2 ∧ (pt H (i + 1)).2 - (pt H i).2 ≤ 2000
    omega)]
  unfold ve
  rw [lv_sb]
  obtain ⟨k0, k1, h1, h2, h3⟩ := t
  by_cases c : i + 1 < k
  · have := h1.2.1 i (Nat.zero_le _) (by rw [List.length_take]; omega)
    rw [pt_take c, pt_take (by omega)] at this
    omega
  · have := h2.2.1 i (by omega) hi
    rw [lv_neg, lv_neg] at this
    omega
theorem cmp_cr {u v : Pt} (e1 : (rnE HA i, rsE HA i) = u) (e2 : (rnE HB j, rsE HB j) = v) : rnE HA i * rsE HB j - rsE HA i * rnE HB j = cr u v := by
  subst e1 e2
  rfl
theorem ph_1 (tA : two 100000 1 DA HA kA) (tB : two 100000 1 DB HB kB) (bA : ∀ q, DA q → bp q) (bB : ∀ q, DB q → bp q) (hi : i < kA) (hj : j < kB) (h : i + 1 < kA ∨ j + 1 < kB) : (i < egs (shut HA) ∨ j < egs (shut HB)) ∧ addC (shut HA) (shut HB) i j = (if kA ≤ i + 1 then 1 else if kB ≤ j + 1 then -1 else - sg (cr (ve HA i) (ve HB j))) := by
  have a1 := tA.2.1
  have b1 := tB.2.1
  have a2 := fig_egs tA
  have b2 := fig_egs tB
  refine ⟨by omega, ?_⟩
  unfold addC
  rw [a2, b2]
  by_cases c1 : kA ≤ i + 1
  · rw [if_pos c1]
    have gB := (fig_g tB bB (i := j) (by omega)).mpr (by omega)
    by_cases c2 : HA.length - 1 ≤ i
    · rw [if_pos c2]
    · rw [if_neg c2, if_neg (by omega)]
      have gA : ¬ gout (rnE (shut HA) i) (rsE (shut HA) i) := fun w => absurd ((fig_g tA bA (i := i) (by omega)).mp w) (by omega)
      unfold cmpE
      rw [bP_t (show ¬ gout (rnE (shut HA) i) (rsE (shut HA) i) from gA), bP_f (show ¬ ¬ gout (rnE (shut HB) j) (rsE (shut HB) j) from fun w => w gB)]
      rfl
  · rw [if_neg c1, if_neg (by omega)]
    have gA := (fig_g tA bA (i := i) (by omega)).mpr (by omega)
    by_cases c2 : kB ≤ j + 1
    · rw [if_pos c2]
      by_cases c3 : HB.length - 1 ≤ j
      · rw [if_pos c3]
      · rw [if_neg c3]
        have gB : ¬ gout (rnE (shut HB) j) (rsE (shut HB) j) := fun w => absurd ((fig_g tB bB (i := j) (by omega)).mp w) (by omega)
        unfold cmpE
        rw [bP_f (show ¬ ¬ gout (rnE (shut HA) i) (rsE (shut HA) i) from fun w => w gA), bP_t (show ¬ gout (rnE (shut HB) j) (rsE (shut HB) j) from gB)]
        rfl
    · rw [if_neg c2, if_neg (by omega)]
      have gB := (fig_g tB bB (i := j) (by omega)).mpr (by omega)
      unfold cmpE
      rw [bP_f (show ¬ ¬ gout (rnE (shut HA) i) (rsE (shut HA) i) from fun w => w gA), bP_f (show ¬ ¬ gout (rnE (shut HB) j) (rsE (shut HB) j) from fun w => w gB), if_pos rfl, cmp_cr (fig_e tA (by omega)) (fig_e tB (by omega))]
theorem ph_2 (tA : two 100000 1 DA HA kA) (tB : two 100000 1 DB HB kB) (bA : ∀ q, DA q → bp q) (bB : ∀ q, DB q → bp q) (hi1 : kA - 1 ≤ i) (hi : i < HA.length) (hj1 : kB - 1 ≤ j) (hj : j < HB.length) (h : i + 1 < HA.length ∨ j + 1 < HB.length) : (i < egs (shut HA) ∨ j < egs (shut HB)) ∧ addC (shut HA) (shut HB) i j = (if HA.length ≤ i + 1 then 1 else if HB.length ≤ j + 1 then -1 else - sg (cr (ve HA i) (ve HB j))) := by
  have a1 := tA.1
  have b1 := tB.1
  have a2 := fig_egs tA
  have b2 := fig_egs tB
  refine ⟨by omega, ?_⟩
  unfold addC
  rw [a2, b2]
  by_cases c1 : HA.length ≤ i + 1
  · rw [if_pos c1, if_pos (by omega)]
  · rw [if_neg c1, if_neg (by omega)]
    by_cases c2 : HB.length ≤ j + 1
    · rw [if_pos c2, if_pos (by omega)]
    · rw [if_neg c2, if_neg (by omega)]
      have gA : ¬ gout (rnE (shut HA) i) (rsE (shut HA) i) := fun w => absurd ((fig_g tA bA (i := i) (by omega)).mp w) (by omega)
      have gB : ¬ gout (rnE (shut HB) j) (rsE (shut HB) j) := fun w => absurd ((fig_g tB bB (i := j) (by omega)).mp w) (by omega)
      unfold cmpE
      rw [bP_t (show ¬ gout (rnE (shut HA) i) (rsE (shut HA) i) from gA), bP_t (show ¬ gout (rnE (shut HB) j) (rsE (shut HB) j) from gB), if_pos rfl, cmp_cr (fig_e tA (by omega)) (fig_e tB (by omega))]
theorem st_sum (P Q : PL) : i + j + 1 ≤ stA P Q i j + stB P Q i j := by
  unfold stA stB
  rcases Int.lt_or_le (addC P Q i j) 0 with c | c
  · rw [if_pos (Int.le_of_lt c)]
    omega
  · rw [if_pos c]
    omega
theorem st_self {P : PL} (hi : i < egs P) : stA P P i i = i + 1 ∧ stB P P i i = i + 1 := by
  have e : addC P P i i = 0 := by
    unfold addC
    rw [if_neg (by omega), if_neg (by omega)]
    unfold cmpE
    rw [if_pos rfl, show rnE P i * rsE P i - rsE P i * rnE P i = 0 by rw [Int.mul_comm]; exact Int.sub_self _]
    rfl
  unfold stA stB
  rw [e]
  exact ⟨rfl, rfl⟩
theorem addF_end {N f i j : Nat} {P Q T : PL} {x y : Int} (h : ¬ (i < egs P ∨ j < egs Q)) : addF N P Q f x y i j T = T := by
  cases f with
  | zero => rfl
  | succ f => exact if_neg h
theorem sum_two (tA : two 100000 1 DA HA kA) (tB : two 100000 1 DB HB kB) (bA : ∀ q, DA q → bp q) (bB : ∀ q, DB q → bp q) (hcap : (HA.length - 1) + (HB.length - 1) ≤ 60 ∨ (HA = HB ∧ HA.length ≤ 61)) : ∃ H k, addN 61 (shut HA) (shut HB) = shut H ∧ two 100000 1 (fun q => ∃ p r, DA p ∧ DB r ∧ q = ad p r) H k ∧ H.length ≤ 61 := by
  have a0 := tA.1
  have b0 := tB.1
  have a1 := tA.2.1
  have b1 := tB.2.1
  have a2 := fig_egs tA
  have b2 := fig_egs tB
  have lA : (HA.take kA).length = kA := by rw [List.length_take]; omega
  have lB : (HB.take kB).length = kB := by rw [List.length_take]; omega
  have ij1 : ∀ {D : Pt → Prop}, (∀ q, D q → bp q) → ∀ q r, D q → D r → lv 100000 1 q = lv 100000 1 r → q = r := fun h q r hq hr e => lv_inj (h q hq) (h r hr) e
  have ij2 : ∀ {D : Pt → Prop}, (∀ q, D q → bp q) → ∀ q r, D q → D r → lv (-100000) (-1) q = lv (-100000) (-1) r → q = r := fun h q r hq hr e => lv_inj2 (h q hq) (h r hr) e
  have hR : ∀ n i j, (n ≤ 1 + i + j ∧ (HA = HB → i = j ∧ n ≤ 1 + i)) → i < HA.length → j < HB.length → i + 1 < HA.length ∨ j + 1 < HB.length → n < 61 ∧ (n + 1 ≤ 1 + stA (shut HA) (shut HB) i j + stB (shut HA) (shut HB) i j ∧ (HA = HB → stA (shut HA) (shut HB) i j = stB (shut HA) (shut HB) i j ∧ n + 1 ≤ 1 + stA (shut HA) (shut HB) i j)) := fun n i j r hi hj he => by
    have s := st_sum (i := i) (j := j) (shut HA) (shut HB)
    refine ⟨?_, by omega, fun e => ?_⟩
    · rcases hcap with c | ⟨c, c2⟩
      · omega
      · have := r.2 c
        rw [← c] at he
        omega
    · obtain ⟨r1, r2⟩ := r.2 e
      subst e r1
      obtain ⟨s1, s2⟩ := st_self (P := shut HA) (i := i) (by omega)
      rw [s1, s2]
      omega
  have e0 : pt (shut HA) 0 = pt HA 0 := fig_0 tA
  have e0' : pt (shut HB) 0 = pt HB 0 := fig_0 tB
  have p0 : pt (HA.take kA) 0 = pt HA 0 := pt_take a0
  have p0' : pt (HB.take kB) 0 = pt HB 0 := pt_take b0
  have x0 : (pX (shut HA) 0 + pX (shut HB) 0, pY (shut HA) 0 + pY (shut HB) 0) = ad (pt (HA.take kA) 0) (pt (HB.take kB) 0) := by
    rw [p0, p0', ← e0, ← e0']
    rfl
  generalize eT : ([(pX (shut HA) 0 + pX (shut HB) 0, pY (shut HA) 0 + pY (shut HB) 0, 0)] : PL) = T
  have hT1 : T.length = 1 := by
    rw [← eT]
    rfl
  have hT0 : pt T 0 = ad (pt (HA.take kA) 0) (pt (HB.take kB) 0) := by
    rw [← eT, ← x0]
    rfl
  have m0 : mg 100000 1 (HA.take kA) (HB.take kB) T DA DB 0 0 0 0 0 := by
    refine ⟨by omega, by rw [hT1]; exact hT0, fun t _ h => absurd h (by omega), fun t _ h => absurd h (by omega), fun t _ h => absurd h (by omega), fun t _ h => ?_, fun h => absurd h (Nat.lt_irrefl _), fun h => absurd h (Nat.lt_irrefl _), fun h => absurd h (by omega)⟩
    rw [show t = 0 by omega, hT0]
    exact ⟨_, _, tA.2.2.1.2.2.2.2.2 0 (Nat.le_refl _) (by omega), tB.2.2.1.2.2.2.2.2 0 (Nat.le_refl _) (by omega), rfl⟩
  obtain ⟨f1, x1, y1, T1, k1, k2, k3, k4, k5, k6, k7⟩ := ad_walk (N := 61) (P := shut HA) (Q := shut HB) tA.2.2.1 tB.2.2.1 (ij1 bA) (ij1 bB)
    (fun i j _ hi _ hj h => by
      rw [lA] at hi h ⊢
      rw [lB] at hj h ⊢
      have w := ph_1 tA tB bA bB hi hj h
      refine ⟨w.1, w.2.trans ?_⟩
      by_cases c1 : kA ≤ i + 1
      · rw [if_pos c1, if_pos c1]
      · rw [if_neg c1, if_neg c1]
        by_cases c2 : kB ≤ j + 1
        · rw [if_pos c2, if_pos c2]
        · rw [if_neg c2, if_neg c2]
          unfold ve
          rw [pt_take (by omega), pt_take (by omega), pt_take (by omega), pt_take (by omega)])
    (fun i _ hi => by
      rw [lA] at hi
      rw [fig_e tA (by omega)]
      unfold ve
      rw [pt_take (by omega), pt_take (by omega)])
    (fun i _ hi => by
      rw [lB] at hi
      rw [fig_e tB (by omega)]
      unfold ve
      rw [pt_take (by omega), pt_take (by omega)])
    (R := fun n i j => n ≤ 1 + i + j ∧ (HA = HB → i = j ∧ n ≤ 1 + i))
    (fun n i j r hi hj h => hR n i j r (by rw [lA] at hi; omega) (by rw [lB] at hj; omega) (by rw [lA, lB] at h; omega))
    (egs (shut HA) + egs (shut HB)) _ _ 0 0 T (by rw [lA, lB]; omega) (Nat.le_refl _) (by omega) (Nat.le_refl _) (by omega) m0 ⟨by omega, fun _ => ⟨rfl, by omega⟩⟩ x0
  have c1 := mg_chn tA.2.2.1 tB.2.2.1 k3 ((k7 0 (by omega)).trans hT0)
  rw [lA, lB] at k1 k2 k3 k4 k5
  have k5' : (x1, y1) = ad (pt HA (kA - 1)) (pt HB (kB - 1)) := by
    rw [k5, pt_take (by omega), pt_take (by omega)]
  have last1 : pt T1 (T1.length - 1) = ad (pt HA (kA - 1)) (pt HB (kB - 1)) := by
    rw [k3.2.1, pt_take (by omega), pt_take (by omega)]
  have m1 : mg (-100000) (-1) HA HB T1 DA DB (T1.length - 1) (kA - 1) (kB - 1) (kA - 1) (kB - 1) := by
    refine ⟨by omega, last1, fun t _ h => absurd h (by omega), fun t _ h => absurd h (by omega), fun t _ h => absurd h (by omega), fun t _ h => ?_, fun h => absurd h (Nat.lt_irrefl _), fun h => absurd h (Nat.lt_irrefl _), fun h => absurd h (by omega)⟩
    rw [show t = T1.length - 1 by omega, last1]
    exact ⟨_, _, tA.2.2.2.1.2.2.2.2.2 _ (Nat.le_refl _) (by omega), tB.2.2.2.1.2.2.2.2.2 _ (Nat.le_refl _) (by omega), rfl⟩
  obtain ⟨f2, x2, y2, T2, j1, j2, j3, j4, j5, j6, j7⟩ := ad_walk (N := 61) (P := shut HA) (Q := shut HB) tA.2.2.2.1 tB.2.2.2.1 (ij2 bA) (ij2 bB)
    (fun i j g1 hi g2 hj h => ph_2 tA tB bA bB g1 hi g2 hj h)
    (fun i _ hi => fig_e tA hi) (fun i _ hi => fig_e tB hi)
    (R := fun n i j => n ≤ 1 + i + j ∧ (HA = HB → i = j ∧ n ≤ 1 + i)) hR
    f1 x1 y1 (kA - 1) (kB - 1) T1 (by omega) (Nat.le_refl _) (by omega) (Nat.le_refl _) (by omega) m1 k4 k5'
  have c2 := mg_chn tA.2.2.2.1 tB.2.2.2.1 j3 ((j7 _ (by omega)).trans last1)
  have e2 : addF 61 (shut HA) (shut HB) f2 x2 y2 (HA.length - 1) (HB.length - 1) T2 = T2 := addF_end (by omega)
  have all : addN 61 (shut HA) (shut HB) = shut T2 := by
    unfold addN
    rw [show capp 61 [] (pX (shut HA) 0 + pX (shut HB) 0, pY (shut HA) 0 + pY (shut HB) 0, 0) = T from eT, k1, j1, e2]
  refine ⟨T2, T1.length, all, ⟨by omega, j6, chn_pt c1 (by rw [List.length_take]; omega) (fun j _ hj => by rw [pt_take hj, j7 j hj]), c2, ?_⟩, ?_⟩
  · rw [j3.2.1, j7 0 (by omega), k7 0 (by omega), hT0, p0, p0', tA.2.2.2.2, tB.2.2.2.2]
  · obtain ⟨r1, r2⟩ := j4
    rcases hcap with c | ⟨c, c2⟩
    · omega
    · have := (r2 c).2
      omega
end FIGS

