/-! The walk round the sum -/
def stA (P Q : PL) (i j : Nat) : Nat := i + (if addC P Q i j ≤ 0 then 1 else 0)
def stB (P Q : PL) (i j : Nat) : Nat := j + (if 0 ≤ addC P Q i j then 1 else 0)
section SUM2
variable {A B : Int} {tA tB t0 N : Nat} {DA DB : Pt → Prop} {HA HB : PL} {P Q : PL}
theorem ad_walk (hA : chn A B tA DA HA) (hB : chn A B tB DB HB) (ijA : ∀ q r, DA q → DA r → lv A B q = lv A B r → q = r) (ijB : ∀ q r, DB q → DB r → lv A B q = lv A B r → q = r)
  (hx : ∀ i j, tA ≤ i → i < HA.length → tB ≤ j → j < HB.length → i + 1 < HA.length ∨ j + 1 < HB.length → (i < egs P ∨ j < egs Q) ∧ addC P Q i j = (if HA.length ≤ i + 1 then 1 else if HB.length ≤ j + 1 then -1 else - sg (cr (ve HA i) (ve HB j))))
  (hrA : ∀ i, tA ≤ i → i + 1 < HA.length → (rnE P i, rsE P i) = ve HA i) (hrB : ∀ i, tB ≤ i → i + 1 < HB.length → (rnE Q i, rsE Q i) = ve HB i)
  {R : Nat → Nat → Nat → Prop} (hR : ∀ n i j, R n i j → i < HA.length → j < HB.length → i + 1 < HA.length ∨ j + 1 < HB.length → n < N ∧ R (n + 1) (stA P Q i j) (stB P Q i j)) :
  ∀ (f : Nat) (x y : Int) (i j : Nat) (T : PL), (HA.length - 1 - i) + (HB.length - 1 - j) ≤ f → tA ≤ i → i < HA.length → tB ≤ j → j < HB.length → mg A B HA HB T DA DB t0 tA tB i j → R T.length i j → (x, y) = ad (pt HA i) (pt HB j) →
  ∃ (f' : Nat) (x' y' : Int) (T' : PL), addF N P Q f x y i j T = addF N P Q f' x' y' (HA.length - 1) (HB.length - 1) T' ∧ f ≤ f' + ((HA.length - 1 - i) + (HB.length - 1 - j)) ∧ mg A B HA HB T' DA DB t0 tA tB (HA.length - 1) (HB.length - 1) ∧ R T'.length (HA.length - 1) (HB.length - 1) ∧ (x', y') = ad (pt HA (HA.length - 1)) (pt HB (HB.length - 1)) ∧ T.length ≤ T'.length ∧ ∀ t, t < T.length → pt T' t = pt T t := by
  intro f
  induction f with
  | zero =>
    intro x y i j T hf a1 a2 b1 b2 h r e
    have ei : i = HA.length - 1 := by omega
    have ej : j = HB.length - 1 := by omega
    subst ei ej
    exact ⟨0, x, y, T, rfl, by omega, h, r, e, Nat.le_refl _, fun _ _ => rfl⟩
  | succ f ih =>
    intro x y i j T hf a1 a2 b1 b2 h r e
    by_cases hend : i + 1 < HA.length ∨ j + 1 < HB.length
    · obtain ⟨g1, g2⟩ := hx i j a1 a2 b1 b2 hend
      obtain ⟨r1, r2⟩ := hR _ i j r a2 b2 hend
      have stp : addF N P Q (f + 1) x y i j T = addF N P Q f (x + (if addC P Q i j ≤ 0 then rnE P i else 0) + (if 0 ≤ addC P Q i j then rnE Q j else 0)) (y + (if addC P Q i j ≤ 0 then rsE P i else 0) + (if 0 ≤ addC P Q i j then rsE Q j else 0)) (stA P Q i j) (stB P Q i j) (T ++ [(x + (if addC P Q i j ≤ 0 then rnE P i else 0) + (if 0 ≤ addC P Q i j then rnE Q j else 0), y + (if addC P Q i j ≤ 0 then rsE P i else 0) + (if 0 ≤ addC P Q i j then rsE Q j else 0), 0)]) := by
        show (if i < egs P ∨ j < egs Q then _ else T) = _
        rw [if_pos g1]
        unfold capp
        rw [if_pos r1]
        rfl
      rw [stp]
      have ex : x = (pt HA i).1 + (pt HB j).1 := congrArg Prod.fst e
      have ey : y = (pt HA i).2 + (pt HB j).2 := congrArg Prod.snd e
      generalize hc : addC P Q i j = c at *
      have hA1 : stA P Q i j = i + (if c ≤ 0 then 1 else 0) := by
        unfold stA
        rw [hc]
      have hB1 : stB P Q i j = j + (if 0 ≤ c then 1 else 0) := by
        unfold stB
        rw [hc]
      rw [hA1, hB1] at r2 ⊢
      have fin : ∀ (i' j' : Nat) (x' y' : Int), (x', y') = ad (pt HA i') (pt HB j') → i ≤ i' → j ≤ j' → i + j < i' + j' → i' < HA.length → j' < HB.length → mg A B HA HB (T ++ [(x', y', 0)]) DA DB t0 tA tB i' j' → R (T.length + 1) i' j' → ∃ (f' : Nat) (x'' y'' : Int) (T' : PL), addF N P Q f x' y' i' j' (T ++ [(x', y', 0)]) = addF N P Q f' x'' y'' (HA.length - 1) (HB.length - 1) T' ∧ f + 1 ≤ f' + ((HA.length - 1 - i) + (HB.length - 1 - j)) ∧ mg A B HA HB T' DA DB t0 tA tB (HA.length - 1) (HB.length - 1) ∧ R T'.length (HA.length - 1) (HB.length - 1) ∧ (x'', y'') = ad (pt HA (HA.length - 1)) (pt HB (HB.length - 1)) ∧ T.length ≤ T'.length ∧ ∀ t, t < T.length → pt T' t = pt T t := fun i' j' x' y' e' l1 l2 l3 l4 l5 h' r' => by
        have hl : (T ++ [(x', y', (0 : Int))]).length = T.length + 1 := by rw [List.length_append, List.length_singleton]
        obtain ⟨f2, x2, y2, T2, k1, k2, k3, k4, k5, k6, k7⟩ := ih x' y' i' j' _ (by omega) (by omega) l4 (by omega) l5 h' (by rw [hl]; exact r') e'
        rw [hl] at k6 k7
        refine ⟨f2, x2, y2, T2, k1, by omega, k3, k4, k5, by omega, fun t ht => ?_⟩
        rw [k7 t (by omega), pt_app1 ht]
      by_cases c1 : HA.length ≤ i + 1
      · rw [if_pos c1] at g2
        subst g2
        simp only [show ¬ (1 : Int) ≤ 0 by omega, show (0 : Int) ≤ 1 by omega, if_true, if_false, Int.add_zero, Nat.add_zero] at r2 ⊢
        have hj : j + 1 < HB.length := by omega
        have v := hrB j b1 hj
        have v1 : rnE Q j = (ve HB j).1 := congrArg Prod.fst v
        have v2 : rsE Q j = (ve HB j).2 := congrArg Prod.snd v
        have ee : (x + rnE Q j, y + rsE Q j) = ad (pt HA i) (pt HB (j + 1)) := by
          rw [ve_in HB j, ex, ey, v1, v2]
          exact pt_eq (Int.add_assoc _ _ _) (Int.add_assoc _ _ _)
        exact fin i (j + 1) _ _ ee (by omega) (by omega) (by omega) a2 hj (mg_swap (mg_A hB hA ijB ijA (mg_swap h) b1 a1 hj a2 (fun g => absurd g (by omega)) (by rw [ad_comm]; exact ee))) r2
      · rw [if_neg c1] at g2
        have hi : i + 1 < HA.length := by omega
        have v := hrA i a1 hi
        have v1 : rnE P i = (ve HA i).1 := congrArg Prod.fst v
        have v2 : rsE P i = (ve HA i).2 := congrArg Prod.snd v
        have eA : (x + rnE P i, y + rsE P i) = ad (pt HA (i + 1)) (pt HB j) := by
          rw [ve_in HA i, ex, ey, v1, v2, ad_ab]
          rfl
        have left : (j + 1 < HB.length → 0 < cr (ve HA i) (ve HB j)) → mg A B HA HB (T ++ [(x + rnE P i, y + rsE P i, 0)]) DA DB t0 tA tB (i + 1) j := fun g0 => mg_A hA hB ijA ijB h a1 b1 hi b2 g0 eA
        by_cases c2 : HB.length ≤ j + 1
        · rw [if_pos c2] at g2
          subst g2
          simp only [show (-1 : Int) ≤ 0 by omega, show ¬ (0 : Int) ≤ -1 by omega, if_true, if_false, Int.add_zero, Nat.add_zero] at r2 ⊢
          exact fin (i + 1) j _ _ eA (by omega) (by omega) (by omega) hi b2 (left (fun g => absurd g (by omega))) r2
        · rw [if_neg c2] at g2
          have hj : j + 1 < HB.length := by omega
          have w := hrB j b1 hj
          have w1 : rnE Q j = (ve HB j).1 := congrArg Prod.fst w
          have w2 : rsE Q j = (ve HB j).2 := congrArg Prod.snd w
          rcases Int.lt_trichotomy 0 (cr (ve HA i) (ve HB j)) with k | k | k
          · rw [sg_pos k] at g2
            have g2 : c = -1 := g2
            subst g2
            simp only [show (-1 : Int) ≤ 0 by omega, show ¬ (0 : Int) ≤ -1 by omega, if_true, if_false, Int.add_zero, Nat.add_zero] at r2 ⊢
            exact fin (i + 1) j _ _ eA (by omega) (by omega) (by omega) hi b2 (left (fun _ => k)) r2
          · have : sg (cr (ve HA i) (ve HB j)) = 0 := by
              rw [← k]
              rfl
            rw [this] at g2
            subst g2
            simp only [show (-0 : Int) ≤ 0 by omega, show (0 : Int) ≤ -0 by omega, if_true] at r2 ⊢
            have ee : (x + rnE P i + rnE Q j, y + rsE P i + rsE Q j) = ad (pt HA (i + 1)) (pt HB (j + 1)) := by
              rw [ve_in HB j, ve_in HA i, ex, ey, v1, v2, w1, w2, ad_abab]
              exact pt_eq (by show (pt HA i).1 + (pt HB j).1 + (ve HA i).1 + (ve HB j).1 = (pt HA i).1 + (pt HB j).1 + ((ve HA i).1 + (ve HB j).1); omega) (by show (pt HA i).2 + (pt HB j).2 + (ve HA i).2 + (ve HB j).2 = (pt HA i).2 + (pt HB j).2 + ((ve HA i).2 + (ve HB j).2); omega)
            exact fin (i + 1) (j + 1) _ _ ee (by omega) (by omega) (by omega) hi hj (mg_AB hA hB ijA ijB h a1 b1 hi hj k.symm ee) r2
          · have : sg (cr (ve HA i) (ve HB j)) = -1 := by
              unfold sg
              rw [if_neg (by omega), if_pos k]
            rw [this] at g2
            have g2 : c = 1 := g2
            subst g2
            simp only [show ¬ (1 : Int) ≤ 0 by omega, show (0 : Int) ≤ 1 by omega, if_true, if_false, Int.add_zero, Nat.add_zero] at r2 ⊢
            have ee : (x + rnE Q j, y + rsE Q j) = ad (pt HA i) (pt HB (j + 1)) := by
              rw [ve_in HB j, ex, ey, w1, w2]
              exact pt_eq (Int.add_assoc _ _ _) (Int.add_assoc _ _ _)
            have k' : 0 < cr (ve HB j) (ve HA i) := by
              rw [cr_sym]
              omega
            exact fin i (j + 1) _ _ ee (by omega) (by omega) (by omega) a2 hj (mg_swap (mg_A hB hA ijB ijA (mg_swap h) b1 a1 hj a2 (fun _ => k') (by rw [ad_comm]; exact ee))) r2
    · have ei : i = HA.length - 1 := by omega
      have ej : j = HB.length - 1 := by omega
      subst ei ej
      exact ⟨f + 1, x, y, T, rfl, by omega, h, r, e, Nat.le_refl _, fun _ _ => rfl⟩
/-- the way's end is a chain about the sums -/
theorem mg_chn (hA : chn A B tA DA HA) (hB : chn A B tB DB HB) {T : PL} (h : mg A B HA HB T DA DB t0 tA tB (HA.length - 1) (HB.length - 1)) (e : pt T t0 = ad (pt HA tA) (pt HB tB)) : chn A B t0 (fun q => ∃ p r, DA p ∧ DB r ∧ q = ad p r) T := by
  obtain ⟨q1, q2, q3, q4, q5, q6, q7, q8, q9⟩ := h
  refine ⟨q1, q3, q4, fun j a b q ⟨p, r, hp, hr, w⟩ => by rw [w]; exact q5 j a b p r hp hr, fun q ⟨p, r, hp, hr, w⟩ => ?_, q6⟩
  have k1 := hA.2.2.2.2.1 p hp
  have k2 := hB.2.2.2.2.1 r hr
  rw [w, q2, e, lv_ad, lv_ad, lv_ad]
  omega
end SUM2

