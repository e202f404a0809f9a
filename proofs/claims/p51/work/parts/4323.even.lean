/-! Places far off, widths, and strays -/
theorem odd_cg {f g : Nat → Prop} : ∀ n, (∀ i, i < n → (f i ↔ g i)) → (oddN f n ↔ oddN g n)
  | 0, _ => Iff.rfl
  | n + 1, h => by
    show ¬ (oddN f n ↔ f n) ↔ ¬ (oddN g n ↔ g n)
    rw [odd_cg n (fun i hi => h i (by omega)), h n (by omega)]
theorem odd_run (f : Nat → Prop) : ∀ m, oddN (fun i => ¬ (f i ↔ f (i + 1))) m ↔ ¬ (f 0 ↔ f m)
  | 0 => ⟨fun w => absurd w (fun w => w), fun w => absurd Iff.rfl w⟩
  | m + 1 => by
    have ih := odd_run f m
    show ¬ (oddN (fun i => ¬ (f i ↔ f (i + 1))) m ↔ ¬ (f m ↔ f (m + 1))) ↔ _
    rw [ih]
    by_cases a : f 0 <;> by_cases b : f m <;> by_cases c : f (m + 1) <;> simp [a, b, c]
/-- round a ring a thing changes an even number of times -/
theorem odd_ring (f : Nat → Prop) (n : Nat) : ¬ oddN (fun i => ¬ (f i ↔ f (nxt n i))) n := by
  cases n with
  | zero => exact fun w => w
  | succ m =>
    have e : oddN (fun i => ¬ (f i ↔ f (nxt (m + 1) i))) m ↔ ¬ (f 0 ↔ f m) := by
      rw [← odd_run f m]
      refine odd_cg m fun i hi => ?_
      show ¬ (f i ↔ f (nxt (m + 1) i)) ↔ _
      rw [show nxt (m + 1) i = i + 1 from if_pos (by omega)]
    show ¬ ¬ (oddN (fun i => ¬ (f i ↔ f (nxt (m + 1) i))) m ↔ ¬ (f m ↔ f (nxt (m + 1) m)))
    rw [e, show nxt (m + 1) m = 0 from if_neg (by omega)]
    by_cases a : f 0 <;> by_cases b : f m <;> simp [a, b]
theorem id_f (a b p : Pt) : T3 a b p = - ((p.1 - b.1) * (p.2 - a.2)) - (p.1 - a.1) * (b.2 - p.2) := by
  obtain ⟨ax, ay⟩ := a
  obtain ⟨bx, b2⟩ := b
  obtain ⟨px, py⟩ := p
  simp only [T3, tw]
  grind
section FAR
variable {L F W : PL}
/-- a place beside all corners is outside -/
theorem far_lies {c : Int} (h : ∀ i, i < L.length → (-c ≤ pX L i ∧ pX L i ≤ c) ∧ (-c ≤ pY L i ∧ pY L i ≤ c)) {x y : Int} (hx : ¬ (-c ≤ x ∧ x ≤ c ∧ -c ≤ y ∧ y ≤ c)) : wI L 1 x y = -1 := by
  refine (wI_e (fun i hi w => ?_)).2 ?_
  · obtain ⟨w1, w2, w3, w4, _⟩ := eOn_1.mp w
    have b1 := h i hi
    have b2 := h _ (nxt_lt hi)
    have w1 : min (pX L i) (pX L (nxt L.length i)) ≤ x := w1
    have w2 : x ≤ max (pX L i) (pX L (nxt L.length i)) := w2
    have w3 : min (pY L i) (pY L (nxt L.length i)) ≤ y := w3
    have w4 : y ≤ max (pY L i) (pY L (nxt L.length i)) := w4
    omega
  · by_cases cy : -c ≤ y ∧ y ≤ c
    · by_cases cx : c < x
      · refine odd_none _ fun i hi w => ?_
        have b1 := h i hi
        have b2 := h _ (nxt_lt hi)
        have e := id_f (pt L i) (pt L (nxt L.length i)) (x, y)
        rcases eTog_1.mp w with ⟨⟨u1, u2⟩, w⟩ | ⟨⟨u1, u2⟩, w⟩
        · have m1 : 0 ≤ (x - pX L (nxt L.length i)) * (y - pY L i) := Int.mul_nonneg (by omega) (by omega)
          have m2 : 0 < (x - pX L i) * (pY L (nxt L.length i) - y) := Int.mul_pos (by omega) (by omega)
          have e : T3 (pt L i) (pt L (nxt L.length i)) (x, y) = - ((x - pX L (nxt L.length i)) * (y - pY L i)) - (x - pX L i) * (pY L (nxt L.length i) - y) := e
          omega
        · have m1 : (x - pX L (nxt L.length i)) * (y - pY L i) < 0 := Int.mul_neg_of_pos_of_neg (by omega) (by omega)
          have m2 : (x - pX L i) * (pY L (nxt L.length i) - y) ≤ 0 := Int.mul_nonpos_of_nonneg_of_nonpos (by omega) (by omega)
          have e : T3 (pt L i) (pt L (nxt L.length i)) (x, y) = - ((x - pX L (nxt L.length i)) * (y - pY L i)) - (x - pX L i) * (pY L (nxt L.length i) - y) := e
          omega
      · refine fun w => odd_ring (fun i => y < pY L i) L.length ((odd_cg _ fun i hi => ?_).mp w)
        have b1 := h i hi
        have b2 := h _ (nxt_lt hi)
        rw [eTog_1]
        have e : T3 (pt L i) (pt L (nxt L.length i)) (x, y) = - ((x - pX L (nxt L.length i)) * (y - pY L i)) - (x - pX L i) * (pY L (nxt L.length i) - y) := id_f (pt L i) (pt L (nxt L.length i)) (x, y)
        constructor
        · rintro (⟨⟨u1, u2⟩, _⟩ | ⟨⟨u1, u2⟩, _⟩)
          · omega
          · omega
        · intro w
          by_cases c1 : y < pY L i
          · have c2 : pY L (nxt L.length i) ≤ y := by omega
            refine Or.inr ⟨⟨c1, c2⟩, ?_⟩
            have m1 : 0 < (x - pX L (nxt L.length i)) * (y - pY L i) := Int.mul_pos_of_neg_of_neg (by omega) (by omega)
            have m2 : 0 ≤ (x - pX L i) * (pY L (nxt L.length i) - y) := Int.mul_nonneg_of_nonpos_of_nonpos (by omega) (by omega)
            omega
          · have c2 : y < pY L (nxt L.length i) := by omega
            refine Or.inl ⟨⟨by omega, c2⟩, ?_⟩
            have m1 : (x - pX L (nxt L.length i)) * (y - pY L i) ≤ 0 := Int.mul_nonpos_of_nonpos_of_nonneg (by omega) (by omega)
            have m2 : (x - pX L i) * (pY L (nxt L.length i) - y) < 0 := Int.mul_neg_of_neg_of_pos (by omega) (by omega)
            omega
    · refine odd_none _ fun i hi w => ?_
      have b1 := h i hi
      have b2 := h _ (nxt_lt hi)
      rcases eTog_1.mp w with ⟨⟨u1, u2⟩, _⟩ | ⟨⟨u1, u2⟩, _⟩
      · omega
      · omega
theorem q_plies (h : okP L) (x y : Int) (hx : ¬ nrOK x y) : wI L 1 x y = -1 :=
  far_lies (c := 200) (fun i hi => by have := h i hi; exact ⟨this.1, this.2.1⟩) hx
/-- no point of a figure's points is outside -/
theorem hul_in {D : Pt → Prop} (hW : hul D W) (h : edL W) {x y : Int} (hd : D (x, y)) : 0 ≤ wI W 1 x y := by
  rcases wI_bd W 1 x y with e | e | e
  · omega
  · omega
  · exfalso
    obtain ⟨i, hi, w⟩ := (hul_wI hW h hd).mp (by omega)
    have := wI_0 hi (eOn_1.mpr w)
    omega
theorem q_stray {P : PL} (hP : g3P P) (a : Int) : noStray (putN P a [] P.length) := fun i hi => by
  have hlen : (putN P a [] P.length).length = cntN P a P.length := (putN_len P a [] P.length).trans (Nat.zero_add _)
  have w := put_hul hP (a := a) (by omega)
  exact hul_in w.1 w.2.1.2.2.1 (x := pX (putN P a [] P.length) i) (y := pY (putN P a [] P.length) i) (pq_put0.mp ⟨i, hi, rfl⟩)
theorem rch_mst (F : PL) (e : Nat) : ∀ n, rch F e n = mstN F e n
  | 0 => rfl
  | n + 1 => by
    have ih := rch_mst F e n
    unfold rch mstN
    rw [ih]
    show max (mstN F e n) (itW F e n) = if mstN F e n < itW F e n then itW F e n else mstN F e n
    split <;> omega
theorem sq_wd (hd : ∀ i, i < F.length → 0 < dnW F i) (u0 : Int) : ∀ n, n < F.length → sqw F (n + 1) = wdM u0 F (n + 1) ∧ 0 < (wdM u0 F (n + 1)).2
  | 0, hn => by
    have e : wdM u0 F 1 = (mW F 0 * mW F 0, dnW F 0) := if_neg (fun w => absurd w.1 (Int.lt_irrefl _))
    have e2 : sqw F 1 = (sqR F 0 * sqR F 0, sqL F 0) := sqw_t (Or.inl rfl)
    rw [e, e2]
    unfold sqR mW
    rw [rch_mst]
    exact ⟨rfl, hd 0 hn⟩
  | n + 1, hn => by
    obtain ⟨ih, hp⟩ := sq_wd hd u0 n (by omega)
    have er : sqR F (n + 1) = mW F (n + 1) := rch_mst F (n + 1) F.length
    by_cases c : (wdM u0 F (n + 1)).1 * dnW F (n + 1) ≤ mW F (n + 1) * mW F (n + 1) * (wdM u0 F (n + 1)).2
    · have e : wdM u0 F (n + 2) = wdM u0 F (n + 1) := if_pos ⟨hp, c⟩
      have e2 : sqw F (n + 2) = sqw F (n + 1) := sqw_n (fun w => w.elim (fun w => absurd w (by omega)) (fun w => by
        rw [er, ih] at w
        exact absurd c (Int.not_le.mpr w)))
      rw [e, e2]
      exact ⟨ih, hp⟩
    · have e : wdM u0 F (n + 2) = (mW F (n + 1) * mW F (n + 1), dnW F (n + 1)) := if_neg (fun w => c w.2)
      have e2 : sqw F (n + 2) = (sqR F (n + 1) * sqR F (n + 1), sqL F (n + 1)) := sqw_t (Or.inr (by
        rw [er, ih]
        exact Int.not_le.mp c))
      rw [e, e2, er]
      exact ⟨rfl, hd _ hn⟩
theorem q_width (hF : ∀ i j, i < j → j < F.length → pt F i ≠ pt F j) (u : Prop) [Decidable u] (h3 : 3 ≤ F.length) : (∀ u0, 0 < (wdM u0 F F.length).2) ∧ ∀ u0, sqW F u = if u then (wdM u0 F F.length).2.tdiv (wdG (wdM u0 F F.length).1 (wdM u0 F F.length).2) else (wdM u0 F F.length).1.tdiv (wdG (wdM u0 F F.length).1 (wdM u0 F F.length).2) := by
  have hd : ∀ i, i < F.length → 0 < dnW F i := fun i hi => sq_pos (x := rnE F i) (y := rsE F i) fun w => by
    have wx : pX F (nxt F.length i) - pX F i = 0 := w.1
    have wy : pY F (nxt F.length i) - pY F i = 0 := w.2
    have n1 := nxt_ne (by omega) hi
    have e : pt F (nxt F.length i) = pt F i := pt_eq (show pX F _ = pX F _ by omega) (show pY F _ = pY F _ by omega)
    rcases Nat.lt_or_gt_of_ne n1 with g | g
    · exact hF _ _ g hi e
    · exact hF _ _ g (nxt_lt hi) e.symm
  have k := fun u0 => sq_wd hd u0 (F.length - 1) (by omega)
  rw [show F.length - 1 + 1 = F.length by omega] at k
  refine ⟨fun u0 => (k u0).2, fun u0 => ?_⟩
  obtain ⟨k1, k2⟩ := k u0
  have g : (sqD F : Int) ≠ 0 := fun w => by
    have w2 : sqD F = 0 := by omega
    unfold sqD at w2
    have := (Nat.gcd_eq_zero_iff.mp w2).2
    rw [k1] at this
    omega
  unfold sqW
  rw [if_neg g]
  unfold sqD wdG
  rw [k1]
end FAR

