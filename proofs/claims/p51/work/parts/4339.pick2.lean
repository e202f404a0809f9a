/-! Pick's theorem of a simple row of corners -/
section PICK2
variable {L : PL} {R : Nat} {x y : Int}
theorem fold_F {i : Nat} : fold3 L i ↔ Fdb (pt L (prv L.length i)) (pt L i) (pt L (nxt L.length i)) := by
  unfold Fdb On pt
  exact Iff.rfl
theorem meet_M {L2 : PL} {a b c d : Nat} : meet3 L a b L2 c d ↔ Mt (pt L a) (pt L b) (pt L2 c) (pt L2 d) := by
  unfold Mt On T3 pt
  exact Iff.rfl
/-- a simple polygon, in these words -/
theorem Smp_L2 (h : closes L) (hb : ∀ i, i < L.length → (-1000 ≤ pX L i ∧ pX L i ≤ 1000) ∧ (-1000 ≤ pY L i ∧ pY L i ≤ 1000)) : Smp (-1) 100000 (pt L) L.length := by
  obtain ⟨h3, h2⟩ := h
  have cr : ∀ i j, i < L.length → j < L.length → i ≠ j → nxt L.length i ≠ j → nxt L.length j ≠ i → ¬ Mt (pt L i) (pt L (nxt L.length i)) (pt L j) (pt L (nxt L.length j)) := fun i j hi hj e1 e2 e3 m => by
    rcases Nat.lt_or_gt_of_ne e1 with g | g
    · have m3 := meet_M.mpr m
      exact (h2 i hi).2 j g hj ⟨e2, e3, m3⟩
    · have m2 := Mt_tw m
      have m3 := meet_M.mpr m2
      exact (h2 j hj).2 i g hi ⟨e3, e2, m3⟩
  have fo : ∀ i, i < L.length → ¬ Fdb (pt L (prv L.length i)) (pt L i) (pt L (nxt L.length i)) := fun i hi w => (h2 i hi).1 (fold_F.mpr w)
  refine ⟨h3, fun i j hi hj e => ?_, fo, cr⟩
  have ep : pt L i = pt L j := lvm_inj (hb i hi).1 (hb j hj).1 e
  refine Classical.byContradiction fun ne => ?_
  have fold : ∀ i j, i < L.length → pt L i = pt L j → nxt L.length i = j → False := fun i j hi ep e => by
    refine fo i hi (Or.inr ?_)
    rw [e, ← ep]
    exact On_sym (On_l _ _)
  by_cases c1 : nxt L.length i = j
  · exact fold i j hi ep c1
  · by_cases c2 : nxt L.length j = i
    · exact fold j i hj ep.symm c2
    · refine cr i j hi hj ne c1 c2 (Or.inr (Or.inl ?_))
      rw [← ep]
      exact On_l _ _
/-- off the edges, the crossings are odd where the numbers aren't 0 -/
theorem wI_om (h : Smp (-1) 100000 (pt L) L.length) (hb : ∀ i, i < L.length → (-1000 ≤ pX L i ∧ pX L i ≤ 1000) ∧ (-1000 ≤ pY L i ∧ pY L i ≤ 1000)) (hx : -1000 ≤ x ∧ x ≤ 1000) (off : ∀ i, i < L.length → ¬ On (pt L i) (pt L (nxt L.length i)) (x, y)) : om (-1) 100000 (pt L) L.length (x, y) = 2 * (2 * mu (-1) 100000 (pt L) L.length + 1) * ic (wI L 1 x y = 1) := by
  have lz : ∀ i, i < L.length → lv (-1) 100000 (x, y) ≠ lv (-1) 100000 (pt L i) := fun i hi g => off i hi (by
    rw [lvm_inj (p := (x, y)) hx (hb i hi).1 g]
    exact On_l _ _)
  have same := off_same lz off
  have any := Smp_any h (by decide) lz
  have m01 := mu_01 h
  have od : oddN (eTog L 1 x y) L.length ↔ wN (-1) 100000 (pt L) L.length (x, y) % 2 = 1 := odd_sum _ fun i hi => by
    have z1 : upE L y i → T3 (pt L i) (pt L (nxt L.length i)) (x, y) ≠ 0 := fun g t => off i hi (up_on g t)
    have z2 : dnE L y i → T3 (pt L i) (pt L (nxt L.length i)) (x, y) ≠ 0 := fun g t => off i hi (dn_on g t)
    have st : cS (-1) 100000 (pt L i) (pt L (nxt L.length i)) (x, y) = cS 0 1 (pt L i) (pt L (nxt L.length i)) (x, y) := cS_std (hb i hi).1 (hb _ (nxt_lt hi)).1 hx
    rw [st, eTog_1]
    unfold cS
    rw [lv01, lv01, lv01]
    show ((upE L y i ∧ 0 < T3 (pt L i) (pt L (nxt L.length i)) (x, y)) ∨ (dnE L y i ∧ ¬ 0 < T3 (pt L i) (pt L (nxt L.length i)) (x, y)) ↔ (if pY L i ≤ y ∧ y < pY L (nxt L.length i) ∧ 0 < T3 (pt L i) (pt L (nxt L.length i)) (x, y) then (1 : Int) else if pY L (nxt L.length i) ≤ y ∧ y < pY L i ∧ T3 (pt L i) (pt L (nxt L.length i)) (x, y) < 0 then -1 else 0) ≠ 0) ∧ -1 ≤ (if pY L i ≤ y ∧ y < pY L (nxt L.length i) ∧ 0 < T3 (pt L i) (pt L (nxt L.length i)) (x, y) then (1 : Int) else if pY L (nxt L.length i) ≤ y ∧ y < pY L i ∧ T3 (pt L i) (pt L (nxt L.length i)) (x, y) < 0 then -1 else 0) ∧ (if pY L i ≤ y ∧ y < pY L (nxt L.length i) ∧ 0 < T3 (pt L i) (pt L (nxt L.length i)) (x, y) then (1 : Int) else if pY L (nxt L.length i) ≤ y ∧ y < pY L i ∧ T3 (pt L i) (pt L (nxt L.length i)) (x, y) < 0 then -1 else 0) ≤ 1
    unfold upE dnE at *
    generalize T3 (pt L i) (pt L (nxt L.length i)) (x, y) = t at *
    clear st same any
    split
    · omega
    · split
      · omega
      · omega
  have k := wI_e (L := L) (s := 1) (x := x) (y := y) (fun i hi w => off i hi (eOn_1.mp w))
  unfold om
  by_cases c : oddN (eTog L 1 x y) L.length
  · have o := od.mp c
    rw [ic_t (k.1 c)]
    omega
  · have o : ¬ wN (-1) 100000 (pt L) L.length (x, y) % 2 = 1 := fun w => c (od.mpr w)
    rw [ic_f (by rw [k.2 c]; decide)]
    omega
theorem pick (hR : R ≤ 1000) (h : Smp (-1) 100000 (pt L) L.length) (hv : inR R (pt L) L.length) : da L = (2 * mu (-1) 100000 (pt L) L.length + 1) * (2 * bx R (fun x y => ic (wI L 1 x y = 1)) + srd L - 2) := by
  have h3 := h.1
  have hb : ∀ i, i < L.length → (-1000 ≤ pX L i ∧ pX L i ≤ 1000) ∧ (-1000 ≤ pY L i ∧ pY L i ≤ 1000) := fun i hi => by
    have := hv i hi
    have t1 : -(R : Int) ≤ pX L i ∧ pX L i ≤ R := this.1
    have t2 : -(R : Int) ≤ pY L i ∧ pY L i ≤ R := this.2
    omega
  have ar := area hR hv
  have vs := vsum (by decide) (L.length + 1) L.length (pt L) (by omega) h
  have m01 := mu_01 h
  generalize hw : 2 * mu (-1) 100000 (pt L) L.length + 1 = w at *
  have eda : sumN (fun i => (pt L i).1 * (pt L (nxt L.length i)).2 - (pt L i).2 * (pt L (nxt L.length i)).1) L.length = da L := rfl
  rw [eda] at ar
  have ne : ∀ i, i < L.length → pt L i ≠ pt L (nxt L.length i) := fun i hi e => Smp_lv h hi (nxt_lt hi) (Ne.symm (nxt_ne (by omega) hi)) (by rw [e])
  have pw : bx R (fun x y => om (-1) 100000 (pt L) L.length (x, y)) = bx R (fun x y => 2 * w * ic (wI L 1 x y = 1) + (w * sumN (fun i => ic (On (pt L i) (pt L (nxt L.length i)) (x, y) ∧ (x, y) ≠ pt L (nxt L.length i))) L.length + sumN (fun i => (om (-1) 100000 (pt L) L.length (pt L i) - w) * ic ((x, y) = pt L i)) L.length)) := bx_cg fun x y h1 h2 h3' h4 => by
    have hx : -1000 ≤ x ∧ x ≤ 1000 := by omega
    have hz : ∀ k, k < L.length → lv (-1) 100000 (x, y) = lv (-1) 100000 (pt L k) → (x, y) = pt L k := fun k hk g => lvm_inj (p := (x, y)) hx (hb k hk).1 g
    by_cases cv : ∃ i, i < L.length ∧ (x, y) = pt L i
    · obtain ⟨i, hi, e⟩ := cv
      have on : On (pt L i) (pt L (nxt L.length i)) (x, y) := by
        rw [e]
        exact On_l _ _
      have n1 : (x, y) ≠ pt L (nxt L.length i) := by
        rw [e]
        exact ne i hi
      rw [ic_f (show ¬ wI L 1 x y = 1 by rw [wI_0 hi (eOn_1.mpr on)]; decide)]
      rw [sumN_1 hi fun j hj ej => ic_f fun w => on_two h hj hi ej w.1 on w.2 n1 hz]
      rw [ic_t ⟨on, n1⟩]
      rw [sumN_1 hi fun j hj ej => by
        rw [ic_f fun g => Smp_lv h hj hi ej (by rw [← g, e]), Int.mul_zero]]
      rw [ic_t e, e]
      omega
    · have nv : ∀ i, i < L.length → ¬ (x, y) = pt L i := fun i hi e => cv ⟨i, hi, e⟩
      have lz : ∀ i, i < L.length → lv (-1) 100000 (x, y) ≠ lv (-1) 100000 (pt L i) := fun i hi g => nv i hi (hz i hi g)
      rw [sumN_z (f := fun i => (om (-1) 100000 (pt L) L.length (pt L i) - w) * ic ((x, y) = pt L i)) _ fun i hi => by
        rw [ic_f (nv i hi), Int.mul_zero]]
      by_cases co : ∃ i, i < L.length ∧ On (pt L i) (pt L (nxt L.length i)) (x, y)
      · obtain ⟨i, hi, on⟩ := co
        rw [ic_f (show ¬ wI L 1 x y = 1 by rw [wI_0 hi (eOn_1.mpr on)]; decide)]
        rw [sumN_1 hi fun j hj ej => ic_f fun w => on_two h hj hi ej w.1 on w.2 (nv _ (nxt_lt hi)) hz]
        rw [ic_t ⟨on, nv _ (nxt_lt hi)⟩, om_edge h hi lz on, hw]
        omega
      · have off : ∀ i, i < L.length → ¬ On (pt L i) (pt L (nxt L.length i)) (x, y) := fun i hi w => co ⟨i, hi, w⟩
        rw [sumN_z (f := fun i => ic (On (pt L i) (pt L (nxt L.length i)) (x, y) ∧ (x, y) ≠ pt L (nxt L.length i))) _ fun i hi => ic_f fun w => off i hi w.1]
        rw [wI_om h hb hx off, hw]
        omega
  rw [pw, bx_ad, bx_ad, bx_mul, bx_mul, bx_sm, bx_sm] at ar
  have e1 : sumN (fun i => bx R (fun x y => ic (On (pt L i) (pt L (nxt L.length i)) (x, y) ∧ (x, y) ≠ pt L (nxt L.length i)))) L.length = srd L := sumN_cg _ fun i hi => by
    have b1 := hv i hi
    have b2 := hv _ (nxt_lt hi)
    exact seg_cnt b1.1 b1.2 b2.1 b2.2 (ne i hi)
  have e2 : sumN (fun i => bx R (fun x y => (om (-1) 100000 (pt L) L.length (pt L i) - w) * ic ((x, y) = pt L i))) L.length = w * ((L.length : Int) - 2) - L.length * w := by
    rw [← vs, ← sumN_c, ← sumN_sb]
    refine sumN_cg _ fun i hi => ?_
    have b1 := hv i hi
    rw [bx_mul, bx_pt b1.1 b1.2, Int.mul_one]
  rw [e1, e2] at ar
  rw [← ar]
  grind
end PICK2

