/-! No faults are found -/
section ERRS
variable {L A B : PL} {R n i j k s t : Nat} {x y : Int} {u : Prop}
theorem cut_bd (hv : inR R (pt L) L.length) (hu : u = True ∨ u = False) : ∀ i, i < (cutN L y u L.length).length → -(2 * (R : Int)) ≤ pX (cutN L y u L.length) i ∧ pX (cutN L y u L.length) i ≤ 2 * R := fun i hi => by
  obtain ⟨k, hk, g, e⟩ := (mem_cut L.length).mp (getD_mem hi)
  have e : pX (cutN L y u L.length) i = ctV L y k := congrArg Prod.fst e
  rw [e]
  have hlo : ctL L k < L.length := by
    unfold ctL
    split
    · exact hk
    · exact nxt_lt hk
  have hhi : ctH L k < L.length := by
    unfold ctH
    split
    · exact nxt_lt hk
    · exact hk
  have b1 := (hv _ hlo).1
  have b2 := (hv _ hhi).1
  have rng : pY L (ctL L k) ≤ y ∧ y ≤ pY L (ctH L k) ∧ 0 < ctR L k := by
    have eG : ctG L y u k ↔ (u → 0 ≤ ctU L y k ∧ ctU L y k < ctR L k) ∧ (¬ u → 0 < ctU L y k ∧ ctU L y k ≤ ctR L k) ∧ 0 < ctR L k := Iff.rfl
    have g := eG.mp g
    have eU : ctU L y k = y - pY L (ctL L k) := rfl
    have eR : ctR L k = pY L (ctH L k) - pY L (ctL L k) := rfl
    rcases hu with rfl | rfl
    · have := g.1 trivial
      omega
    · have := g.2.1 id
      omega
  have vc := fun x => v_cmp (S := ctS L y k) (r := ctR L k) (x := x) rng.2.2
  have vV : ctV L y k = ctS L y k / ctR L k - (-ctS L y k) / ctR L k := rfl
  rw [← vV] at vc
  have v1 := vc (-(R : Int))
  have v2 := vc (R : Int)
  rw [ct_S, T3_hit] at v1 v2
  have q1 := Int.mul_nonneg (show 0 ≤ (pt L (ctH L k)).2 - y by show 0 ≤ pY L (ctH L k) - y; omega) (show 0 ≤ (pt L (ctL L k)).1 - -(R : Int) by omega)
  have q2 := Int.mul_nonneg (show 0 ≤ y - (pt L (ctL L k)).2 by show 0 ≤ y - pY L (ctL L k); omega) (show 0 ≤ (pt L (ctH L k)).1 - -(R : Int) by omega)
  have q3 := Int.mul_nonpos_of_nonneg_of_nonpos (show 0 ≤ (pt L (ctH L k)).2 - y by show 0 ≤ pY L (ctH L k) - y; omega) (show (pt L (ctL L k)).1 - (R : Int) ≤ 0 by omega)
  have q4 := Int.mul_nonpos_of_nonneg_of_nonpos (show 0 ≤ y - (pt L (ctL L k)).2 by show 0 ≤ y - pY L (ctL L k); omega) (show (pt L (ctH L k)).1 - (R : Int) ≤ 0 by omega)
  generalize ctV L y k = V at *
  omega
theorem ceR_sum (h : Smp (-1) 100000 (pt L) L.length) (hv : inR 200 (pt L) L.length) (y : Int) : ceR L y = sumN (fun s => ic (wI L 1 ((s : Int) - (200 : Nat)) y = 1)) (2 * 200 + 1) := by
  have hb : ∀ i, i < L.length → (-1000 ≤ pX L i ∧ pX L i ≤ 1000) ∧ (-1000 ≤ pY L i ∧ pY L i ≤ 1000) := fun i hi => by
    have := hv i hi
    have t1 : -((200 : Nat) : Int) ≤ pX L i ∧ pX L i ≤ ((200 : Nat) : Int) := this.1
    have t2 : -((200 : Nat) : Int) ≤ pY L i ∧ pY L i ≤ ((200 : Nat) : Int) := this.2
    omega
  show cmN (cutN L y True L.length) (cutN L y False L.length) ((cutN L y True L.length).length / 2) = _
  rw [cmN_sum (R := 200) (srtw_cut L y True L.length) (srtw_cut L y False L.length) (cut_bd hv (Or.inl rfl)) (cut_bd hv (Or.inr rfl))]
  refine sumN_cg _ fun k hk => ?_
  have r := row_in (x := (k : Int) - (200 : Nat)) (y := y) h hb (by omega)
  by_cases c : wI L 1 ((k : Int) - (200 : Nat)) y = 1
  · rw [ic_t c, ic_t (r.mpr c)]
  · rw [ic_f c, ic_f (fun w => c (r.mp w))]
theorem no_in (h : (∀ i, i < L.length → pY L i < y) ∨ ∀ i, i < L.length → y < pY L i) : ¬ wI L 1 x y = 1 := fun g => by
  have no : ¬ oddN (eTog L 1 x y) L.length := odd_none _ fun i hi w => by
    have h1 : (pY L i < y ∧ pY L (nxt L.length i) < y) ∨ (y < pY L i ∧ y < pY L (nxt L.length i)) := by
      rcases h with h | h
      · exact Or.inl ⟨h i hi, h _ (nxt_lt hi)⟩
      · exact Or.inr ⟨h i hi, h _ (nxt_lt hi)⟩
    rcases eTog_1.mp w with ⟨w, _⟩ | ⟨w, _⟩
    · have := w.1
      have := w.2
      omega
    · have := w.1
      have := w.2
      omega
  by_cases c : ∃ i, i < L.length ∧ eOn L 1 x y i
  · obtain ⟨i, hi, w⟩ := c
    rw [wI_0 hi w] at g
    exact absurd g (by decide)
  · rw [(wI_e (fun i hi w => c ⟨i, hi, w⟩)).2 no] at g
    exact absurd g (by decide)
theorem cens (h : Smp (-1) 100000 (pt L) L.length) (hv : inR 200 (pt L) L.length) : ceS L (ceN L) = bx 200 (fun x y => ic (wI L 1 x y = 1)) := by
  have h3 := h.1
  obtain ⟨m, hm⟩ : ∃ m, L.length = m + 1 := ⟨L.length - 1, by omega⟩
  have s2 := bnd_spec L 2 m
  have s3 := bnd_spec L 3 m
  rw [← hm] at s2 s3
  obtain ⟨⟨i2, hi2, e2⟩, l2⟩ := s2
  obtain ⟨⟨i3, hi3, e3⟩, l3⟩ := s3
  have b2 := (hv i2 hi2).2
  have b3 := (hv i3 hi3).2
  have e2 : pY L i2 = bnd L 2 L.length := e2
  have e3 : pY L i3 = bnd L 3 L.length := e3
  have b2 : -((200 : Nat) : Int) ≤ pY L i2 ∧ pY L i2 ≤ ((200 : Nat) : Int) := b2
  have b3 : -((200 : Nat) : Int) ≤ pY L i3 ∧ pY L i3 ≤ ((200 : Nat) : Int) := b3
  have l2 : ∀ i, i < L.length → ¬ pY L i < bnd L 2 L.length := fun i hi => l2 i hi
  have l3 : ∀ i, i < L.length → ¬ bnd L 3 L.length < pY L i := fun i hi => l3 i hi
  have l23 := l2 i3 hi3
  have cN : ((ceN L : Nat) : Int) = bnd L 3 L.length - bnd L 2 L.length + 1 := by
    show (((bnd L 3 L.length - bnd L 2 L.length + 1).toNat : Nat) : Int) = _
    omega
  have w := win (R := 200) (fun y => sumN (fun s => ic (wI L 1 ((s : Int) - (200 : Nat)) y = 1)) (2 * 200 + 1)) (lo := bnd L 2 L.length) (L := ceN L) (by omega) (by omega) (fun y hy => sumN_z _ fun s _ => ic_f (no_in (by
    rcases hy with hy | hy
    · exact Or.inr fun i hi => by
        have := l2 i hi
        omega
    · exact Or.inl fun i hi => by
        have := l3 i hi
        omega)))
  show sumN (fun t => ceR L (bnd L 2 L.length + t)) (ceN L) = _
  rw [sumN_cg _ fun t _ => ceR_sum h hv (bnd L 2 L.length + (t : Int)), ← w]
  rfl
theorem q_nf (h : closes L) (hb : okP L) (hl : L.length ≤ 16) : okS L ∧ noFault L := by
  obtain ⟨h1, h2⟩ := Smp_P h hb
  refine ⟨okS_of hb, ?_, q_parD h hb hl⟩
  have p := (pick_abs (R := 200) (by decide) h1 h2).1
  rw [cens h1 h2]
  omega
end ERRS

