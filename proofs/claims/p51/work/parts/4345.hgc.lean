/-! Simple, and apart: both ways to look are one -/
section HGC
variable {L A B : PL} {n i j k o : Nat}
theorem tou_M {a b c d : Pt} : tou a.1 a.2 b.1 b.2 c.1 c.2 d.1 d.2 ↔ Mt a b c d := by
  unfold tou pas Mt On T3
  exact or_comm
theorem tou_L : tou (pX A k) (pY A k) (nX A k) (nY A k) (pX B o) (pY B o) (nX B o) (nY B o) ↔ Mt (pt A k) (pt A (nxt A.length k)) (pt B o) (pt B (nxt B.length o)) := by
  rw [← tou_M]
  exact Iff.rfl
theorem q_hgc (L : PL) : gdM L ↔ closes L := by
  constructor
  · rintro ⟨h3, h⟩
    refine ⟨h3, fun i hi => ⟨fun f => ?_, fun j hij hj c => ?_⟩⟩
    · have f := fold_F.mp f
      by_cases c : i = 0
      · subst c
        rw [prv_0, nxt_0 (by omega)] at f
        have b := h (L.length - 1) (by omega) 0 (by omega)
        refine b (Or.inr (Or.inr (Or.inl ⟨⟨rfl, rfl⟩, ?_⟩)))
        have e0 : nxt L.length 0 = 1 := nxt_0 (by omega)
        have e1 : nxt L.length (L.length - 1) = 0 := nxt_l (by omega)
        unfold nX nY
        rw [e0, e1]
        exact f
      · obtain ⟨m, rfl⟩ : ∃ m, i = m + 1 := ⟨i - 1, by omega⟩
        have b := h (m + 1) hi m (by omega)
        refine b (Or.inr (Or.inl ⟨rfl, ?_⟩))
        rw [prv_e] at f
        have e0 : nxt L.length m = m + 1 := nxt_e hi
        unfold nX nY
        rw [e0]
        exact f.symm
    · obtain ⟨n1, n2, m⟩ := c
      have m := meet_M.mp m
      have b := h j hj i hij
      rw [nxt_e (by omega)] at n1
      refine b (Or.inr (Or.inr (Or.inr ⟨Ne.symm n1, fun q => n2 ?_, ?_⟩)))
      · rw [q.2, q.1]
        exact nxt_l (by omega)
      · exact tou_L.mpr (Mt_tw m)
  · rintro ⟨h3, h⟩
    have fo : ∀ i, i < L.length → ¬ Fdb (pt L (prv L.length i)) (pt L i) (pt L (nxt L.length i)) := fun i hi w => (h i hi).1 (fold_F.mpr w)
    have cr : ∀ i j, i < j → j < L.length → nxt L.length i ≠ j → nxt L.length j ≠ i → ¬ Mt (pt L i) (pt L (nxt L.length i)) (pt L j) (pt L (nxt L.length j)) := fun i j hij hj e2 e3 m => by
      have m3 := meet_M.mpr m
      exact (h i (by omega)).2 j hij hj ⟨e2, e3, m3⟩
    refine ⟨h3, fun k hk o ho b => ?_⟩
    rcases b with b | ⟨e, b⟩ | ⟨⟨e1, e2⟩, b⟩ | ⟨e1, e2, b⟩
    · have ep : pt L o = pt L k := pt_eq b.1.symm b.2.symm
      by_cases c1 : nxt L.length o = k
      · refine fo o (by omega) (Or.inr ?_)
        rw [c1, ← ep]
        exact On_sym (On_l _ _)
      · by_cases c2 : nxt L.length k = o
        · refine fo k hk (Or.inr ?_)
          rw [c2, ep]
          exact On_sym (On_l _ _)
        · refine cr o k ho hk c1 c2 (Or.inr (Or.inl ?_))
          rw [← ep]
          exact On_l _ _
    · subst e
      have f := fo (o + 1) hk
      rw [prv_e] at f
      have e0 : nxt L.length o = o + 1 := nxt_e hk
      unfold nX nY at b
      rw [e0] at b
      exact f b.symm
    · subst e1
      have f := fo 0 (by omega)
      rw [prv_0, nxt_0 (by omega)] at f
      have e0 : nxt L.length 0 = 1 := nxt_0 (by omega)
      have e3 : nxt L.length k = 0 := nxt_l (by omega)
      unfold nX nY at b
      rw [e0, e3, e2] at b
      exact f b
    · have m := tou_L.mp b
      refine cr o k ho hk ?_ ?_ (Mt_tw m)
      · rw [nxt_e (by omega)]
        exact Ne.symm e1
      · intro q
        unfold nxt at q
        split at q
        · omega
        · exact e2 ⟨q.symm, by omega⟩
theorem isI_C {F H : PL} (h0 : H.length ≠ 0) (he : edL H) : isI F H ↔ hasC F H := by
  have e : ∀ k, sdI H (pX F k) (pY F k) = wI H 1 (pX F k) (pY F k) := fun k => by
    rw [← sd_wI he, if_neg h0]
  unfold isI hasC
  constructor
  · rintro ⟨k, hk, w⟩
    rw [e] at w
    exact ⟨k, hk, w⟩
  · rintro ⟨k, hk, w⟩
    rw [← e] at w
    exact ⟨k, hk, w⟩
theorem q_apart {P : PL} (hP : g3P P) (a b1 : Int) (hc : fl2 P a b1) : apM (wrapN 61 (putN P a [] P.length)) (wrapN 61 (putN P b1 [] P.length)) ↔ ¬ tch (wrapN 61 (putN P a [] P.length)) (wrapN 61 (putN P b1 [] P.length)) := by
  have w1 := put_hul hP hc.1
  have w2 := put_hul hP hc.2
  generalize wrapN 61 (putN P a [] P.length) = W1 at *
  generalize wrapN 61 (putN P b1 [] P.length) = W2 at *
  have i1 := isI_C (F := W1) (H := W2) (by have := w2.1.1; omega) w2.2.1.2.2.1
  have i2 := isI_C (F := W2) (H := W1) (by have := w1.1.1; omega) w1.2.1.2.2.1
  unfold apM tch
  rw [i1, i2]
  constructor
  · rintro ⟨h1, h2, h3⟩ (w | w | ⟨i, hi, j, hj, w⟩)
    · exact h1 w
    · exact h2 w
    · exact h3 i hi j hj (tou_L.mpr (meet_M.mp w))
  · intro h
    exact ⟨fun w => h (Or.inl w), fun w => h (Or.inr (Or.inl w)), fun i hi j hj w => h (Or.inr (Or.inr ⟨i, hi, j, hj, meet_M.mpr (tou_L.mp w)⟩))⟩
end HGC

