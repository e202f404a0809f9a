/-! Layers: what is peeled off -/
noncomputable def kp (H : PL) (e : Int × Int × Int) : Bool := decide (¬ wI H 1 e.1 e.2.1 ≤ 0)
theorem srtw_pw {L : PL} : srtw L ↔ L.Pairwise lxw := by
  rw [List.pairwise_iff_getElem]
  constructor
  · intro h i j hi hj hij
    have := h i j hij hj
    rw [List.getD_eq_getElem?_getD, List.getD_eq_getElem?_getD, List.getElem?_eq_getElem hi, List.getElem?_eq_getElem hj] at this
    exact this
  · intro h i j hij hj
    have := h i j (by omega) hj hij
    rw [List.getD_eq_getElem?_getD, List.getD_eq_getElem?_getD, List.getElem?_eq_getElem (show i < L.length by omega), List.getElem?_eq_getElem hj]
    exact this
section LAYERS
variable {H W L : PL} {P : PL} {a : Int}
theorem peel_eq : ∀ (i : Nat) (P : PL), i ≤ P.length → peelN H i P = (P.take i).filter (kp H) ++ P.drop i
  | 0, P, _ => by
    unfold peelN
    simp
  | i + 1, P, hi => by
    have e1 : P.drop i = P[i] :: P.drop (i + 1) := List.drop_eq_getElem_cons (by omega)
    have e2 : P.take (i + 1) = P.take i ++ [P[i]] := (List.take_append_getElem (by omega)).symm
    have ex : pX P i = P[i].1 := by
      unfold pX
      rw [List.getD_eq_getElem?_getD, List.getElem?_eq_getElem (by omega)]
      rfl
    have ey : pY P i = P[i].2.1 := by
      unfold pY
      rw [List.getD_eq_getElem?_getD, List.getElem?_eq_getElem (by omega)]
      rfl
    unfold peelN
    rw [ex, ey, e2, List.filter_append]
    by_cases c : wI H 1 P[i].1 P[i].2.1 ≤ 0
    · have hl : (P.take i).length = i := by rw [List.length_take]; omega
      rw [if_pos c, List.eraseIdx_eq_take_drop_succ, peel_eq i _ (by rw [List.length_append, hl]; omega), List.take_left' hl, List.drop_left' hl]
      have k : kp H P[i] = false := decide_eq_false (fun w => w c)
      rw [List.filter_cons_of_neg (by rw [k]; decide), List.filter_nil, List.append_nil]
    · rw [if_neg c, peel_eq i P (by omega), e1]
      have k : kp H P[i] = true := decide_eq_true c
      rw [List.filter_cons_of_pos k, List.filter_nil, List.append_assoc]
      rfl
theorem pl1_eq : pl1 L = L.filter (kp (wrapN 61 L)) := by
  unfold pl1
  rw [peel_eq _ _ (Nat.le_refl _), List.take_length, List.drop_length, List.append_nil]
noncomputable def stL (L : PL) : PL := if 0 < L.length then pl1 L else L
theorem lyR_st : ∀ (f : Nat) (L : PL), lyR (f + 1) L = stL (lyR f L)
  | 0, L => by
    unfold stL
    rfl
  | f + 1, L => by
    have e : ∀ n, lyR (n + 1) L = if 0 < L.length then lyR n (pl1 L) else L := fun _ => rfl
    rw [e (f + 1), e f]
    by_cases c : 0 < L.length
    · rw [if_pos c, if_pos c]
      exact lyR_st f (pl1 L)
    · rw [if_neg c, if_neg c]
      unfold stL
      rw [if_neg c]
theorem mem_plQ {lf : Nat → Prop} {e : Int × Int × Int} : ∀ n, e ∈ plQ P lf n ↔ ∃ i, i < n ∧ lf i ∧ e = (pX P i, pY P i, 0)
  | 0 => ⟨fun h => absurd h (List.not_mem_nil), fun ⟨i, hi, _⟩ => absurd hi (Nat.not_lt_zero _)⟩
  | n + 1 => by
    have ih := mem_plQ (lf := lf) (e := e) n
    unfold plQ
    by_cases c : lf n
    · rw [cif_t c, List.mem_append, List.mem_singleton, ih]
      constructor
      · rintro (⟨i, hi, h1, h2⟩ | h)
        · exact ⟨i, by omega, h1, h2⟩
        · exact ⟨n, by omega, c, h⟩
      · rintro ⟨i, hi, h1, h2⟩
        by_cases e1 : i = n
        · rw [e1] at h2
          exact Or.inr h2
        · exact Or.inl ⟨i, by omega, h1, h2⟩
    · rw [cif_f c, ih]
      constructor
      · rintro ⟨i, hi, h1, h2⟩
        exact ⟨i, by omega, h1, h2⟩
      · rintro ⟨i, hi, h1, h2⟩
        have e1 : i ≠ n := fun e1 => c (e1 ▸ h1)
        exact ⟨i, by omega, h1, h2⟩
theorem pq_lyQ {k : Nat} {q : Pt} : pq (lyQ P a k) (lyQ P a k).length q ↔ ∃ i, i < P.length ∧ lfN P a k i ∧ q = pt P i := by
  rw [pq_mem]
  constructor
  · rintro ⟨e, he, rfl⟩
    obtain ⟨i, h1, h2, rfl⟩ := (mem_plQ P.length).mp he
    exact ⟨i, h1, h2, rfl⟩
  · rintro ⟨i, h1, h2, rfl⟩
    exact ⟨_, (mem_plQ P.length).mpr ⟨i, h1, h2, rfl⟩, rfl⟩
theorem gwn_H {Q W : PL} (h : gwH Q W) : cEq (gwL Q (gwn Q)) W ∧ ∃ n, gwc Q n := by
  obtain ⟨n, h1, h2⟩ := h
  have := gwn_spec ⟨n, h1⟩
  rw [gwc_one this h1]
  exact ⟨h2, n, h1⟩
theorem sdI_0 {F W : PL} (h : cEq F W) {x y : Int} : sdI F x y = 0 ↔ ∃ i, i < W.length ∧ On (pt W i) (pt W (nxt W.length i)) (x, y) := by
  obtain ⟨hl, hk⟩ := h
  have e : (∃ i, i < F.length ∧ hOn F x y i) ↔ ∃ i, i < W.length ∧ On (pt W i) (pt W (nxt W.length i)) (x, y) := by
    have e2 : ∀ i, i < F.length → (hOn F x y i ↔ On (pt W i) (pt W (nxt W.length i)) (x, y)) := fun i hi => by
      unfold hOn
      have a1 := hk i hi
      have a2 := hk _ (nxt_lt hi)
      rw [a1.1, a1.2, a2.1, a2.2, hl]
      exact Iff.rfl
    rw [← hl]
    exact ⟨fun ⟨i, hi, w⟩ => ⟨i, hi, hl ▸ (e2 i hi).mp w⟩, fun ⟨i, hi, w⟩ => ⟨i, hi, (e2 i hi).mpr (hl ▸ w)⟩⟩
  rw [← e]
  unfold sdI
  by_cases c : ∃ i, i < F.length ∧ hOn F x y i
  · rw [cif_t c]
    exact ⟨fun _ => c, fun _ => rfl⟩
  · rw [cif_f c]
    refine ⟨fun w => ?_, fun w => absurd w c⟩
    split at w <;> omega
theorem pq_len {A B : PL} (h : ∀ q, pq A A.length q ↔ pq B B.length q) : A.length = 0 ↔ B.length = 0 := by
  constructor
  · intro e
    refine Classical.byContradiction fun c => ?_
    obtain ⟨k, hk, _⟩ := (h (pt B 0)).mpr ⟨0, by omega, rfl⟩
    omega
  · intro e
    refine Classical.byContradiction fun c => ?_
    obtain ⟨k, hk, _⟩ := (h (pt A 0)).mp ⟨0, by omega, rfl⟩
    omega
theorem On_l (a b : Pt) : On a b a := ⟨by omega, by omega, by omega, by omega, T3_ba a b⟩
/-- what is known of the layer k -/
def lyI (P : PL) (a : Int) (k : Nat) (L : PL) : Prop := srtw L ∧ (L.length = 0 ∨ L.length + k ≤ 60) ∧ (∀ q, pq L L.length q ↔ pq (lyQ P a k) (lyQ P a k).length q) ∧ ∀ q, pq L L.length q → bp q
theorem ly_hul {k : Nat} (h : lyI P a k L) (h0 : 0 < L.length) : hul (pq L L.length) (wrapN 61 L) ∧ cvx (wrapN 61 L) ∧ (wrapN 61 L).length ≤ 60 ∧ gwH (lyQ P a k) (wrapN 61 L) := by
  obtain ⟨h1, h2, h3, h4⟩ := h
  have w := wrap_hul h1 (okS_pq h4) h0 (by omega)
  exact ⟨w.1, w.2.1, w.2.2, gwH_of w.1 (fun q => (h3 q).symm) h4 (by omega)⟩
theorem lyI_step {k : Nat} (h : lyI P a k L) : lyI P a (k + 1) (stL L) := by
  have hh := h
  obtain ⟨h1, h2, h3, h4⟩ := h
  unfold stL
  by_cases c : 0 < L.length
  · rw [if_pos c, pl1_eq]
    obtain ⟨w1, w2, w3, w4⟩ := ly_hul hh c
    have g := gwn_H w4
    generalize wrapN 61 L = W at w1 w2 w3 w4 g
    have mem : ∀ q, pq (L.filter (kp W)) (L.filter (kp W)).length q ↔ pq L L.length q ∧ ¬ ∃ i, i < W.length ∧ On (pt W i) (pt W (nxt W.length i)) q := fun q => by
      rw [pq_mem, pq_mem]
      constructor
      · rintro ⟨e, he, rfl⟩
        rw [List.mem_filter] at he
        have k : ¬ wI W 1 e.1 e.2.1 ≤ 0 := of_decide_eq_true he.2
        exact ⟨⟨e, he.1, rfl⟩, fun c => k ((hul_wI w1 w2.2.2.1 (pq_mem.mpr ⟨e, he.1, rfl⟩)).mpr c)⟩
      · rintro ⟨⟨e, he, rfl⟩, c⟩
        refine ⟨e, List.mem_filter.mpr ⟨he, decide_eq_true fun k => c ?_⟩, rfl⟩
        exact (hul_wI w1 w2.2.2.1 (pq_mem.mpr ⟨e, he, rfl⟩)).mp k
    have hlt : (L.filter (kp W)).length < L.length := by
      rw [List.length_filter_lt_length_iff_exists]
      obtain ⟨e, he, ee⟩ := pq_mem.mp (w1.2.1 0 w1.1)
      refine ⟨e, he, fun k => ?_⟩
      have k : ¬ wI W 1 e.1 e.2.1 ≤ 0 := of_decide_eq_true k
      apply k
      refine (hul_wI w1 w2.2.2.1 (pq_mem.mpr ⟨e, he, rfl⟩)).mpr ⟨0, w1.1, ?_⟩
      rw [← ee]
      exact On_l _ _
    refine ⟨srtw_pw.mpr ((srtw_pw.mp h1).filter _), by omega, fun q => ?_, fun q hq => h4 q ((mem q).mp hq).1⟩
    rw [mem q, h3 q, pq_lyQ, pq_lyQ]
    constructor
    · rintro ⟨⟨i, i1, i2, rfl⟩, n⟩
      exact ⟨i, i1, ⟨i2, fun z => n ((sdI_0 g.1).mp z)⟩, rfl⟩
    · rintro ⟨i, i1, ⟨i2, n⟩, rfl⟩
      exact ⟨⟨i, i1, i2, rfl⟩, fun z => n ((sdI_0 g.1).mpr z)⟩
  · rw [if_neg c]
    have no : ∀ q, ¬ pq L L.length q := fun q ⟨k, hk, _⟩ => by omega
    refine ⟨h1, Or.inl (by omega), fun q => ⟨fun w => absurd w (no q), fun w => ?_⟩, h4⟩
    obtain ⟨i, i1, ⟨i2, _⟩, e⟩ := pq_lyQ.mp w
    exact absurd ((h3 q).mpr (pq_lyQ.mpr ⟨i, i1, i2, e⟩)) (no q)
theorem lyI_all (hP : g3P P) : ∀ k, lyI P a k (lyR k (putN P a [] P.length))
  | 0 => by
    have hlen : (putN P a [] P.length).length = cntN P a P.length := (putN_len P a [] P.length).trans (Nat.zero_add _)
    have hle := cntN_le P a P.length
    have hl := hP.1
    refine ⟨srtw_putN srtw_nil P.length, Or.inr ?_, fun q => ?_, fun q hq => hp_bp hP.2 (pq_put0.mp hq)⟩
    · show (putN P a [] P.length).length + 0 ≤ 60
      omega
    · rw [pq_lyQ]
      exact pq_put0
  | k + 1 => by
    rw [lyR_st]
    exact lyI_step (lyI_all hP k)
theorem lyR_stop {k : Nat} (h : (lyR k L).length = 0) : ∀ d, (lyR (k + d) L).length = 0
  | 0 => h
  | d + 1 => by
    have ih := lyR_stop h d
    rw [← Nat.add_assoc, lyR_st]
    unfold stL
    rw [if_neg (by omega)]
    exact ih
theorem lyC_spec : ∀ (f : Nat) (L : PL), lyC f L ≤ f ∧ (∀ k, k < lyC f L → 0 < (lyR k L).length) ∧ (lyC f L < f → (lyR (lyC f L) L).length = 0)
  | 0, L => ⟨Nat.le_refl _, fun k hk => absurd hk (Nat.not_lt_zero _), fun h => absurd h (Nat.lt_irrefl _)⟩
  | f + 1, L => by
    obtain ⟨h1, h2, h3⟩ := lyC_spec f (pl1 L)
    have e : ∀ n, lyR (n + 1) L = if 0 < L.length then lyR n (pl1 L) else L := fun _ => rfl
    have e2 : lyC (f + 1) L = if 0 < L.length then lyC f (pl1 L) + 1 else 0 := rfl
    rw [e2]
    by_cases c : 0 < L.length
    · rw [if_pos c]
      refine ⟨by omega, fun k hk => ?_, fun hk => ?_⟩
      · cases k with
        | zero => exact c
        | succ k =>
          rw [e, if_pos c]
          exact h2 k (by omega)
      · rw [e, if_pos c]
        exact h3 (by omega)
    · rw [if_neg c]
      refine ⟨by omega, fun k hk => absurd hk (Nat.not_lt_zero _), fun _ => ?_⟩
      show L.length = 0
      omega
theorem ly_60 (hP : g3P P) : (lyR 60 (putN P a [] P.length)).length = 0 := by
  have := (lyI_all (a := a) hP 60).2.1
  omega
theorem q_layerg (hP : g3P P) (k : Nat) : ∃ n, gwc (lyQ P a k) n := by
  have h := lyI_all (a := a) hP k
  by_cases c : 0 < (lyR k (putN P a [] P.length)).length
  · exact (gwn_H (ly_hul h c).2.2.2).2
  · have e := (pq_len h.2.2.1).mp (by omega)
    exact ⟨0, by omega, fun _ => rfl, fun w => by omega⟩
theorem q_layers (hP : g3P P) : lyS P a (lyC 60 (putN P a [] P.length)) := by
  obtain ⟨h1, h2, h3⟩ := lyC_spec 60 (putN P a [] P.length)
  refine ⟨h1, fun k hk e => ?_, ?_⟩
  · have := h2 k hk
    have := (pq_len (lyI_all (a := a) hP k).2.2.1).mpr e
    omega
  · refine (pq_len (lyI_all (a := a) hP _).2.2.1).mp ?_
    by_cases c : lyC 60 (putN P a [] P.length) < 60
    · exact h3 c
    · rw [show lyC 60 (putN P a [] P.length) = 60 by omega]
      exact ly_60 hP
theorem q_layer (hP : g3P P) (q : Nat) (hq : q < 60) : (lyT P a q ↔ (lyL P a q).length ≠ 0) ∧ ((lyL P a q).length ≠ 0 → cEq (lyH P a q) (wrapN 61 (lyL P a q))) := by
  have e : (min (q : Int) 60).toNat = q := by omega
  have el : lyL P a q = lyR q (putN P a [] P.length) := by
    unfold lyL
    rw [e]
  rw [el]
  have h := lyI_all (a := a) hP q
  refine ⟨⟨fun w c => w q (Nat.le_refl _) ((pq_len h.2.2.1).mp c), fun w k hk c => ?_⟩, fun w => (gwn_H (ly_hul h (by omega)).2.2.2).1⟩
  have z := (pq_len (lyI_all (a := a) hP k).2.2.1).mpr c
  have := lyR_stop z (q - k)
  rw [show k + (q - k) = q by omega] at this
  exact w this
theorem q_layer2 (hP : g3P P) (l : Int) (hl : 60 ≤ l) : (lyL P a l).length = 0 := by
  unfold lyL
  rw [show (min l 60).toNat = 60 by omega]
  exact ly_60 hP
theorem ly_cvx (hP : g3P P) (l : Int) (h : (lyL P a l).length ≠ 0) : cvx (wrapN 61 (lyL P a l)) :=
  (ly_hul (lyI_all (a := a) hP (min l 60).toNat) (Nat.pos_of_ne_zero h)).2.1
end LAYERS

