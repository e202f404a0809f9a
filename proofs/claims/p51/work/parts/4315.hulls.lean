/-! The hulls of heaps are the reference's -/
theorem pq_mem {L : PL} {q : Pt} : pq L L.length q ↔ ∃ e, e ∈ L ∧ q = (e.1, e.2.1) := by
  constructor
  · rintro ⟨k, hk, rfl⟩
    exact ⟨L.getD k d3, getD_mem hk, rfl⟩
  · rintro ⟨e, he, rfl⟩
    obtain ⟨k, hk, rfl⟩ := List.getElem_of_mem he
    refine ⟨k, hk, ?_⟩
    unfold pt pX pY
    simp [List.getD, hk]
theorem okS_pq {L : PL} (h : ∀ q, pq L L.length q → bp q) : okS L := fun i hi => h (pt L i) ⟨i, hi, rfl⟩
theorem mem_lhN {P : PL} {a : Int} {e : Int × Int × Int} : ∀ n, e ∈ lhN P a n ↔ ∃ i, i < n ∧ pM P i = a ∧ e = (pX P i, pY P i, 0)
  | 0 => ⟨fun h => absurd h (List.not_mem_nil), fun ⟨i, hi, _⟩ => absurd hi (Nat.not_lt_zero _)⟩
  | n + 1 => by
    have ih := mem_lhN (P := P) (a := a) (e := e) n
    unfold lhN
    by_cases c : pM P n = a
    · rw [if_pos c, List.mem_append, List.mem_singleton, ih]
      constructor
      · rintro (⟨i, hi, h1, h2⟩ | h)
        · exact ⟨i, by omega, h1, h2⟩
        · exact ⟨n, by omega, c, h⟩
      · rintro ⟨i, hi, h1, h2⟩
        by_cases e1 : i = n
        · rw [e1] at h2
          exact Or.inr h2
        · exact Or.inl ⟨i, by omega, h1, h2⟩
    · rw [if_neg c, ih]
      constructor
      · rintro ⟨i, hi, h1, h2⟩
        exact ⟨i, by omega, h1, h2⟩
      · rintro ⟨i, hi, h1, h2⟩
        have e1 : i ≠ n := fun e1 => c (e1 ▸ h1)
        exact ⟨i, by omega, h1, h2⟩
/-- the points of a heap -/
def hp (P : PL) (a : Int) (q : Pt) : Prop := ∃ i, i < P.length ∧ pM P i = a ∧ q = pt P i
theorem pq_putN {P : PL} {a : Int} {R : PL} {q : Pt} : pq (putN P a R P.length) (putN P a R P.length).length q ↔ pq R R.length q ∨ hp P a q := by
  rw [pq_mem, pq_mem]
  constructor
  · rintro ⟨e, he, rfl⟩
    rcases (mem_putN P.length).mp he with h | ⟨i, h1, h2, rfl⟩
    · exact Or.inl ⟨e, h, rfl⟩
    · exact Or.inr ⟨i, h1, h2, rfl⟩
  · rintro (⟨e, he, rfl⟩ | ⟨i, h1, h2, rfl⟩)
    · exact ⟨e, (mem_putN P.length).mpr (Or.inl he), rfl⟩
    · exact ⟨_, (mem_putN P.length).mpr (Or.inr ⟨i, h1, h2, rfl⟩), rfl⟩
theorem pq_nil {q : Pt} : ¬ pq [] ([] : PL).length q := fun ⟨_, hk, _⟩ => absurd hk (Nat.not_lt_zero _)
theorem pq_put0 {P : PL} {a : Int} {q : Pt} : pq (putN P a [] P.length) (putN P a [] P.length).length q ↔ hp P a q := by
  rw [pq_putN]
  exact ⟨fun h => h.elim (fun w => absurd w pq_nil) id, Or.inr⟩
theorem pq_lhN {P : PL} {a : Int} {q : Pt} : pq (lhN P a P.length) (lhN P a P.length).length q ↔ hp P a q := by
  rw [pq_mem]
  constructor
  · rintro ⟨e, he, rfl⟩
    obtain ⟨i, h1, h2, rfl⟩ := (mem_lhN P.length).mp he
    exact ⟨i, h1, h2, rfl⟩
  · rintro ⟨i, h1, h2, rfl⟩
    exact ⟨_, (mem_lhN P.length).mpr ⟨i, h1, h2, rfl⟩, rfl⟩
theorem pq_app {L M : PL} {q : Pt} : pq (L ++ M) (L ++ M).length q ↔ pq L L.length q ∨ pq M M.length q := by
  rw [pq_mem, pq_mem, pq_mem]
  constructor
  · rintro ⟨e, he, rfl⟩
    rcases List.mem_append.mp he with h | h
    · exact Or.inl ⟨e, h, rfl⟩
    · exact Or.inr ⟨e, h, rfl⟩
  · rintro (⟨e, he, rfl⟩ | ⟨e, he, rfl⟩)
    · exact ⟨e, List.mem_append.mpr (Or.inl he), rfl⟩
    · exact ⟨e, List.mem_append.mpr (Or.inr he), rfl⟩
theorem pq_jn {P : PL} {a b1 : Int} {q : Pt} : pq (jnL P a b1) (jnL P a b1).length q ↔ hp P a q ∨ hp P b1 q := by
  unfold jnL
  split
  · rename_i c
    rw [pq_put0, c]
    exact ⟨Or.inl, fun h => h.elim id id⟩
  · rw [pq_putN, pq_put0]
theorem hp_bp {P : PL} (h : okP P) {a : Int} {q : Pt} (hq : hp P a q) : bp q := by
  obtain ⟨i, hi, _, rfl⟩ := hq
  have := h i hi
  show (-400 ≤ pX P i ∧ pX P i ≤ 400) ∧ (-400 ≤ pY P i ∧ pY P i ≤ 400)
  omega
/-- what a figure is -/
def cvx (F : PL) : Prop := F.length ≤ 120 ∧ okS F ∧ edL F ∧ ∀ i j, i < j → j < F.length → pt F i ≠ pt F j
theorem cvx_of {D : Pt → Prop} {W : PL} (h : hul D W) (hd : ∀ q, D q → bp q) (he : edL W) (hl : W.length ≤ 120) : cvx W :=
  ⟨hl, fun i hi => hd _ (h.2.1 i hi), he, h.2.2.2.1⟩
theorem cvx_nil : cvx [] := ⟨Nat.zero_le _, fun i hi => absurd hi (Nat.not_lt_zero _), fun i hi => absurd hi (Nat.not_lt_zero _), fun i j _ hj => absurd hj (Nat.not_lt_zero _)⟩
theorem wrap_hul {P : PL} (hs : srtw P) (hb : okS P) (h0 : 0 < P.length) (hl : P.length ≤ 60) : hul (pq P P.length) (wrapN 61 P) ∧ cvx (wrapN 61 P) ∧ (wrapN 61 P).length ≤ 60 := by
  obtain ⟨H, k, e, t, hH⟩ := wrap_two hs hb h0 hl
  have hd : ∀ q, pq P P.length q → bp q := fun q hq => bp_pq hb (Nat.le_refl _) hq
  have w := two_hul t (fun p q hp hq e => lv_inj (hd p hp) (hd q hq) e)
  rw [← e] at w
  have hlen : (wrapN 61 P).length ≤ 60 := by
    rw [e]
    unfold shut
    split
    · rw [List.length_dropLast]
      omega
    · omega
  exact ⟨w.1, cvx_of w.1 hd w.2 (by omega), hlen⟩
theorem gwH_of {Q W : PL} {D : Pt → Prop} (h : hul D W) (e : ∀ q, pq Q Q.length q ↔ D q) (hd : ∀ q, D q → bp q) (hl : W.length ≤ 200) : gwH Q W :=
  ⟨W.length, gw_hul (hul_D h e) (okS_pq fun q hq => hd q ((e q).mp hq)) hl⟩
theorem srtw_nil : srtw [] := fun _ _ _ hj => absurd hj (Nat.not_lt_zero _)
theorem put_hul {P : PL} (hP : g3P P) {a : Int} (hc : cntN P a P.length ≠ 0) : hul (hp P a) (wrapN 61 (putN P a [] P.length)) ∧ cvx (wrapN 61 (putN P a [] P.length)) ∧ (wrapN 61 (putN P a [] P.length)).length ≤ 60 := by
  have hlen : (putN P a [] P.length).length = cntN P a P.length := (putN_len P a [] P.length).trans (Nat.zero_add _)
  have hle := cntN_le P a P.length
  have hl := hP.1
  have w := wrap_hul (srtw_putN srtw_nil P.length) (okS_pq fun q hq => hp_bp hP.2 (pq_put0.mp hq)) (by omega) (by omega : (putN P a [] P.length).length ≤ 60)
  exact ⟨hul_D w.1 (fun q => pq_put0.symm), w.2⟩
theorem jn_hul {P : PL} (hP : g3P P) {a b1 : Int} (hc : fl2 P a b1) : hul (fun q => hp P a q ∨ hp P b1 q) (wrapN 61 (jnL P a b1)) ∧ cvx (wrapN 61 (jnL P a b1)) ∧ (wrapN 61 (jnL P a b1)).length ≤ 60 := by
  have hl := hP.1
  have hlen : 0 < (jnL P a b1).length ∧ (jnL P a b1).length ≤ 60 := by
    have c1 := hc.1
    have c2 := hc.2
    have h1 := cntN_le P a P.length
    unfold jnL
    split
    · rw [putN_len]
      show 0 < 0 + _ ∧ 0 + _ ≤ 60
      omega
    · rename_i c
      have := cntN_two P c P.length
      rw [putN_len, putN_len]
      show 0 < 0 + _ + _ ∧ 0 + _ + _ ≤ 60
      omega
  have hs : srtw (jnL P a b1) := by
    unfold jnL
    split
    · exact srtw_putN srtw_nil P.length
    · exact srtw_putN (srtw_putN srtw_nil P.length) P.length
  have w := wrap_hul hs (okS_pq fun q hq => (pq_jn.mp hq).elim (hp_bp hP.2) (hp_bp hP.2)) hlen.1 hlen.2
  exact ⟨hul_D w.1 (fun q => pq_jn.symm), w.2⟩
theorem mem_hoN {L : PL} {e : Int × Int × Int} : ∀ n, e ∈ hoN L n ↔ ∃ i : Nat, i < n ∧ e = (pX L i, pY L i, (i : Int))
  | 0 => ⟨fun h => absurd h (List.not_mem_nil), fun ⟨i, hi, _⟩ => absurd hi (Nat.not_lt_zero _)⟩
  | n + 1 => by
    have ih := mem_hoN (L := L) (e := e) n
    unfold hoN
    rw [mem_insE, ih]
    constructor
    · rintro (h | ⟨i, hi, h2⟩)
      · exact ⟨n, by omega, h⟩
      · exact ⟨i, by omega, h2⟩
    · rintro ⟨i, hi, h2⟩
      by_cases e1 : i = n
      · rw [e1] at h2
        exact Or.inl h2
      · exact Or.inr ⟨i, by omega, h2⟩
theorem srtw_hoN (L : PL) : ∀ n, srtw (hoN L n)
  | 0 => srtw_nil
  | n + 1 => srtw_ins (srtw_hoN L n)
theorem mem_hcN {L : PL} {e : Int × Int × Int} : ∀ n, e ∈ hcN L n ↔ ∃ i, i < n ∧ e = (pX L i, pY L i, 0)
  | 0 => ⟨fun h => absurd h (List.not_mem_nil), fun ⟨i, hi, _⟩ => absurd hi (Nat.not_lt_zero _)⟩
  | n + 1 => by
    have ih := mem_hcN (L := L) (e := e) n
    unfold hcN
    rw [List.mem_append, List.mem_singleton, ih]
    constructor
    · rintro (⟨i, hi, h2⟩ | h)
      · exact ⟨i, by omega, h2⟩
      · exact ⟨n, by omega, h⟩
    · rintro ⟨i, hi, h2⟩
      by_cases e1 : i = n
      · rw [e1] at h2
        exact Or.inr h2
      · exact Or.inl ⟨i, by omega, h2⟩
theorem pq_hoN {L : PL} {q : Pt} : pq (hoL L) (hoL L).length q ↔ pq L L.length q := by
  rw [pq_mem]
  constructor
  · rintro ⟨e, he, rfl⟩
    obtain ⟨i, hi, rfl⟩ := (mem_hoN L.length).mp he
    exact ⟨i, hi, rfl⟩
  · rintro ⟨i, hi, rfl⟩
    exact ⟨_, (mem_hoN L.length).mpr ⟨i, hi, rfl⟩, rfl⟩
theorem pq_hcN {L : PL} {q : Pt} : pq (hcN L L.length) (hcN L L.length).length q ↔ pq L L.length q := by
  rw [pq_mem]
  constructor
  · rintro ⟨e, he, rfl⟩
    obtain ⟨i, hi, rfl⟩ := (mem_hcN L.length).mp he
    exact ⟨i, hi, rfl⟩
  · rintro ⟨i, hi, rfl⟩
    exact ⟨_, (mem_hcN L.length).mpr ⟨i, hi, rfl⟩, rfl⟩
theorem okS_of {L : PL} (h : okP L) : okS L := fun i hi => by
  have := h i hi
  omega
theorem ho_hul {L : PL} (h : okP L) (h0 : L.length ≠ 0) (hl : L.length ≤ 60) : hul (pq L L.length) (wrapN 61 (hoL L)) ∧ cvx (wrapN 61 (hoL L)) ∧ (wrapN 61 (hoL L)).length ≤ 60 := by
  have e := hoN_len L L.length
  have hb : ∀ q, pq L L.length q → bp q := fun q hq => bp_pq (okS_of h) (Nat.le_refl _) hq
  have w := wrap_hul (srtw_hoN L L.length) (okS_pq fun q hq => hb q (pq_hoN.mp hq)) (by omega) (by omega)
  exact ⟨hul_D w.1 (fun q => pq_hoN.symm), w.2⟩
theorem q_hull {P : PL} (hP : g3P P) (a : Int) (hc : cntN P a P.length ≠ 0) : gwH (lhN P a P.length) (wrapN 61 (putN P a [] P.length)) := by
  have w := put_hul hP hc
  exact gwH_of w.1 (fun q => pq_lhN) (fun q hq => hp_bp hP.2 hq) (by omega)
theorem q_join {P : PL} (hP : g3P P) (a b1 : Int) (hc : fl2 P a b1) : gwH (lhN P a P.length ++ lhN P b1 P.length) (wrapN 61 (jnL P a b1)) := by
  have w := jn_hul hP hc
  exact gwH_of w.1 (fun q => by rw [pq_app, pq_lhN, pq_lhN]) (fun q hq => hq.elim (hp_bp hP.2) (hp_bp hP.2)) (by omega)
theorem q_hullOf {L : PL} (h : okP L) (h0 : L.length ≠ 0) (hl : L.length ≤ 60) : gwH (hcN L L.length) (wrapN 61 (hoL L)) := by
  have w := ho_hul h h0 hl
  exact gwH_of w.1 (fun q => pq_hcN) (fun q hq => bp_pq (okS_of h) (Nat.le_refl _) hq) (by omega)
theorem q_sumh {P : PL} (hP : g3P P) (v : Int) (hc : cntN P v P.length ≠ 0) : okH (wrapN 61 (putN P v [] P.length)) ∧ 0 < (wrapN 61 (putN P v [] P.length)).length := by
  have w := put_hul hP hc
  refine ⟨fun i hi => ?_, w.1.1⟩
  have := hp_bp hP.2 (w.1.2.1 i hi)
  have t : (-400 ≤ pX (wrapN 61 (putN P v [] P.length)) i ∧ pX (wrapN 61 (putN P v [] P.length)) i ≤ 400) ∧ (-400 ≤ pY (wrapN 61 (putN P v [] P.length)) i ∧ pY (wrapN 61 (putN P v [] P.length)) i ≤ 400) := this
  omega

