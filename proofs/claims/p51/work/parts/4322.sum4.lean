/-! The sum's figure is the reference's -/
theorem mem_smI {P : PL} {a b1 : Int} {p : Nat} {e : Int × Int × Int} : ∀ n, e ∈ smI P a b1 p n ↔ ∃ i, i < n ∧ (pM P p = a ∧ pM P i = b1) ∧ e = (pX P p + pX P i, pY P p + pY P i, 0)
  | 0 => ⟨fun h => absurd h (List.not_mem_nil), fun ⟨i, hi, _⟩ => absurd hi (Nat.not_lt_zero _)⟩
  | n + 1 => by
    have ih := mem_smI (P := P) (a := a) (b1 := b1) (p := p) (e := e) n
    unfold smI
    by_cases c : pM P p = a ∧ pM P n = b1
    · rw [if_pos c, List.mem_append, List.mem_singleton, ih]
      constructor
      · rintro (⟨i, hi, h1, h2⟩ | h)
        · exact ⟨i, by omega, h1, h2⟩
        · exact ⟨n, by omega, c, h⟩
      · rintro ⟨i, hi, h1, h2⟩
        by_cases e1 : i = n
        · rw [e1] at h2
          exact Or.inr h2
        · exact Or.inl ⟨i, by omega, h1, h2⟩
    · rw [if_neg c, ih]
      constructor
      · rintro ⟨i, hi, h1, h2⟩
        exact ⟨i, by omega, h1, h2⟩
      · rintro ⟨i, hi, h1, h2⟩
        have e1 : i ≠ n := fun e1 => c (e1 ▸ h1)
        exact ⟨i, by omega, h1, h2⟩
theorem mem_smO {P : PL} {a b1 : Int} {e : Int × Int × Int} : ∀ n, e ∈ smO P a b1 n ↔ ∃ p, p < n ∧ ∃ i, i < P.length ∧ (pM P p = a ∧ pM P i = b1) ∧ e = (pX P p + pX P i, pY P p + pY P i, 0)
  | 0 => ⟨fun h => absurd h (List.not_mem_nil), fun ⟨i, hi, _⟩ => absurd hi (Nat.not_lt_zero _)⟩
  | n + 1 => by
    have ih := mem_smO (P := P) (a := a) (b1 := b1) (e := e) n
    unfold smO
    rw [List.mem_append, ih, mem_smI]
    constructor
    · rintro (⟨p, hp, w⟩ | w)
      · exact ⟨p, by omega, w⟩
      · exact ⟨n, by omega, w⟩
    · rintro ⟨p, hp, w⟩
      by_cases e1 : p = n
      · rw [e1] at w
        exact Or.inr w
      · exact Or.inl ⟨p, by omega, w⟩
theorem pq_smO {P : PL} {a b1 : Int} {q : Pt} : pq (smO P a b1 P.length) (smO P a b1 P.length).length q ↔ ∃ p r, hp P a p ∧ hp P b1 r ∧ q = ad p r := by
  rw [pq_mem]
  constructor
  · rintro ⟨e, he, rfl⟩
    obtain ⟨p, h1, i, h2, ⟨h3, h4⟩, rfl⟩ := (mem_smO P.length).mp he
    exact ⟨pt P p, pt P i, ⟨p, h1, h3, rfl⟩, ⟨i, h2, h4, rfl⟩, rfl⟩
  · rintro ⟨_, _, ⟨p, h1, h3, rfl⟩, ⟨i, h2, h4, rfl⟩, rfl⟩
    exact ⟨_, (mem_smO P.length).mpr ⟨p, h1, i, h2, ⟨h3, h4⟩, rfl⟩, rfl⟩
theorem two_Dc {A B : Int} {D D' : Pt → Prop} {H : PL} {k : Nat} (h : two A B D H k) (e : ∀ q, D' q ↔ D q) : two A B D' H k := ⟨h.1, h.2.1, chn_D h.2.2.1 e, chn_D h.2.2.2.1 e, h.2.2.2.2⟩
/-- a heap's figure, with its turning place and its room -/
theorem hp_two {P : PL} (hP : g3P P) {a : Int} (hc : cntN P a P.length ≠ 0) : ∃ H k, wrapN 61 (putN P a [] P.length) = shut H ∧ two 100000 1 (hp P a) H k ∧ H.length ≤ 61 ∧ H.length - 1 ≤ cntN P a P.length := by
  have hlen : (putN P a [] P.length).length = cntN P a P.length := (putN_len P a [] P.length).trans (Nat.zero_add _)
  have hle := cntN_le P a P.length
  have hl := hP.1
  obtain ⟨H, k, e, t, hH⟩ := wrap_two (srtw_putN srtw_nil P.length) (okS_pq fun q hq => hp_bp hP.2 (pq_put0.mp hq)) (by omega) (by omega : (putN P a [] P.length).length ≤ 60)
  refine ⟨H, k, e, two_Dc t (fun q => pq_put0.symm), hH, ?_⟩
  rw [← hlen]
  exact pig (f := pt H) (g := pt (putN P a [] P.length)) (fun i j hij hj => two_dif t i j hij (by omega)) (fun i hi => two_D t (j := i) (by omega))
theorem hp_b2 {P : PL} (h : okP P) {a : Int} {q : Pt} (hq : hp P a q) : (-200 ≤ q.1 ∧ q.1 ≤ 200) ∧ (-200 ≤ q.2 ∧ q.2 ≤ 200) := by
  obtain ⟨i, hi, _, rfl⟩ := hq
  have := h i hi
  exact ⟨this.1, this.2.1⟩
theorem sm_hul {P : PL} (hP : g3P P) {a b1 : Int} (hc : fl2 P a b1) : hul (fun q => ∃ p r, hp P a p ∧ hp P b1 r ∧ q = ad p r) (smL P a b1) ∧ cvx (smL P a b1) ∧ (smL P a b1).length ≤ 60 := by
  obtain ⟨HA, kA, eA, tA, lA, cA⟩ := hp_two hP hc.1
  obtain ⟨HB, kB, eB, tB, lB, cB⟩ := hp_two hP hc.2
  have hl := hP.1
  have fin : ∀ H k, smL P a b1 = shut H → two 100000 1 (fun q => ∃ p r, hp P a p ∧ hp P b1 r ∧ q = ad p r) H k → H.length ≤ 61 → hul (fun q => ∃ p r, hp P a p ∧ hp P b1 r ∧ q = ad p r) (smL P a b1) ∧ cvx (smL P a b1) ∧ (smL P a b1).length ≤ 60 := fun H k e t hH => by
    have hd : ∀ q, (∃ p r, hp P a p ∧ hp P b1 r ∧ q = ad p r) → bp q := fun q ⟨p, r, h1, h2, h3⟩ => by
      have x1 := hp_b2 hP.2 h1
      have x2 := hp_b2 hP.2 h2
      rw [h3]
      show (-400 ≤ p.1 + r.1 ∧ p.1 + r.1 ≤ 400) ∧ (-400 ≤ p.2 + r.2 ∧ p.2 + r.2 ≤ 400)
      omega
    have w := two_hul t (fun p q hp hq e => lv_inj (hd p hp) (hd q hq) e)
    have n2 := fig_two t
    rw [← e] at w
    have hlen : (smL P a b1).length ≤ 60 := by
      rw [e]
      unfold shut
      split
      · rw [List.length_dropLast]
        omega
      · omega
    exact ⟨w.1, cvx_of w.1 hd w.2 (by omega), hlen⟩
  by_cases c : a = b1
  · subst c
    obtain ⟨H, k, e, t, hH⟩ := sum_two tA tA (fun q hq => hp_bp hP.2 hq) (fun q hq => hp_bp hP.2 hq) (Or.inr ⟨rfl, lA⟩)
    refine fin H k ?_ t hH
    rw [← e, ← eA]
  · have := cntN_two P c P.length
    obtain ⟨H, k, e, t, hH⟩ := sum_two tA tB (fun q hq => hp_bp hP.2 hq) (fun q hq => hp_bp hP.2 hq) (Or.inl (by omega))
    refine fin H k ?_ t hH
    rw [← e, ← eA, ← eB]
theorem q_sum {P : PL} (hP : g3P P) (a b1 : Int) (hc : fl2 P a b1) : gwH (smO P a b1 P.length) (smL P a b1) := by
  have w := sm_hul hP hc
  refine gwH_of w.1 (fun q => pq_smO) (fun q ⟨p, r, h1, h2, h3⟩ => ?_) (by omega)
  have x1 := hp_b2 hP.2 h1
  have x2 := hp_b2 hP.2 h2
  rw [h3]
  show (-400 ≤ p.1 + r.1 ∧ p.1 + r.1 ≤ 400) ∧ (-400 ≤ p.2 + r.2 ∧ p.2 + r.2 ≤ 400)
  omega

