/-! The mathematics of the law's checks: apart by the difference's hull -/
section MAPF
variable {P Q R A B : PL} {a b1 v : Int} {q : Pt} {i j n : Nat}
theorem mem_ptA {e : Int × Int × Int} : ∀ n, e ∈ ptA P a n ↔ ∃ i, i < n ∧ pM P i = a ∧ e = (pX P i, pY P i, 0)
  | 0 => ⟨fun h => absurd h List.not_mem_nil, fun ⟨i, hi, _⟩ => absurd hi (Nat.not_lt_zero i)⟩
  | n + 1 => by
    have ih := mem_ptA (e := e) n
    unfold ptA
    by_cases c : pM P n = a
    · rw [if_pos c, List.mem_append, ih, List.mem_singleton]
      constructor
      · rintro (⟨i, h1, h2, h3⟩ | w)
        · exact ⟨i, by omega, h2, h3⟩
        · exact ⟨n, by omega, c, w⟩
      · rintro ⟨i, h1, h2, h3⟩
        by_cases g : i = n
        · subst g
          exact Or.inr h3
        · exact Or.inl ⟨i, by omega, h2, h3⟩
    · rw [if_neg c, ih]
      constructor
      · rintro ⟨i, h1, h2, h3⟩
        exact ⟨i, by omega, h2, h3⟩
      · rintro ⟨i, h1, h2, h3⟩
        by_cases g : i = n
        · subst g
          exact absurd h2 c
        · exact ⟨i, by omega, h2, h3⟩
theorem mem_ptB {e : Int × Int × Int} : ∀ n, e ∈ ptB P b1 R n ↔ e ∈ R ∨ ∃ i, i < n ∧ pM P i = b1 ∧ e = (-pX P i, -pY P i, 1)
  | 0 => ⟨fun h => Or.inl h, fun h => h.elim id fun ⟨i, hi, _⟩ => absurd hi (Nat.not_lt_zero i)⟩
  | n + 1 => by
    have ih := mem_ptB (e := e) n
    unfold ptB
    by_cases c : pM P n = b1
    · rw [if_pos c, List.mem_append, ih, List.mem_singleton]
      constructor
      · rintro ((w | ⟨i, h1, h2, h3⟩) | w)
        · exact Or.inl w
        · exact Or.inr ⟨i, by omega, h2, h3⟩
        · exact Or.inr ⟨n, by omega, c, w⟩
      · rintro (w | ⟨i, h1, h2, h3⟩)
        · exact Or.inl (Or.inl w)
        · by_cases g : i = n
          · subst g
            exact Or.inr h3
          · exact Or.inl (Or.inr ⟨i, by omega, h2, h3⟩)
    · rw [if_neg c, ih]
      constructor
      · rintro (w | ⟨i, h1, h2, h3⟩)
        · exact Or.inl w
        · exact Or.inr ⟨i, by omega, h2, h3⟩
      · rintro (w | ⟨i, h1, h2, h3⟩)
        · exact Or.inl w
        · by_cases g : i = n
          · subst g
            exact absurd h2 c
          · exact Or.inr ⟨i, by omega, h2, h3⟩
theorem hp_mem : hp Q v q ↔ ∃ e, e ∈ Q ∧ e.2.2 = v ∧ q = (e.1, e.2.1) := by
  constructor
  · rintro ⟨i, h1, h2, h3⟩
    exact ⟨Q.getD i d3, getD_mem h1, h2, h3⟩
  · rintro ⟨e, h1, h2, h3⟩
    obtain ⟨k, hk, ek⟩ := List.mem_iff_getElem.mp h1
    have ek' : Q.getD k d3 = e := by
      rw [List.getD_eq_getElem?_getD, List.getElem?_eq_getElem hk]
      exact ek
    refine ⟨k, hk, ?_, ?_⟩
    · show (Q.getD k d3).2.2 = v
      rw [ek']
      exact h2
    · show q = ((Q.getD k d3).1, (Q.getD k d3).2.1)
      rw [ek']
      exact h3
theorem mem_ptQ {e : Int × Int × Int} : e ∈ ptQ P a b1 ↔ (∃ i, i < P.length ∧ pM P i = a ∧ e = (pX P i, pY P i, 0)) ∨ ∃ i, i < P.length ∧ pM P i = b1 ∧ e = (-pX P i, -pY P i, 1) := by
  show e ∈ ptB P b1 (ptA P a P.length) P.length ↔ _
  rw [mem_ptB, mem_ptA]
theorem hpQ0 : hp (ptQ P a b1) 0 q ↔ hp P a q := by
  rw [hp_mem]
  constructor
  · rintro ⟨e, h1, h2, h3⟩
    rcases mem_ptQ.mp h1 with ⟨i, g1, g2, g3⟩ | ⟨i, g1, g2, g3⟩
    · subst g3
      exact ⟨i, g1, g2, h3⟩
    · subst g3
      exact absurd h2 (show ¬ (1 : Int) = 0 by decide)
  · rintro ⟨i, h1, h2, h3⟩
    exact ⟨_, mem_ptQ.mpr (Or.inl ⟨i, h1, h2, rfl⟩), rfl, h3⟩
theorem hpQ1 : hp (ptQ P a b1) 1 q ↔ hp P b1 (np q) := by
  rw [hp_mem]
  constructor
  · rintro ⟨e, h1, h2, h3⟩
    rcases mem_ptQ.mp h1 with ⟨i, g1, g2, g3⟩ | ⟨i, g1, g2, g3⟩
    · subst g3
      exact absurd h2 (show ¬ (0 : Int) = 1 by decide)
    · subst g3
      refine ⟨i, g1, g2, ?_⟩
      rw [h3]
      exact pt_eq (Int.neg_neg _) (Int.neg_neg _)
  · rintro ⟨i, h1, h2, h3⟩
    refine ⟨_, mem_ptQ.mpr (Or.inr ⟨i, h1, h2, rfl⟩), rfl, ?_⟩
    have e1 : -q.1 = pX P i := congrArg Prod.fst h3
    have e2 : -q.2 = pY P i := congrArg Prod.snd h3
    refine pt_eq ?_ ?_
    · show q.1 = -pX P i
      omega
    · show q.2 = -pY P i
      omega
theorem g3Q (hg : goodP P) : g3P (ptQ P a b1) := by
  refine ⟨?_, fun i hi => ?_⟩
  · have h1 := ptB_len P b1 (ptA P a P.length) P.length
    have h2 := ptA_len P a P.length
    have h3 := hg.1.2
    show (ptB P b1 (ptA P a P.length) P.length).length ≤ 60
    omega
  · have m := getD_mem hi
    have ex : pX (ptQ P a b1) i = ((ptQ P a b1).getD i d3).1 := rfl
    have ey : pY (ptQ P a b1) i = ((ptQ P a b1).getD i d3).2.1 := rfl
    have em : pM (ptQ P a b1) i = ((ptQ P a b1).getD i d3).2.2 := rfl
    rcases mem_ptQ.mp m with ⟨k, g1, g2, g3⟩ | ⟨k, g1, g2, g3⟩
    · have b := hg.2 k g1
      rw [g3] at ex ey em
      have ex' : pX (ptQ P a b1) i = pX P k := ex
      have ey' : pY (ptQ P a b1) i = pY P k := ey
      have em' : pM (ptQ P a b1) i = 0 := em
      omega
    · have b := hg.2 k g1
      rw [g3] at ex ey em
      have ex' : pX (ptQ P a b1) i = -pX P k := ex
      have ey' : pY (ptQ P a b1) i = -pY P k := ey
      have em' : pM (ptQ P a b1) i = 1 := em
      omega
theorem hp_cnt (h : hp P a q) : cntN P a P.length ≠ 0 := by
  obtain ⟨i, h1, h2, -⟩ := h
  exact cnt_at h1 h2
theorem tch_sw (h : tch A B) : tch B A := by
  rcases h with w | w | ⟨i, hi, j, hj, m⟩
  · exact Or.inr (Or.inl w)
  · exact Or.inl w
  · exact Or.inr (Or.inr ⟨j, hj, i, hi, meet_M.mpr (Mt_tw (meet_M.mp m))⟩)
theorem m_apaF (hg : goodP P) (hi : i < P.length) (hj : j < P.length) : apaF P (pM P i) (pM P j) := by
  have hP := good_g3 hg
  have gQ : g3P (ptQ P (pM P i) (pM P j)) := g3Q hg
  have h0 : hp (ptQ P (pM P i) (pM P j)) 0 (pt P i) := hpQ0.mpr ⟨i, hi, rfl, rfl⟩
  have h1 : hp (ptQ P (pM P i) (pM P j)) 1 (np (pt P j)) := hpQ1.mpr ⟨j, hj, rfl, pt_eq (Int.neg_neg _) (Int.neg_neg _)⟩
  have hf : fl2 (ptQ P (pM P i) (pM P j)) 0 1 := ⟨hp_cnt h0, hp_cnt h1⟩
  obtain ⟨hS, cS, lS⟩ := sm_hul gQ hf
  obtain ⟨hA, cA, lA⟩ := put_hul hP (a := pM P i) (cnt_at hi rfl)
  obtain ⟨hB, cB, lB⟩ := put_hul hP (a := pM P j) (cnt_at hj rfl)
  have hM : hul (fun q => ∃ p r, hp P (pM P i) p ∧ hp P (pM P j) r ∧ q = sb p r) (smL (ptQ P (pM P i) (pM P j)) 0 1) := hul_D hS fun q => by
    constructor
    · rintro ⟨p, r, g1, g2, g3⟩
      refine ⟨p, np r, hpQ0.mpr g1, hpQ1.mpr ?_, ?_⟩
      · have e : np (np r) = r := pt_eq (Int.neg_neg _) (Int.neg_neg _)
        rw [e]
        exact g2
      · rw [g3]
        exact pt_eq (Int.sub_eq_add_neg) (Int.sub_eq_add_neg)
    · rintro ⟨p, r, g1, g2, g3⟩
      refine ⟨p, np r, hpQ0.mp g1, hpQ1.mp g2, ?_⟩
      rw [g3]
      refine pt_eq ?_ ?_
      · show p.1 + r.1 = p.1 - -r.1
        omega
      · show p.2 + r.2 = p.2 - -r.2
        omega
  refine ⟨fun v hv => q_sumh gQ v hv, hf, ⟨hS.1, by omega⟩, ⟨fun h => tch_sum hA cA hB cB hM cS h, fun h => sum_tch hA cA (fun q hq => hp_bp hP.2 hq) hB cB (fun q hq => hp_bp hP.2 hq) hM cS h⟩, tch_sw, tch_sw⟩
end MAPF
