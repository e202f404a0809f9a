/-! The mathematics of the law's checks: fences, drops, faults, lines -/
section MEASY2
variable {P E : PL} {a v : Int} {i j k n : Nat}
theorem m_bdx {L : PL} (w : Nat) (h : 0 < L.length) : ∃ i, i < L.length ∧ bnF L w i = bnd L w L.length := by
  obtain ⟨m, hm⟩ : ∃ m, L.length = m + 1 := ⟨L.length - 1, by omega⟩
  rw [hm]
  exact (bnd_spec L w m).1
theorem cb_le (P : PL) (a lo hi bo to : Int) : cb P a lo hi bo to ≤ (nC P a : Int) := by
  rw [cb_put, ord_len]
  exact sumN_all _
theorem cb_all {lo hi bo to : Int} (h : ∀ i, i < P.length → pM P i = a → ibx lo hi bo to (pX P i) (pY P i)) : (nC P a : Int) ≤ cb P a lo hi bo to := by
  rw [cb_put, ord_len]
  refine sumN_ge _ fun k hk => ?_
  obtain ⟨i, h1, h2, h3⟩ := m_od hk
  have e1 : pX (putN P a [] P.length) k = pX P i := by have t := congrArg (fun e : Int × Int × Int => e.1) h3; exact t
  have e2 : pY (putN P a [] P.length) k = pY P i := by have t := congrArg (fun e : Int × Int × Int => e.2.1) h3; exact t
  rw [e1, e2, ic_t (h i h1 h2)]
  exact Int.le_refl _
/-- a box that holds all of n places and is the sum of n signs holds each -/
theorem ic_full {f : Nat → Prop} : ∀ n : Nat, (n : Int) ≤ sumN (fun i => ic (f i)) n → ∀ i, i < n → f i
  | 0, _, i, hi => absurd hi (Nat.not_lt_zero i)
  | n + 1, h, i, hi => by
    have h1 : sumN (fun i => ic (f i)) n ≤ (n : Int) := sumN_all n
    have h2 : sumN (fun i => ic (f i)) (n + 1) = sumN (fun i => ic (f i)) n + ic (f n) := rfl
    have h3 := (ic_01 (f n)).2
    have h0 : ((n + 1 : Nat) : Int) = (n : Int) + 1 := by omega
    rw [h2, h0] at h
    by_cases e : i = n
    · subst e
      by_cases c : f i
      · exact c
      · rw [ic_f c] at h
        omega
    · exact ic_full n (by omega) i (by omega)
theorem m_fenF (hg : goodP P) (hi : i < P.length) : fenF P (pM P i) := by
  obtain ⟨a, ha⟩ : ∃ a, a = pM P i := ⟨_, rfl⟩
  rw [← ha]
  have hc : cntN P a P.length ≠ 0 := cnt_at hi ha.symm
  have hP := good_g3 hg
  have hok : okP P := hP.2
  have hl : (putN P a [] P.length).length = nC P a := ord_len P a
  have hc0 : nC P a ≠ 0 := hc
  have h0 : 0 < (putN P a [] P.length).length := by rw [hl]; omega
  have at' : ∀ k, k < (putN P a [] P.length).length → ∃ i, i < P.length ∧ pM P i = a ∧ pX (putN P a [] P.length) k = pX P i ∧ pY (putN P a [] P.length) k = pY P i := fun k hk => by
    obtain ⟨i, h1, h2, h3⟩ := m_od (P := P) (a := a) (k := k) (by rw [← hl]; exact hk)
    exact ⟨i, h1, h2, by have t := congrArg (fun e : Int × Int × Int => e.1) h3; exact t, by have t := congrArg (fun e : Int × Int × Int => e.2.1) h3; exact t⟩
  have bk : ∀ k, k < (putN P a [] P.length).length → (-100 ≤ pX (putN P a [] P.length) k ∧ pX (putN P a [] P.length) k ≤ 100) ∧ -100 ≤ pY (putN P a [] P.length) k ∧ pY (putN P a [] P.length) k ≤ 100 := fun k hk => by
    obtain ⟨i, h1, -, h3, h4⟩ := at' k hk
    have := hg.2 i h1
    omega
  have mb := fun k hk => m_bds (W := putN P a [] P.length) (n := (putN P a [] P.length).length) h0 (i := k) hk
  obtain ⟨i0, g0, e0⟩ := m_bdx 0 h0
  obtain ⟨i1, g1, e1⟩ := m_bdx 1 h0
  obtain ⟨i2, g2, e2⟩ := m_bdx 2 h0
  obtain ⟨i3, g3, e3⟩ := m_bdx 3 h0
  have e0' : pX (putN P a [] P.length) i0 = bnd (putN P a [] P.length) 0 (putN P a [] P.length).length := e0
  have e1' : pX (putN P a [] P.length) i1 = bnd (putN P a [] P.length) 1 (putN P a [] P.length).length := e1
  have e2' : pY (putN P a [] P.length) i2 = bnd (putN P a [] P.length) 2 (putN P a [] P.length).length := e2
  have e3' : pY (putN P a [] P.length) i3 = bnd (putN P a [] P.length) 3 (putN P a [] P.length).length := e3
  have b0 := bk i0 g0
  have b1 := bk i1 g1
  have b2 := bk i2 g2
  have b3 := bk i3 g3
  have m0 := mb i0 g0
  have m1 := mb i1 g1
  have m2 := mb i2 g2
  have m3 := mb i3 g3
  have eb : bxw P a = bnd (putN P a [] P.length) 1 (putN P a [] P.length).length - bnd (putN P a [] P.length) 0 (putN P a [] P.length).length + bnd (putN P a [] P.length) 3 (putN P a [] P.length).length - bnd (putN P a [] P.length) 2 (putN P a [] P.length).length := rfl
  have full : Ach P a (nC P a) (bxw P a) := by
    refine ⟨bnd (putN P a [] P.length) 0 (putN P a [] P.length).length, bnd (putN P a [] P.length) 1 (putN P a [] P.length).length, bnd (putN P a [] P.length) 2 (putN P a [] P.length).length, bnd (putN P a [] P.length) 3 (putN P a [] P.length).length, by omega, cb_all fun i hi hm => ?_⟩
    have m : (pX P i, pY P i, (i : Int)) ∈ putN P a [] P.length := (mem_putN P.length).mpr (Or.inr ⟨i, hi, hm, rfl⟩)
    obtain ⟨k, hk, ek⟩ := List.mem_iff_getElem.mp m
    have ek' : (putN P a [] P.length).getD k d3 = (pX P i, pY P i, (i : Int)) := by
      rw [List.getD_eq_getElem?_getD, List.getElem?_eq_getElem hk]
      exact ek
    have q1 : pX (putN P a [] P.length) k = pX P i := by have t := congrArg (fun e : Int × Int × Int => e.1) ek'; exact t
    have q2 : pY (putN P a [] P.length) k = pY P i := by have t := congrArg (fun e : Int × Int × Int => e.2.1) ek'; exact t
    have := mb k hk
    rw [q1, q2] at this
    exact this
  have low : ∀ k, 1 ≤ k → ∀ v, Ach P a k v → 0 ≤ v := fun k hk v ⟨lo, hi, bo, to, ev, h⟩ => by
    have h' : 0 < sumN (fun i => ic (pM P i = a ∧ ibx lo hi bo to (pX P i) (pY P i))) P.length := by
      have : cb P a lo hi bo to = sumN (fun i => ic (pM P i = a ∧ ibx lo hi bo to (pX P i) (pY P i))) P.length := rfl
      omega
    obtain ⟨j, _, _, hj⟩ := sumN_pos _ h'
    have hj1 := hj.1
    have hj2 := hj.2
    omega
  have mono : ∀ k k', k ≤ k' → ∀ v, Ach P a k' v → Ach P a k v := fun k k' hk v ⟨lo, hi, bo, to, ev, h⟩ => ⟨lo, hi, bo, to, ev, by omega⟩
  have fl : ∀ k, 1 ≤ k → k ≤ nC P a → Ach P a k (fnc P a k) ∧ ∀ v, Ach P a k v → fnc P a k ≤ v := fun k h1 h2 => fn_least hok h1 (by rw [hl]; exact h2)
  have hn1 : 1 ≤ nC P a := by
    have : nC P a ≠ 0 := hc
    omega
  refine ⟨⟨by omega, by omega⟩, ?_, ?_, fun k h1 h2 => ⟨?_, ?_⟩⟩
  · have f := fl (nC P a) hn1 (Nat.le_refl _)
    refine Int.le_antisymm (f.2 _ full) ?_
    obtain ⟨lo, hi, bo, to, ev, h⟩ := f.1
    rw [cb_put, hl] at h
    have al := ic_full _ h
    have a0 := al i0 (by rw [← hl]; exact g0)
    have a1 := al i1 (by rw [← hl]; exact g1)
    have a2 := al i2 (by rw [← hl]; exact g2)
    have a3 := al i3 (by rw [← hl]; exact g3)
    have z0 := a0.1
    have z1 := a1.1
    have z2 := a2.2
    have z3 := a3.2
    rw [ev]
    omega
  · have f := fl 1 (Nat.le_refl _) hn1
    refine Int.le_antisymm (f.2 _ ⟨pX P i, pX P i, pY P i, pY P i, by omega, ?_⟩) (low 1 (Nat.le_refl _) _ f.1)
    have nn : ∀ t, t < P.length → 0 ≤ ic (pM P t = a ∧ ibx (pX P i) (pX P i) (pY P i) (pY P i) (pX P t) (pY P t)) := fun t _ => ic_nn _
    have := sumN_run (f := fun t => ic (pM P t = a ∧ ibx (pX P i) (pX P i) (pY P i) (pY P i) (pX P t) (pY P t))) (n := P.length) (s := i) (k := 1) nn (by omega) (fun t t1 t2 => by
      have et : t = i := by omega
      subst et
      show 1 ≤ ic _
      rw [ic_t ⟨ha.symm, ⟨Int.le_refl _, Int.le_refl _⟩, Int.le_refl _, Int.le_refl _⟩]
      exact Int.le_refl _)
    exact this
  · have f := fl k h1 h2
    unfold lastF
    by_cases c : k ≤ 1
    · rw [if_pos c]
      exact ⟨Int.le_refl _, low k h1 _ f.1⟩
    · rw [if_neg c]
      have g := fl (k - 1) (by omega) (by omega)
      exact ⟨low (k - 1) (by omega) _ g.1, g.2 _ (mono (k - 1) k (by omega) _ f.1)⟩
  · exact (fl k h1 h2).2 _ (mono k (nC P a) h2 _ full)
/-! a point dropped -/
theorem dr_at (P : PL) (i k : Nat) (hi : i < P.length) : pM (drP P i) k = if k = i then -1 else pM P k := by
  show ((P.set i (pX P i, pY P i, -1)).getD k d3).2.2 = _
  rw [List.getD_eq_getElem?_getD, List.getElem?_set]
  by_cases c : i = k
  · subst c
    rw [if_pos rfl, if_pos rfl, if_pos hi]
    rfl
  · rw [if_neg c, if_neg (fun e => c e.symm)]
    show _ = (P.getD k d3).2.2
    rw [List.getD_eq_getElem?_getD]
theorem dr_cnt (hi : i < P.length) (hm : pM P i ≠ -1) : ∀ n, cntN (drP P i) (pM P i) n + (if i < n then 1 else 0) = cntN P (pM P i) n
  | 0 => rfl
  | n + 1 => by
    have ih := dr_cnt hi hm n
    show cntN (drP P i) (pM P i) n + (if pM (drP P i) n = pM P i then 1 else 0) + (if i < n + 1 then 1 else 0) = cntN P (pM P i) n + (if pM P n = pM P i then 1 else 0)
    rw [dr_at P i n hi]
    by_cases c : n = i
    · subst c
      rw [if_pos rfl, if_neg (fun e => hm e.symm), if_pos (Nat.lt_succ_self n), if_pos rfl]
      rw [if_neg (Nat.lt_irrefl n)] at ih
      omega
    · rw [if_neg c]
      by_cases d : i < n
      · rw [if_pos (show i < n + 1 by omega)]
        rw [if_pos d] at ih
        omega
      · rw [if_neg (show ¬ i < n + 1 by omega)]
        rw [if_neg d] at ih
        omega
theorem m_drF (hg : goodP P) : drF P := fun i hi => by
  have hm := hg.2 i hi
  have h := dr_cnt (P := P) hi (by omega) P.length
  rw [if_pos hi] at h
  rw [show (drP P i).length = P.length from List.length_set]
  omega
theorem m_erF (hg : goodP P) {S : Nat → PL} (hS : okSS S) : erF P S := by
  refine ⟨fun v _ => q_stray (good_g3 hg) v, fun j hj hc => ?_⟩
  rcases hS j hj with e | ⟨⟨l1, l2⟩, hG⟩
  · rw [e] at hc
    exact absurd hc.1 (by decide)
  · exact q_nf hc (fun i hi => by have := hG i hi; omega) (by omega)
/-! lines -/
theorem caI_skip {p : Int} {l : Nat} {K : Nat → Nat × Int} (M : Nat) : ∀ (c d f : Nat), ((M + ciN E l (d + c) : Nat) : Int) ≤ p → caI E p l K (f + c) (l + 1 + d) (M + ciN E l d) = caI E p l K f (l + 1 + (d + c)) (M + ciN E l (d + c))
  | 0, d, f, _ => rfl
  | c + 1, d, f, h => by
    have e : d + (c + 1) = (d + 1) + c := by omega
    have ih := caI_skip (p := p) (K := K) M c (d + 1) f (by rw [← e]; exact h)
    rw [e, ← ih]
    have mono : ∀ m n, ciN E l n ≤ ciN E l (n + m) := fun m n => by
      induction m with
      | zero => exact Nat.le_refl _
      | succ m hm =>
        have hs : ciN E l (n + (m + 1)) = if lmE E l (l + 1 + (n + m)) then ciN E l (n + m) + 1 else ciN E l (n + m) := rfl
        rw [hs]
        split <;> omega
    have hm := mono c (d + 1)
    rw [e] at h
    have hs : ciN E l (d + 1) = if lmE E l (l + 1 + d) then ciN E l d + 1 else ciN E l d := rfl
    show (if lmE E l (l + 1 + d) then (if ((M + ciN E l d : Nat) : Int) = p then _ else caI E p l K (f + c) (l + 1 + d + 1) (M + ciN E l d + 1)) else caI E p l K (f + c) (l + 1 + d + 1) (M + ciN E l d)) = _
    by_cases w : lmE E l (l + 1 + d)
    · rw [if_pos w] at hs ⊢
      rw [if_neg (show ¬ ((M + ciN E l d : Nat) : Int) = p by omega), hs, show M + ciN E l d + 1 = M + (ciN E l d + 1) by omega, show l + 1 + d + 1 = l + 1 + (d + 1) by omega]
    · rw [if_neg w] at hs ⊢
      rw [hs, show l + 1 + d + 1 = l + 1 + (d + 1) by omega]
theorem co_mono (E : PL) (n : Nat) : ∀ m, coN E n ≤ coN E (n + m)
  | 0 => Nat.le_refl _
  | m + 1 => by
    have := co_mono E n m
    show _ ≤ coN E (n + m) + _
    omega
theorem caO_skip {p : Int} : ∀ (k : Nat), k ≤ E.length / 2 → ((coN E k : Nat) : Int) ≤ p → caO E p (E.length / 2) 0 0 = caO E p (E.length / 2 - k) k (coN E k)
  | 0, _, _ => rfl
  | k + 1, hk, h => by
    have m := co_mono E k 1
    rw [caO_skip k (by omega) (by omega)]
    obtain ⟨f, hf⟩ : ∃ f, E.length / 2 - k = f + 1 := ⟨E.length / 2 - k - 1, by omega⟩
    rw [hf]
    have e1 : E.length / 2 - (k + 1) = f := by omega
    show caI E p k (caO E p f (k + 1)) (E.length / 2 - (k + 1)) (k + 1) (coN E k) = _
    have sk := caI_skip (E := E) (p := p) (l := k) (K := caO E p f (k + 1)) (coN E k) (E.length / 2 - (k + 1)) 0 0 (by rw [Nat.zero_add]; exact h)
    rw [Nat.zero_add] at sk
    have sk' : caI E p k (caO E p f (k + 1)) (E.length / 2 - (k + 1)) (k + 1) (coN E k) = caO E p f (k + 1) (coN E k + ciN E k (E.length / 2 - (k + 1))) := sk
    rw [sk', e1]
    show caO E p f (k + 1) (coN E k + ciN E k f) = caO E p f (k + 1) (coN E k + ciN E k (E.length / 2 - (k + 1)))
    rw [e1]
theorem m_lnF (E : PL) : lnF E := by
  refine ⟨fun k j hj w => ⟨?_, ?_⟩, fun k hk => Or.inr (Or.inl (On_l (pt E (2 * k)) (pt E (2 * k + 1))))⟩
  · show caO E _ (E.length / 2) 0 0 = _
    rw [caO_skip k (by omega) (by omega)]
    obtain ⟨f, hf⟩ : ∃ f, E.length / 2 - k = f + 1 := ⟨E.length / 2 - k - 1, by omega⟩
    rw [hf]
    have sk := caI_skip (E := E) (p := ((coN E k + ciN E k j : Nat) : Int)) (l := k) (K := caO E ((coN E k + ciN E k j : Nat) : Int) f (k + 1)) (coN E k) j 0 (E.length / 2 - (k + 1) - j) (by rw [Nat.zero_add]; exact Int.le_refl _)
    rw [Nat.zero_add, show E.length / 2 - (k + 1) - j + j = E.length / 2 - (k + 1) by omega] at sk
    have sk' : caI E ((coN E k + ciN E k j : Nat) : Int) k (caO E ((coN E k + ciN E k j : Nat) : Int) f (k + 1)) (E.length / 2 - (k + 1)) (k + 1) (coN E k) = _ := sk
    show caI E ((coN E k + ciN E k j : Nat) : Int) k (caO E ((coN E k + ciN E k j : Nat) : Int) f (k + 1)) (E.length / 2 - (k + 1)) (k + 1) (coN E k) = _
    rw [sk']
    obtain ⟨g, hg⟩ : ∃ g, E.length / 2 - (k + 1) - j = g + 1 := ⟨E.length / 2 - (k + 1) - j - 1, by omega⟩
    rw [hg]
    show (if lmE E k (k + 1 + j) then (if ((coN E k + ciN E k j : Nat) : Int) = _ then (0, 100 * (k : Int) + ((k + 1 + j : Nat) : Int)) else _) else _) = _
    rw [if_pos w, if_pos rfl]
    refine congrArg (fun q => (0, q)) ?_
    omega
  · have w' := meet_M.mp w
    exact meet_M.mpr (Mt_tw w')
end MEASY2
