/-! The mathematics of the law's checks: layers -/
section MLAY
variable {P L : PL} {a : Int} {b c d p q x : Pt} {i j k m n : Nat}
/-- what lies between two places to the left of a line lies to its left -/
theorem on_left (h : On b c q) (h1 : 0 < T3 x d b) (h2 : 0 < T3 x d c) : 0 < T3 x d q := by
  by_cases e : b = c
  · subst e
    obtain ⟨x1, x2, y1, y2, -⟩ := h
    have : q = b := pt_eq (by omega) (by omega)
    rw [this]
    exact h1
  · have hab := lv_sq b c e
    have o := on_lv h hab
    have t : T3 b c q = 0 := On_T h
    have k := id_af (c.1 - b.1) (c.2 - b.2) x d b c q
    rw [t, Int.mul_zero, Int.add_zero] at k
    refine pos_of (k := lv (c.1 - b.1) (c.2 - b.2) c - lv (c.1 - b.1) (c.2 - b.2) b) (by omega) ?_
    rw [k]
    by_cases g : lv (c.1 - b.1) (c.2 - b.2) b < lv (c.1 - b.1) (c.2 - b.2) q
    · exact sum_pos2 (Int.mul_nonneg (by omega) (Int.le_of_lt h1)) (Int.mul_pos (by omega) h2)
    · exact sum_pos (Int.mul_pos (by omega) h1) (Int.mul_nonneg (by omega) (Int.le_of_lt h2))
theorem ly_out {e : Int × Int × Int} (h : 0 < (lyR j L).length) : e ∈ lyR (j + 1) L ↔ e ∈ lyR j L ∧ ¬ wI (wrapN 61 (lyR j L)) 1 e.1 e.2.1 ≤ 0 := by
  rw [lyR_st]
  unfold stL
  rw [if_pos h, pl1_eq, List.mem_filter]
  unfold kp
  rw [decide_eq_true_iff]
theorem ly_sub {e : Int × Int × Int} : ∀ d, e ∈ lyR (k + d) L → e ∈ lyR k L
  | 0, h => h
  | d + 1, h => by
    refine ly_sub d ?_
    by_cases c : 0 < (lyR (k + d) L).length
    · exact ((ly_out c).mp h).1
    · have h' : e ∈ lyR (k + d + 1) L := h
      rw [lyR_st] at h'
      unfold stL at h'
      rw [if_neg c] at h'
      exact h'
theorem st_ex {Q : Nat → Prop} : ∀ m, Q 0 → ¬ Q m → ∃ k, k < m ∧ Q k ∧ ¬ Q (k + 1)
  | 0, h, n => absurd h n
  | m + 1, h, n => by
    by_cases c : Q m
    · exact ⟨m, Nat.lt_succ_self m, c, n⟩
    · obtain ⟨k, h1, h2⟩ := st_ex m h c
      exact ⟨k, by omega, h2⟩
/-- what is left inside is left of all edges, and there are three at least -/
theorem ly_in (hP : g3P P) (h : 0 < (lyR j (Od P a)).length) {e : Int × Int × Int} (he : e ∈ lyR (j + 1) (Od P a)) : 3 ≤ (wrapN 61 (lyR j (Od P a))).length ∧ ∀ t, t < (wrapN 61 (lyR j (Od P a))).length → 0 < T3 (pt (wrapN 61 (lyR j (Od P a))) t) (pt (wrapN 61 (lyR j (Od P a))) (nxt (wrapN 61 (lyR j (Od P a))).length t)) (e.1, e.2.1) := by
  have hI : lyI P a j (lyR j (Od P a)) := lyI_all hP j
  obtain ⟨hh, hc, hl, -⟩ := ly_hul hI h
  have ho := (ly_out h).mp he
  have hD : pq (lyR j (Od P a)) (lyR j (Od P a)).length (e.1, e.2.1) := pq_mem.mpr ⟨e, ho.1, rfl⟩
  have h3 : 3 ≤ (wrapN 61 (lyR j (Od P a))).length := by
    refine Classical.byContradiction fun c => ho.2 ((hul_wI hh hc.2.2.1 hD).mpr ?_)
    have h0 := hh.1
    have t0 := hh.2.2.2.2 0 h0 _ hD
    by_cases c1 : (wrapN 61 (lyR j (Od P a))).length = 1
    · refine ⟨0, h0, ?_⟩
      rw [c1] at t0 ⊢
      rcases t0 with w | w
      · have : T3 (pt (wrapN 61 (lyR j (Od P a))) 0) (pt (wrapN 61 (lyR j (Od P a))) 0) (e.1, e.2.1) = 0 := T3_aa _ _
        have w' : 0 < T3 (pt (wrapN 61 (lyR j (Od P a))) 0) (pt (wrapN 61 (lyR j (Od P a))) 0) (e.1, e.2.1) := w
        omega
      · exact w
    · have c2 : (wrapN 61 (lyR j (Od P a))).length = 2 := by omega
      have t1 := hh.2.2.2.2 1 (by omega) _ hD
      rcases t0 with w | w
      · rcases t1 with w1 | w1
        · rw [c2] at w w1
          have w' : 0 < T3 (pt (wrapN 61 (lyR j (Od P a))) 0) (pt (wrapN 61 (lyR j (Od P a))) 1) (e.1, e.2.1) := w
          have w1' : 0 < T3 (pt (wrapN 61 (lyR j (Od P a))) 1) (pt (wrapN 61 (lyR j (Od P a))) 0) (e.1, e.2.1) := w1
          rw [T3_ba'] at w1'
          omega
        · exact ⟨1, by omega, w1⟩
      · exact ⟨0, h0, w⟩
  refine ⟨h3, (wI_cv hc.2.2.1 h3).mp ((wI_1 _ _ _ _).mp ?_)⟩
  exact Int.not_le.mp ho.2
theorem ly_one (hP : g3P P) (hjk : j < k) (h1 : 0 < (lyR j (Od P a)).length) (h2 : 0 < (lyR k (Od P a)).length) {e : Int × Int × Int} (he : e ∈ Od P a) (z1 : wI (wrapN 61 (lyR j (Od P a))) 1 e.1 e.2.1 = 0) (z2 : wI (wrapN 61 (lyR k (Od P a))) 1 e.1 e.2.1 = 0) : False := by
  obtain ⟨hh, hc, hl, -⟩ := ly_hul (show lyI P a k (lyR k (Od P a)) from lyI_all hP k) h2
  have on_of0 : ∀ W : PL, wI W 1 e.1 e.2.1 = 0 → ∃ i, i < W.length ∧ On (pt W i) (pt W (nxt W.length i)) (e.1, e.2.1) := fun W z => by
    unfold wI at z
    by_cases c : ∃ i, i < W.length ∧ eOn W 1 e.1 e.2.1 i
    · obtain ⟨i, hi, o⟩ := c
      exact ⟨i, hi, eOn_1.mp o⟩
    · rw [if_neg c] at z
      split at z <;> omega
  obtain ⟨s, hs, os⟩ := on_of0 _ z1
  obtain ⟨t, ht, ot⟩ := on_of0 _ z2
  obtain ⟨d, rfl⟩ : ∃ d, k = j + 1 + d := ⟨k - j - 1, by omega⟩
  have cor : ∀ u, u < (wrapN 61 (lyR (j + 1 + d) (Od P a))).length → 0 < T3 (pt (wrapN 61 (lyR j (Od P a))) s) (pt (wrapN 61 (lyR j (Od P a))) (nxt (wrapN 61 (lyR j (Od P a))).length s)) (pt (wrapN 61 (lyR (j + 1 + d) (Od P a))) u) := fun u hu => by
    obtain ⟨f, hf, ef⟩ := pq_mem.mp (hh.2.1 u hu)
    rw [ef]
    exact (ly_in hP h1 (ly_sub d hf)).2 s hs
  have := on_left ot (cor t ht) (cor _ (nxt_lt ht))
  have := On_T os
  omega
theorem ly_ex (hP : g3P P) (hm : (lyR m (Od P a)).length = 0) {e : Int × Int × Int} (he : e ∈ Od P a) : ∃ k, k < m ∧ 0 < (lyR k (Od P a)).length ∧ wI (wrapN 61 (lyR k (Od P a))) 1 e.1 e.2.1 = 0 := by
  have hn : ¬ e ∈ lyR m (Od P a) := fun h => by
    rw [List.length_eq_zero_iff.mp hm] at h
    exact List.not_mem_nil h
  obtain ⟨k, hk, h1, h2⟩ := st_ex (Q := fun k => e ∈ lyR k (Od P a)) m he hn
  have h0 : 0 < (lyR k (Od P a)).length := List.length_pos_of_mem h1
  obtain ⟨hh, hc, hl, -⟩ := ly_hul (show lyI P a k (lyR k (Od P a)) from lyI_all hP k) h0
  have hD : pq (lyR k (Od P a)) (lyR k (Od P a)).length (e.1, e.2.1) := pq_mem.mpr ⟨e, h1, rfl⟩
  have g := hul_in hh hc.2.2.1 hD
  have w : wI (wrapN 61 (lyR k (Od P a))) 1 e.1 e.2.1 ≤ 0 := Classical.byContradiction fun c => h2 ((ly_out h0).mpr ⟨h1, c⟩)
  exact ⟨k, hk, h0, by omega⟩
theorem lc_sum (F : PL) : ∀ n : Nat, ((lcN P a F n : Nat) : Int) = sumN (fun i => ic (pM P i = a ∧ wI F 1 (pX P i) (pY P i) = 0)) n
  | 0 => rfl
  | n + 1 => by
    have ih := lc_sum F n
    show ((lcN P a F n + cif (pM P n = a ∧ wI F 1 (pX P n) (pY P n) = 0) 1 0 : Nat) : Int) = sumN _ n + ic (pM P n = a ∧ wI F 1 (pX P n) (pY P n) = 0)
    rw [← ih]
    by_cases c : pM P n = a ∧ wI F 1 (pX P n) (pY P n) = 0
    · rw [cif_t c, ic_t c]
      omega
    · rw [cif_f c, ic_f c]
      omega
theorem lcS_sum : ∀ m : Nat, ((lcS P a m : Nat) : Int) = sumN (fun k => sumN (fun i => ic (pM P i = a ∧ wI (lyK P a k) 1 (pX P i) (pY P i) = 0)) P.length) m
  | 0 => rfl
  | m + 1 => by
    have ih := lcS_sum m
    have e : ((lcS P a (m + 1) : Nat) : Int) = ((lcS P a m : Nat) : Int) + ((lcN P a (lyK P a m) P.length : Nat) : Int) := by
      show ((lcS P a m + lcN P a (lyK P a m) P.length : Nat) : Int) = _
      omega
    rw [e, ih, lc_sum]
    rfl
theorem cn_sum (P : PL) (a : Int) : ∀ n : Nat, ((cntN P a n : Nat) : Int) = sumN (fun i => ic (pM P i = a)) n
  | 0 => rfl
  | n + 1 => by
    have ih := cn_sum P a n
    show ((cntN P a n + (if pM P n = a then 1 else 0) : Nat) : Int) = sumN _ n + ic (pM P n = a)
    rw [← ih]
    by_cases c : pM P n = a
    · rw [if_pos c, ic_t c]
      omega
    · rw [if_neg c, ic_f c]
      omega
theorem m_layF (hg : goodP P) : lyM P a ≤ 60 ∧ layF P a := by
  have hP := good_g3 hg
  obtain ⟨s1, s2, s3⟩ := lyC_spec 60 (Od P a)
  have hM : (lyR (lyM P a) (Od P a)).length = 0 := by
    by_cases c : lyM P a < 60
    · exact s3 c
    · have : lyM P a = 60 := by
        have : lyM P a ≤ 60 := s1
        omega
      rw [this]
      exact ly_60 hP
  have eL : ∀ k : Nat, k < lyM P a → lyL P a (k : Int) = lyR k (Od P a) := fun k hk => by
    have s1' : lyM P a ≤ 60 := s1
    show lyR (min (k : Int) 60).toNat _ = _
    rw [show (min (k : Int) 60).toNat = k by omega]
  refine ⟨s1, fun k hk => ?_, ?_⟩
  · have h0 := s2 k hk
    obtain ⟨hh, hc, hl, -⟩ := ly_hul (show lyI P a k (lyR k (Od P a)) from lyI_all hP k) h0
    refine ⟨by rw [eL k hk]; exact Nat.ne_of_gt h0, ?_⟩
    show figP (wrapN 61 (lyL P a (k : Int)))
    rw [eL k hk]
    exact fig_of hh hc hl (mm_fil _ _ hh hc)
  · have e : ((lcS P a (lyM P a) : Nat) : Int) = ((cntN P a P.length : Nat) : Int) := by
      rw [lcS_sum, sumN_c0, cn_sum]
      refine sumN_cg _ fun i hi => ?_
      by_cases c : pM P i = a
      · have he : (pX P i, pY P i, (i : Int)) ∈ Od P a := (mem_putN P.length).mpr (Or.inr ⟨i, hi, c, rfl⟩)
        obtain ⟨k, hk, h0, z⟩ := ly_ex hP hM he
        have eK : ∀ k, k < lyM P a → lyK P a k = wrapN 61 (lyR k (Od P a)) := fun k hk => by
          show wrapN 61 (lyL P a (k : Int)) = _
          rw [eL k hk]
        rw [ic_t c, sumN_1 hk (fun t ht hne => ?_)]
        · refine ic_t ⟨c, ?_⟩
          rw [eK k hk]
          exact z
        · refine ic_f fun w => ?_
          have z2 := w.2
          rw [eK t ht] at z2
          by_cases o : t < k
          · exact ly_one hP o (s2 t ht) h0 he z2 z
          · exact ly_one hP (show k < t by omega) h0 (s2 t ht) he z z2
      · rw [ic_f c]
        exact sumN_z _ fun t _ => ic_f fun w => c w.1
    omega
end MLAY
