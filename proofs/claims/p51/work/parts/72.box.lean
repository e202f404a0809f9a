/-! The mathematics of the law's checks: a figure fills no more than its box -/
section MBOX
variable {W : PL}
theorem m_bd {w : Nat} {n : Nat} (hn : 0 < n) {i : Nat} (hi : i < n) : ¬ lss w (bnF W w i) (bnd W w n) := by
  obtain ⟨m, rfl⟩ : ∃ m, n = m + 1 := ⟨n - 1, by omega⟩
  exact (bnd_spec W w m).2 i hi
theorem m_bds {n : Nat} (hn : 0 < n) {i : Nat} (hi : i < n) : (bnd W 0 n ≤ pX W i ∧ pX W i ≤ bnd W 1 n) ∧ bnd W 2 n ≤ pY W i ∧ pY W i ≤ bnd W 3 n := by
  have h0 : ¬ pX W i < bnd W 0 n := m_bd (w := 0) hn hi
  have h1 : ¬ bnd W 1 n < pX W i := m_bd (w := 1) hn hi
  have h2 : ¬ pY W i < bnd W 2 n := m_bd (w := 2) hn hi
  have h3 : ¬ bnd W 3 n < pY W i := m_bd (w := 3) hn hi
  omega
theorem m_up (h : edL W) {y : Int} : sumN (fun i => ic (upE W y i)) W.length ≤ 1 := by
  by_cases c : ∃ i, i < W.length ∧ upE W y i
  · obtain ⟨u, hu, e⟩ := c
    rw [sumN_1 hu (fun i hi hne => ic_f (fun w => hne (up_one h hi hu w e))), ic_t e]
    exact Int.le_refl _
  · rw [sumN_z _ (fun i hi => ic_f (fun w => c ⟨i, hi, w⟩))]
    decide
theorem m_rise (lo hi : Int) (i : Nat) (h1 : lo ≤ pY W i) (h2 : lo ≤ pY W (nxt W.length i)) (h3 : pY W (nxt W.length i) ≤ hi) : sumN (fun s => ic (upE W (lo + (s : Int)) i)) (hi - lo).toNat = max (pY W (nxt W.length i) - pY W i) 0 := by
  by_cases c : pY W i < pY W (nxt W.length i)
  · have q := cnt_btw (l := pY W i - lo) (h := pY W (nxt W.length i) - lo - 1) (n := (hi - lo).toNat) (by omega) (by omega) (by omega)
    rw [show max (pY W (nxt W.length i) - pY W i) 0 = pY W (nxt W.length i) - lo - 1 - (pY W i - lo) + 1 by omega, ← q]
    refine sumN_cg _ fun s _ => ?_
    by_cases c2 : pY W i - lo ≤ (s : Int) ∧ (s : Int) ≤ pY W (nxt W.length i) - lo - 1
    · rw [if_pos c2, ic_t (show upE W (lo + (s : Int)) i from ⟨by omega, by omega⟩)]
    · rw [if_neg c2, ic_f (fun w => c2 ⟨by have := w.1; omega, by have := w.2; omega⟩)]
  · rw [sumN_z _ (fun s _ => ic_f (fun w => c (by have := w.1; have := w.2; omega)))]
    omega
theorem m_rises (h : edL W) {lo hi : Int} (hl : lo ≤ hi) (hb : ∀ i, i < W.length → lo ≤ pY W i ∧ pY W i ≤ hi) : sumN (fun i => max (pY W (nxt W.length i) - pY W i) 0) W.length ≤ hi - lo := by
  have e1 : sumN (fun i => max (pY W (nxt W.length i) - pY W i) 0) W.length = sumN (fun i => sumN (fun s => ic (upE W (lo + (s : Int)) i)) (hi - lo).toNat) W.length :=
    sumN_cg _ fun i hi9 => (m_rise lo hi i (hb i hi9).1 (hb _ (nxt_lt hi9)).1 (hb _ (nxt_lt hi9)).2).symm
  rw [e1, sumN_c0 (fun i s => ic (upE W (lo + (s : Int)) i))]
  refine Int.le_trans (sumN_le (g := fun _ => 1) _ fun s _ => m_up h) ?_
  rw [sumN_c]
  omega
theorem m_box (hc : cvx W) (hn : 3 ≤ W.length) : da W ≤ bxF W := by
  have hb := fun i (hi : i < W.length) => m_bds (W := W) (show 0 < W.length by omega) hi
  unfold bxF
  generalize bnd W 0 W.length = x0 at hb ⊢
  generalize bnd W 1 W.length = x1 at hb ⊢
  generalize bnd W 2 W.length = y0 at hb ⊢
  generalize bnd W 3 W.length = y1 at hb ⊢
  have b0 := hb 0 (by omega)
  have hr := m_rises hc.2.2.1 (lo := y0) (hi := y1) (by omega) (fun i hi => (hb i hi).2)
  have s0 := ring_sum (fun i => pX W i * pY W i) W.length
  have s1 := ring_sum (fun i => pY W i) W.length
  have e1 : da W = sumN (fun i => (pX W i + pX W (nxt W.length i)) * (pY W (nxt W.length i) - pY W i)) W.length := by
    have q := sumN_sb (fun i => (pX W i + pX W (nxt W.length i)) * (pY W (nxt W.length i) - pY W i)) (daT W) W.length
    have q2 : sumN (fun i => (pX W i + pX W (nxt W.length i)) * (pY W (nxt W.length i) - pY W i) - daT W i) W.length = sumN (fun i => pX W (nxt W.length i) * pY W (nxt W.length i) - pX W i * pY W i) W.length := sumN_cg _ fun i _ => by
      show _ - (pX W i * pY W (nxt W.length i) - pY W i * pX W (nxt W.length i)) = _
      grind
    have q3 : da W = sumN (daT W) W.length := rfl
    omega
  have e2 : sumN (fun i => (pX W i + pX W (nxt W.length i)) * (pY W (nxt W.length i) - pY W i)) W.length ≤ sumN (fun i => 2 * (x1 - x0) * max (pY W (nxt W.length i) - pY W i) 0 + 2 * x0 * (pY W (nxt W.length i) - pY W i)) W.length := by
    refine sumN_le _ fun i hi => ?_
    have a1 := (hb i hi).1
    have a2 := (hb _ (nxt_lt hi)).1
    generalize pY W (nxt W.length i) - pY W i = d
    generalize pX W i = u at a1 ⊢
    generalize pX W (nxt W.length i) = v at a2 ⊢
    by_cases c : 0 ≤ d
    · rw [show max d 0 = d by omega]
      have m := Int.mul_le_mul_of_nonneg_right (show u + v ≤ 2 * x1 by omega) c
      have e : 2 * (x1 - x0) * d + 2 * x0 * d = 2 * x1 * d := by grind
      omega
    · rw [show max d 0 = 0 by omega]
      have m := Int.mul_le_mul_of_nonneg_right (show 2 * x0 ≤ u + v by omega) (show 0 ≤ -d by omega)
      have e : 2 * x0 * -d = -(2 * x0 * d) := by grind
      have e3 : (u + v) * -d = -((u + v) * d) := by grind
      omega
  rw [sumN_ad, sumN_mul, sumN_mul, s1] at e2
  have m := Int.mul_le_mul_of_nonneg_left hr (show 0 ≤ 2 * (x1 - x0) by omega)
  omega
theorem m_fil (hc : cvx W) (hf : ∀ k, 0 < k → k < W.length → pX W 0 ≤ pX W k) (hn : 3 ≤ W.length) : filP W := by
  have hm : ∀ i, i < W.length → pX W 0 ≤ pX W i := fun i hi => by
    by_cases c : i = 0
    · rw [c]
      exact Int.le_refl _
    · exact hf i (by omega) hi
  have hb := bx_fi hm
  rw [if_neg (by omega)] at hb
  have h1 := fi_pos hm hc.2.2.1 hn
  have h2 := fi_hi hc.2.1 (show 0 < W.length by omega)
  have h3 := m_box hc hn
  have h4 := (m_pick hc hn).2
  rw [← hb] at h1 h2
  obtain ⟨a, ea⟩ := Int.eq_ofNat_of_zero_le (Int.le_of_lt h4)
  obtain ⟨b, eb⟩ := Int.eq_ofNat_of_zero_le (Int.le_of_lt h1)
  have k : k_fills W = FP.fdiv (FP.i2f (iN (a : Int))) (FP.i2f (iN (b : Int))) := by
    unfold k_fills
    rw [if_neg (by omega), ea, eb]
  obtain ⟨z, hz, ez⟩ := f_div (a := a) (b := b) (by omega) (by omega) (by omega)
  refine ⟨fun _ => ?_, ?_⟩
  · rw [eb]
    exact (fdiv_n32 (iN (da W)) (b := b) (by omega) (by omega)).1
  · rw [k]
    exact f_cmp hz ez
end MBOX
