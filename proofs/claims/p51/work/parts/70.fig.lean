/-! The mathematics of the law's checks: figures -/
section MFIG
variable {D : Pt → Prop} {W : PL}
theorem m_first (h : hul D W) (hc : cvx W) : ∀ k, 0 < k → k < W.length → pX W 0 < pX W k ∨ (pX W 0 = pX W k ∧ pY W 0 < pY W k) := fun k h0 hk => by
  have h1 : 100000 * pX W 0 + 1 * pY W 0 ≤ 100000 * pX W k + 1 * pY W k := h.2.2.1 (pt W k) (h.2.1 k hk)
  have h2 := h.2.2.2.1 0 k h0 hk
  have b0 := hc.2.1 0 (by omega)
  have bk := hc.2.1 k hk
  have h3 : ¬ (pX W 0 = pX W k ∧ pY W 0 = pY W k) := fun w => h2 (pt_eq w.1 w.2)
  omega
theorem m_da12 {F : PL} (hl : F.length < 3) : da F = 0 := by
  show sumN (daT F) F.length = 0
  rcases (show F.length = 0 ∨ F.length = 1 ∨ F.length = 2 by omega) with e | e | e
  · rw [e]
    rfl
  · rw [e]
    show (0 : Int) + (pX F 0 * pY F (nxt F.length 0) - pY F 0 * pX F (nxt F.length 0)) = 0
    rw [e, show nxt 1 0 = 0 from rfl, Int.mul_comm]
    omega
  · rw [e]
    show (0 : Int) + (pX F 0 * pY F (nxt F.length 0) - pY F 0 * pX F (nxt F.length 0)) + (pX F 1 * pY F (nxt F.length 1) - pY F 1 * pX F (nxt F.length 1)) = 0
    rw [e, show nxt 2 0 = 1 from rfl, show nxt 2 1 = 0 from rfl, Int.mul_comm (pX F 1), Int.mul_comm (pY F 1)]
    omega
theorem m_mu (hc : cvx W) (hn : 3 ≤ W.length) : mu (-1) 100000 (pt W) W.length = 0 := by
  obtain ⟨hs, -⟩ := Smp_F2 hc hn
  obtain ⟨i, hi, ht⟩ := top_ex (-1) 100000 (pt W) (show 0 < W.length by omega)
  have h1 := (mu_top hs hi ht).1
  have hp : prv W.length i < W.length := by
    unfold prv
    split <;> omega
  have h2 := ed_turn hc.2.2.1 hn hp
  rw [nxt_prv hi] at h2
  rw [h1, if_neg (by omega)]
theorem m_pick (hc : cvx W) (hn : 3 ≤ W.length) : da W = 2 * pin W + srd W - 2 ∧ 0 < da W := by
  obtain ⟨hs, hv⟩ := Smp_F2 hc hn
  obtain ⟨h1, h2, h3⟩ := pick_abs (by decide) hs hv
  have h4 := pin_bx (by decide) hs hv
  rw [m_mu hc hn] at h3
  have hp : 0 < da W := by
    unfold sg at h3
    by_cases c : 0 < da W
    · exact c
    · rw [if_neg c] at h3
      by_cases c2 : da W < 0
      · rw [if_pos c2] at h3
        omega
      · rw [if_neg c2] at h3
        omega
  rw [h4]
  exact ⟨by omega, hp⟩
theorem m_sq (hc : cvx W) (hn : 3 ≤ W.length) {i : Nat} (hi : i < W.length) : 0 < sqL W i := by
  have hn2 := nxt_lt hi
  have hne := nxt_ne (show 2 ≤ W.length by omega) hi
  refine sq_pos fun w => ?_
  have e : pt W i = pt W (nxt W.length i) := pt_eq (by show pX W i = pX W (nxt W.length i); have := w.1; unfold rnE at this; omega) (by show pY W i = pY W (nxt W.length i); have := w.2; unfold rsE at this; omega)
  rcases Nat.lt_or_ge i (nxt W.length i) with c | c
  · exact hc.2.2.2 i _ c hn2 e
  · exact hc.2.2.2 _ i (by omega) hi e.symm
theorem fig_of (h : hul D W) (hc : cvx W) (hl : W.length ≤ 60) (hf : 3 ≤ W.length → filP W) : figP W :=
  ⟨⟨h.1, hl⟩, hc.2.1, m_first h hc, fun hn k hk => ed_turn hc.2.2.1 hn hk, fun k hk => wI_0 hk (eOn_1.mpr (On_l _ _)), fun hn => m_da12 hn, fun hn => ⟨m_pick hc hn, fun _ hi => m_sq hc hn hi, hf hn⟩⟩
theorem good_g3 {P : PL} (h : goodP P) : g3P P := ⟨by have := h.1; omega, h.ok⟩
theorem m_hol {P F : PL} {a : Int} (h : hul D F) (hc : cvx F) (hd : ∀ q, hp P a q → D q) : holP P F a := fun i hi e => hul_in h hc.2.2.1 (x := pX P i) (y := pY P i) (hd _ ⟨i, hi, e, rfl⟩)
theorem m_pts {P F : PL} {a b1 : Int} (h : hul D F) (hd : ∀ q, D q → hp P a q ∨ hp P b1 q) : ptsP P F a b1 := fun k hk => by
  rcases hd _ (h.2.1 k hk) with ⟨i, hi, e, w⟩ | ⟨i, hi, e, w⟩
  · exact ⟨i, hi, Or.inl e, (congrArg Prod.fst w).symm, (congrArg Prod.snd w).symm⟩
  · exact ⟨i, hi, Or.inr e, (congrArg Prod.fst w).symm, (congrArg Prod.snd w).symm⟩
/-- two rows of the same places, in one order, with like marks, are the same -/
theorem m_hfA {P : PL} (hg : goodP P) {a : Int} (hc : cntN P a P.length ≠ 0) (hf : ∀ (D : Pt → Prop) W, hul D W → cvx W → 3 ≤ W.length → filP W) : hfA P a := by
  obtain ⟨h1, h2, h3⟩ := put_hul (good_g3 hg) hc
  exact ⟨fig_of h1 h2 h3 (hf _ _ h1 h2), m_hol h1 h2 (fun _ q => q), m_pts h1 (fun _ q => Or.inl q)⟩
theorem m_hfJ {P : PL} (hg : goodP P) {a b1 : Int} (hc : fl2 P a b1) (hf : ∀ (D : Pt → Prop) W, hul D W → cvx W → 3 ≤ W.length → filP W) : hfJ P a b1 := by
  obtain ⟨h1, h2, h3⟩ := jn_hul (good_g3 hg) hc
  exact ⟨fig_of h1 h2 h3 (hf _ _ h1 h2), m_hol h1 h2 (fun _ q => Or.inl q), m_hol h1 h2 (fun _ q => Or.inr q), m_pts h1 (fun _ q => q)⟩
theorem m_hfS {P : PL} (hg : goodP P) {a b1 : Int} (hc : fl2 P a b1) (hf : ∀ (D : Pt → Prop) W, hul D W → cvx W → 3 ≤ W.length → filP W) : hfS P a b1 := by
  obtain ⟨h1, h2, h3⟩ := sm_hul (good_g3 hg) hc
  exact ⟨fig_of h1 h2 h3 (hf _ _ h1 h2), fun i j hi hj ei ej => hul_in h1 h2.2.2.1 (x := pX P i + pX P j) (y := pY P i + pY P j) ⟨_, _, ⟨i, hi, ei, rfl⟩, ⟨j, hj, ej, rfl⟩, rfl⟩⟩
end MFIG
