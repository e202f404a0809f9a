/-! The way round is the hull -/
section GIFT
variable {Q W : PL} {D D' : Pt → Prop}
theorem far_on {i j k : Nat} (h : On (pt Q i) (pt Q k) (pt Q j)) : farQ Q i j ≤ farQ Q i k ∧ (pt Q j ≠ pt Q k → farQ Q i j < farQ Q i k) := by
  obtain ⟨h1, h2, h3, h4, _⟩ := h
  dsimp only [pt] at h1 h2 h3 h4
  refine ⟨by unfold farQ; omega, fun e => ?_⟩
  have e2 : ¬ (pX Q j = pX Q k ∧ pY Q j = pY Q k) := fun w => e (pt_eq w.1 w.2)
  unfold farQ
  omega
theorem pt_inv {L M : PL} {i j : Nat} (e : pt L i = pt M j) : pX L i = pX M j ∧ pY L i = pY M j := ⟨(congrArg Prod.fst e : (pt L i).1 = (pt M j).1), (congrArg Prod.snd e : (pt L i).2 = (pt M j).2)⟩
theorem sg_pos {z : Int} (h : 0 < z) : sg z = 1 := by
  unfold sg
  rw [if_pos h]
theorem sg_neg {z : Int} (h : z < 0) : sg z = -1 := by
  unfold sg
  rw [if_neg (by omega), if_pos h]
theorem sg_zero : sg 0 = 0 := rfl
theorem sgQ_T (i j k : Nat) : sgQ Q i j k = sg (T3 (pt Q i) (pt Q j) (pt Q k)) := rfl
theorem nx_step {i : Nat} {b : Pt} (hi : i < Q.length) (h : ∀ q, q < Q.length → 0 < T3 (pt Q i) b (pt Q q) ∨ On (pt Q i) b (pt Q q)) : ∀ n, n ≤ Q.length → (∃ k, k < n ∧ pt Q k = b) → pt Q (nxG Q i n) = b
  | 0, _, ⟨k, hk, _⟩ => absurd hk (Nat.not_lt_zero _)
  | n + 1, hn, hk => by
    have ih := nx_step hi h n (by omega)
    have hj := nxG_lt hi n (by omega)
    have en : nxG Q i (n + 1) = cif (gwU Q i (nxG Q i n) n) n (nxG Q i n) := rfl
    rw [en]
    generalize nxG Q i n = j at ih hj
    by_cases c : pt Q n = b
    · by_cases c2 : pt Q j = b
      · by_cases g : gwU Q i j n
        · rw [cif_t g, c]
        · rw [cif_f g, c2]
      · have g : gwU Q i j n := by
          unfold gwU
          have hq := h j hj
          rw [← c] at hq c2
          by_cases ej : j = i
          · refine Or.inr ⟨by rw [if_pos ej], ?_⟩
            rw [ej] at c2 ⊢
            have e2 : ¬ (pX Q i = pX Q n ∧ pY Q i = pY Q n) := fun w => c2 (pt_eq w.1 w.2)
            unfold farQ
            omega
          · rw [if_neg ej, sgQ_T]
            rcases hq with hq | hq
            · left
              rw [T3_swap, sg_neg (by omega)]
              decide
            · right
              have t : T3 (pt Q i) (pt Q n) (pt Q j) = 0 := hq.2.2.2.2
              refine ⟨?_, (far_on hq).2 c2⟩
              rw [T3_swap, t]
              rfl
        rw [cif_t g, c]
    · obtain ⟨k, hk1, hk2⟩ := hk
      have ek : k ≠ n := fun e => c (e ▸ hk2)
      have hb := ih ⟨k, by omega, hk2⟩
      have hq := h n (by omega)
      rw [← hb] at hq c
      have g : ¬ gwU Q i j n := by
        unfold gwU
        rcases hq with hq | hq
        · have ej : j ≠ i := fun e => by
            rw [e, T3_aa] at hq
            exact Int.lt_irrefl _ hq
          rw [if_neg ej, sgQ_T, sg_pos hq]
          rintro (w | ⟨w, _⟩)
          · exact absurd w (by decide)
          · exact absurd w (by decide)
        · have t : T3 (pt Q i) (pt Q j) (pt Q n) = 0 := hq.2.2.2.2
          have z : (if j = i then (0 : Int) else sgQ Q i j n) = 0 := by
            rw [sgQ_T, t]
            split <;> rfl
          rw [z]
          have := (far_on hq).1
          rintro (w | ⟨_, w⟩)
          · exact absurd w (by decide)
          · omega
      rw [cif_f g, hb]
theorem lexL_lv (hb : okS Q) {i j : Nat} (hi : i < Q.length) (hj : j < Q.length) : lexL Q i j ↔ lv 100000 1 (pt Q i) < lv 100000 1 (pt Q j) := by
  have b1 := hb i hi
  have b2 := hb j hj
  show _ ↔ 100000 * pX Q i + 1 * pY Q i < 100000 * pX Q j + 1 * pY Q j
  unfold lexL
  omega
theorem fi_min (hb : okS Q) : ∀ n, n < Q.length → ∀ k, k ≤ n → lv 100000 1 (pt Q (fiN Q n)) ≤ lv 100000 1 (pt Q k)
  | 0, _, k, hk => by
    rw [show k = 0 by omega]
    exact Int.le_refl _
  | n + 1, hn, k, hk => by
    have ih := fi_min hb n (by omega)
    have hl := fiN_le Q n
    have e := lexL_lv hb hn (show fiN Q n < Q.length by omega)
    unfold fiN
    by_cases c : lexL Q (n + 1) (fiN Q n)
    · rw [if_pos c]
      have c' := e.mp c
      by_cases ek : k = n + 1
      · rw [ek]
        exact Int.le_refl _
      · exact Int.le_trans (Int.le_of_lt c') (ih k (by omega))
    · rw [if_neg c]
      by_cases ek : k = n + 1
      · rw [ek]
        exact Int.not_lt.mp fun w => c (e.mpr w)
      · exact ih k (by omega)
theorem hul_D (h : hul D W) (e : ∀ q, D' q ↔ D q) : hul D' W := by
  obtain ⟨h1, h2, h3, h4, h5⟩ := h
  exact ⟨h1, fun i hi => (e _).mpr (h2 i hi), fun q hq => h3 q ((e q).mp hq), h4, fun i hi q hq => h5 i hi q ((e q).mp hq)⟩
theorem wq_at (hW : hul (pq Q Q.length) W) (hb : okS Q) : ∀ i, i ≤ W.length → pt Q (wq Q i) = pt W (if i < W.length then i else 0)
  | 0, _ => by
    obtain ⟨h1, h2, h3, h4, h5⟩ := hW
    rw [if_pos h1]
    obtain ⟨k, hk, e⟩ := h2 0 h1
    have hl := fiN_le Q (Q.length - 1)
    have m1 := fi_min hb (Q.length - 1) (by omega) k (by omega)
    have m2 := h3 (pt Q (fiN Q (Q.length - 1))) ⟨_, by omega, rfl⟩
    rw [← e] at m1
    refine lv_inj (hb _ (by show fiN Q (Q.length - 1) < _; omega)) ?_ (Int.le_antisymm m1 m2)
    rw [e]
    exact hb k hk
  | i + 1, hi => by
    have ih := wq_at hW hb i (by omega)
    obtain ⟨h1, h2, h3, h4, h5⟩ := hW
    rw [if_pos (by omega)] at ih
    obtain ⟨k0, hk0, _⟩ := h2 0 h1
    have hn : nxt W.length i < W.length := by
      unfold nxt
      split <;> omega
    have := nx_step (Q := Q) (i := wq Q i) (b := pt W (nxt W.length i)) (wq_lt (by omega) i) (fun q hq => by
      rw [ih]
      exact h5 i (by omega) _ ⟨q, hq, rfl⟩) Q.length (Nat.le_refl _) (by
      obtain ⟨k, hk, e⟩ := h2 _ hn
      exact ⟨k, hk, e.symm⟩)
    exact this
theorem gw_hul (hW : hul (pq Q Q.length) W) (hb : okS Q) (hl : W.length ≤ 200) : gwc Q W.length ∧ cEq (gwL Q W.length) W := by
  have k := wq_at hW hb
  obtain ⟨h1, h2, h3, h4, h5⟩ := hW
  have e0 := k 0 (Nat.zero_le _)
  rw [if_pos h1] at e0
  refine ⟨⟨hl, fun e => ?_, fun _ => ⟨h1, ?_, fun i hi hi2 s => ?_⟩⟩, gwL_len _ _, fun i hi => ?_⟩
  · obtain ⟨j, hj, _⟩ := h2 0 h1
    omega
  · have e := k W.length (Nat.le_refl _)
    rw [if_neg (Nat.lt_irrefl _), ← e0] at e
    exact pt_inv e
  · have e := k i (by omega)
    rw [if_pos hi2] at e
    have s' : pt Q (wq Q i) = pt Q (wq Q 0) := pt_eq s.1 s.2
    rw [e, e0] at s'
    exact h4 0 i hi hi2 s'.symm
  · rw [gwL_len] at hi
    have e := k i (by omega)
    rw [if_pos hi] at e
    have w := gwL_at (Q := Q) hi
    rw [w.1, w.2]
    exact pt_inv e
theorem gwc_one {n n2 : Nat} (h : gwc Q n) (h2 : gwc Q n2) : n = n2 := by
  obtain ⟨a1, a2, a3⟩ := h
  obtain ⟨b1, b2, b3⟩ := h2
  by_cases c : Q.length = 0
  · rw [a2 c, b2 c]
  · have u := a3 (by omega)
    have w := b3 (by omega)
    rcases Nat.lt_trichotomy n n2 with g | g | g
    · exact absurd u.2.1 (w.2.2 n u.1 g)
    · exact g
    · exact absurd w.2.1 (u.2.2 n2 w.1 g)
end GIFT

