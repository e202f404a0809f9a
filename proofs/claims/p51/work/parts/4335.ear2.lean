/-! Ears exist -/
section EAR2
variable {A B w : Int} {a b c d o p q r x y z : Pt} {u v : Nat → Pt} {n i j k e t : Nat}
def eEx (A B : Int) (v : Nat → Pt) (n : Nat) : Prop := ∀ t, t < n → ∃ i, i < n ∧ i ≠ t ∧ i ≠ nxt n t ∧ Ear v n (2 * mu A B v n + 1) i
theorem eEx_rt (h : Smp A B v n) (g : eEx A B (rt n v) n) : eEx A B v n := fun t ht => by
  obtain ⟨i, hi, e1, e2, he⟩ := g (prv n t) (prv_lt ht)
  rw [nxt_prv ht] at e2
  rw [mu_rt h] at he
  exact ⟨nxt n i, nxt_lt hi, fun q => e1 (by rw [← q, prv_nxt hi]), fun q => e2 (nxt_inj hi ht q), (Ear_rt hi).mp he⟩
/-- a corner that is another's row's own has the same number there, less what the other row has -/
theorem out_0 (h : Smp A B v n) (h1 : Smp A B u k) (hm : mu A B u k = mu A B v n) (hi : i < n) (hj : j < k) (e0 : u j = v i) (ep : u (prv k j) = v (prv n i)) (en : u (nxt k j) = v (nxt n i)) : wN A B v n (v i) = wN A B u k (v i) ∧ wN (-A) (-B) v n (v i) = wN (-A) (-B) u k (v i) := by
  have a1 := Smp_at h hi
  have a2 := Smp_at h1 hj
  have b1 := Smp_at (Smp_neg h) hi
  have b2 := Smp_at (Smp_neg h1) hj
  rw [e0, ep, en] at a2 b2
  rw [mu_neg h] at b1
  rw [mu_neg h1] at b2
  omega
theorem mu_sg (h : Smp A B u k) (ht : ∀ j, j < k → lv A B (u j) ≤ lv A B (u 0)) {m : Int} (hm : m = 0 ∨ m = -1) (hp : 0 < (2 * m + 1) * T3 (u (k - 1)) (u 0) (u 1)) : mu A B u k = m := by
  have h3 := h.1
  have := (mu_top h (show 0 < k by omega) ht).1
  rw [prv_0, nxt_0 (by omega)] at this
  rw [this]
  rcases hm with rfl | rfl
  · rw [show (2 * 0 + 1 : Int) = 1 from rfl, Int.one_mul] at hp
    rw [if_neg (by omega)]
  · rw [show (2 * -1 + 1 : Int) = -1 from rfl, Int.neg_mul, Int.one_mul] at hp
    rw [if_pos (by omega)]
theorem ear_main (hB : B ≠ 0) (h : Smp A B v n) (h4 : 4 ≤ n) (ht : ∀ j, j < n → lv A B (v j) ≤ lv A B (v 0)) (IH : ∀ (m : Nat) (u : Nat → Pt), m < n → Smp A B u m → eEx A B u m) : eEx A B v n := by
  have m01 := mu_01 h
  generalize hw : 2 * mu A B v n + 1 = w
  have hw' : w = 1 ∨ w = -1 := by omega
  have lne : ∀ {i j : Nat}, i < n → j < n → i ≠ j → lv A B (v i) ≠ lv A B (v j) := fun hi hj e => Smp_lv h hi hj e
  have lt0 : ∀ {j : Nat}, j < n → j ≠ 0 → lv A B (v j) < lv A B (v 0) := fun {j} hj e => by
    have := ht j hj
    have := lne hj (show 0 < n by omega) e
    omega
  have hH : 0 < w * T3 (v (n - 1)) (v 0) (v 1) := by
    have tp := (mu_top h (show 0 < n by omega) ht).1
    have f := Fdb_T (A := A) (B := B) (h.2.2.1 0 (by omega))
    rw [prv_0, nxt_0 (by omega)] at tp f
    have f := f (Or.inr ⟨lt0 (by omega) (by omega), lt0 (by omega) (by omega)⟩)
    rcases hw' with e | e
    · rw [e, Int.one_mul]
      split at tp <;> omega
    · rw [e, Int.neg_mul, Int.one_mul]
      split at tp <;> omega
  intro t htn
  rw [hw]
  by_cases hT : ∃ j, j < n ∧ (1 < j ∧ j + 1 < n ∧ Tri w (v (n - 1)) (v 0) (v 1) (v j))
  · obtain ⟨k, hkn, ⟨hk1, hk2, hz⟩, hmin⟩ := arg_minP (P := fun j => 1 < j ∧ j + 1 < n ∧ Tri w (v (n - 1)) (v 0) (v 1) (v j)) (fun j => -(w * T3 (v 1) (v (n - 1)) (v j))) n hT
    obtain ⟨hc, hA, hC⟩ := chd_ex h h4 ht hw' hH (k := k) (by omega) (by omega) hz (fun j g1 g2 g3 => by
      have := hmin j (by omega) ⟨by omega, by omega, g3⟩
      omega)
    have S1 := Smp1 h (by omega) (by omega) hc
    have S2 := Smp2 h (by omega) (by omega) hc
    have w1 : mu A B v (k + 1) = mu A B v n := mu_sg S1 (fun j hj => ht j (by omega)) m01 (by
      rw [hw, show k + 1 - 1 = k by omega, T3_rot]
      exact hC)
    have w2 : mu A B (upv v k) (n - k + 1) = mu A B v n := mu_sg S2 (fun j hj => by
      unfold upv
      rw [if_pos rfl]
      split
      · exact Int.le_refl _
      · exact ht _ (by omega)) m01 (by
      rw [hw, upv_0, upv_s (show n - k + 1 - 1 ≠ 0 by omega), upv_s (show 1 ≠ 0 by omega), show k - 1 + (n - k + 1 - 1) = n - 1 by omega, show k - 1 + 1 = k by omega]
      exact hA)
    have spl := fun (A' B' : Int) (z : Pt) => wN_part (A := A') (B := B') (v := v) (n := n) (k := k) (by omega) (by omega) z
    by_cases ct : t < k
    · obtain ⟨i, hi, e1, e2, he⟩ := IH (n - k + 1) (upv v k) (by omega) S2 0 (by omega)
      rw [nxt_0 (by omega)] at e2
      have he0 := he
      rw [w2, hw] at he
      have ep : upv v k (prv (n - k + 1) i) = v (prv n (k - 1 + i)) := by
        rw [show prv (n - k + 1) i = i - 1 from if_pos (by omega), show prv n (k - 1 + i) = k - 1 + i - 1 from if_pos (by omega), upv_s (by omega)]
        congr 1
        omega
      have e0 : upv v k i = v (k - 1 + i) := upv_s (by omega)
      have en : upv v k (nxt (n - k + 1) i) = v (nxt n (k - 1 + i)) := by
        by_cases c : i + 1 < n - k + 1
        · rw [nxt_e c, nxt_e (by omega), upv_s (by omega)]
          congr 1
        · rw [nxt_l (by omega), nxt_l (by omega), upv_0]
      refine ⟨k - 1 + i, by omega, by omega, ?_, ?_, fun j hj q1 q2 q3 => ?_⟩
      · rw [nxt_e (by omega)]
        omega
      · rw [← ep, ← e0, ← en]
        exact he.1
      · rw [← ep, ← e0, ← en]
        by_cases cj : 0 < j ∧ j < k
        · intro tri
          refine ear_nz (n := n - k + 1) (v := upv v k) (w := w) (x := v j) S2 hB (by rw [w2, hw]) hi he (fun m hm => ?_) tri ?_
          · unfold upv
            split
            · exact lne hj (by omega) (by omega)
            · exact lne hj (by omega) (by omega)
          · have s1 := spl A B (v j)
            have s2 := spl (-A) (-B) (v j)
            have o := out_0 h S1 w1 hj (show j < k + 1 by omega) rfl (by
              rw [show prv (k + 1) j = j - 1 from if_pos cj.1, show prv n j = j - 1 from if_pos cj.1]) (by
              rw [nxt_e (show j + 1 < k + 1 by omega), nxt_e (show j + 1 < n by omega)])
            omega
        · by_cases c0 : j = 0
          · subst c0
            have := he.2 0 (by omega) (fun q => q1 (by
              have : i = 1 := by
                unfold prv at q
                split at q <;> omega
              omega)) (by omega) (fun q => q3 (by
              unfold nxt at q
              split at q
              · omega
              · rw [nxt_l (by omega)]))
            rw [upv_0] at this
            exact this
          · have := he.2 (j - k + 1) (by omega) (fun q => q1 (by
              unfold prv at q ⊢
              split at q <;> split <;> omega)) (by omega) (fun q => q3 (by
              unfold nxt at q ⊢
              split at q <;> split <;> omega))
            rw [upv_s (show j - k + 1 ≠ 0 by omega), show k - 1 + (j - k + 1) = j by omega] at this
            exact this
    · obtain ⟨i, hi, e1, e2, he⟩ := IH (k + 1) v (by omega) S1 k (by omega)
      rw [nxt_l rfl] at e2
      rw [w1, hw] at he
      have ep : prv (k + 1) i = prv n i := by
        rw [show prv (k + 1) i = i - 1 from if_pos (by omega), show prv n i = i - 1 from if_pos (by omega)]
      have en : nxt (k + 1) i = nxt n i := by
        rw [nxt_e (show i + 1 < k + 1 by omega), nxt_e (show i + 1 < n by omega)]
      refine ⟨i, by omega, by omega, ?_, ?_, fun j hj q1 q2 q3 => ?_⟩
      · unfold nxt
        split <;> omega
      · rw [← ep, ← en]
        exact he.1
      · rw [← ep] at q1
        rw [← en] at q3
        rw [← ep, ← en]
        by_cases cj : j < k + 1
        · exact he.2 j cj q1 q2 q3
        · intro tri
          refine ear_nz (n := k + 1) (v := v) (w := w) (x := v j) S1 hB (by rw [w1, hw]) hi he (fun m hm => lne hj (by omega) (by omega)) tri ?_
          have s1 := spl A B (v j)
          have s2 := spl (-A) (-B) (v j)
          have o := out_0 h S2 w2 hj (show j - k + 1 < n - k + 1 by omega) (by
            rw [upv_s (by omega)]
            congr 1
            omega) (by
            rw [show prv (n - k + 1) (j - k + 1) = j - k from if_pos (by omega), show prv n j = j - 1 from if_pos (by omega), upv_s (by omega)]
            congr 1
            omega) (by
            by_cases c : j + 1 < n
            · rw [nxt_e c, nxt_e (show j - k + 1 + 1 < n - k + 1 by omega), upv_s (by omega)]
              congr 1
              omega
            · rw [nxt_l (show j + 1 = n by omega), nxt_l (show j - k + 1 + 1 = n - k + 1 by omega), upv_0])
          omega
  · have ear0 : Ear v n w 0 := by
      refine ⟨by rw [prv_0, nxt_0 (by omega)]; exact hH, fun j hj q1 q2 q3 tri => hT ⟨j, hj, ?_⟩⟩
      rw [prv_0] at q1
      rw [nxt_0 (by omega)] at q3
      rw [prv_0, nxt_0 (by omega)] at tri
      exact ⟨by omega, by omega, tri⟩
    by_cases ct : t ≠ 0 ∧ nxt n t ≠ 0
    · exact ⟨0, by omega, Ne.symm ct.1, Ne.symm ct.2, ear0⟩
    · have S := cut0 h h4 hw' ear0
      have ms := mu_cut0 h h4 hw' ear0
      obtain ⟨i, hi, e1, e2, he⟩ := IH (n - 1) (fun i => v (i + 1)) (by omega) S (n - 2) (by omega)
      rw [nxt_l (show n - 2 + 1 = n - 1 by omega)] at e2
      rw [ms, hw] at he
      have ep : prv (n - 1) i + 1 = prv n (i + 1) := by
        rw [prv_e, show prv (n - 1) i = i - 1 from if_pos (by omega)]
        omega
      have en : nxt (n - 1) i + 1 = nxt n (i + 1) := by
        rw [nxt_e (show i + 1 < n - 1 by omega), nxt_e (show i + 1 + 1 < n by omega)]
      have tt : t = 0 ∨ t = n - 1 := by
        unfold nxt at ct
        split at ct <;> omega
      obtain ⟨he1, he2⟩ := he
      have he1 : 0 < w * T3 (v (prv (n - 1) i + 1)) (v (i + 1)) (v (nxt (n - 1) i + 1)) := he1
      rw [ep, en] at he1
      refine ⟨i + 1, by omega, by omega, ?_, he1, fun j hj q1 q2 q3 => ?_⟩
      · unfold nxt
        split <;> omega
      · by_cases c0 : j = 0
        · subst c0
          intro tri
          rw [prv_e] at he1 tri
          have := tri_lv (A := A) (B := B) hw' he1 tri (lt0 (show i < n by omega) (by omega)) (lt0 (show i + 1 < n by omega) (by omega)) (lt0 (nxt_lt (show i + 1 < n by omega)) (by
            rw [nxt_e (by omega)]
            omega))
          omega
        · have := he2 (j - 1) (by omega) (fun q => q1 (by omega)) (by omega) (fun q => q3 (by omega))
          have this : ¬ Tri w (v (prv (n - 1) i + 1)) (v (i + 1)) (v (nxt (n - 1) i + 1)) (v (j - 1 + 1)) := this
          rw [ep, en, show j - 1 + 1 = j by omega] at this
          exact this
theorem T3_3 (v : Nat → Pt) (hi : i < 3) : T3 (v (prv 3 i)) (v i) (v (nxt 3 i)) = T3 (v 0) (v 1) (v 2) := by
  match i, hi with
  | 0, _ => exact T3_rot _ _ _
  | 1, _ => rfl
  | 2, _ => exact (T3_rot _ _ _).symm
theorem ear_ex (hB : B ≠ 0) : ∀ (N n : Nat) (v : Nat → Pt), n < N → Smp A B v n → eEx A B v n
  | 0, _, _, h, _ => absurd h (Nat.not_lt_zero _)
  | N + 1, n, v, hn, h => by
    have h3 := h.1
    by_cases c : 4 ≤ n
    · have go : ∀ (i : Nat) (v : Nat → Pt), i < n → Smp A B v n → (∀ j, j < n → lv A B (v j) ≤ lv A B (v i)) → eEx A B v n := fun i => by
        induction i with
        | zero => exact fun v _ hv ht => ear_main hB hv c ht fun m u hm hu => ear_ex hB N m u (by omega) hu
        | succ i ih =>
          intro v hi hv ht
          refine eEx_rt hv (ih (rt n v) (by omega) (Smp_rt hv) fun j hj => ?_)
          have := ht _ (nxt_lt hj)
          unfold rt
          rw [nxt_e hi]
          exact this
      obtain ⟨i, hi, ht⟩ := top_ex A B v (show 0 < n by omega)
      exact go i v hi h ht
    · have e3 : n = 3 := by omega
      subst e3
      intro t ht
      obtain ⟨i0, hi0, ht0⟩ := top_ex A B v (show 0 < 3 by omega)
      have tp := (mu_top h hi0 ht0).1
      have l1 := Smp_lv h (prv_lt hi0) hi0 (prv_ne (by omega) hi0)
      have l2 := Smp_lv h (nxt_lt hi0) hi0 (nxt_ne (by omega) hi0)
      have t1 := ht0 _ (prv_lt hi0)
      have t2 := ht0 _ (nxt_lt hi0)
      have f := Fdb_T (A := A) (B := B) (h.2.2.1 i0 hi0) (Or.inr ⟨by omega, by omega⟩)
      rw [T3_3 v hi0] at tp f
      have pos : 0 < (2 * mu A B v 3 + 1) * T3 (v 0) (v 1) (v 2) := by
        rw [tp]
        split
        · rw [show (2 * -1 + 1 : Int) = -1 from rfl, Int.neg_mul, Int.one_mul]
          omega
        · rw [show (2 * 0 + 1 : Int) = 1 from rfl, Int.one_mul]
          omega
      have all : ∀ i, i < 3 → Ear v 3 (2 * mu A B v 3 + 1) i := fun i hi => ⟨by rw [T3_3 v hi]; exact pos, fun j hj q1 q2 q3 => by
        exfalso
        unfold prv at q1
        unfold nxt at q3
        split at q1 <;> split at q3 <;> omega⟩
      refine ⟨nxt 3 (nxt 3 t), nxt_lt (nxt_lt ht), nxt2_ne (by omega) ht, nxt_ne (by omega) (nxt_lt ht), all _ (nxt_lt (nxt_lt ht))⟩
end EAR2

