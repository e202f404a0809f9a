/-! What is left behind an ear is simple -/
section LEFT
variable {A B w : Int} {a b c d o p q r x y z : Pt} {u v : Nat → Pt} {n i j e : Nat}
theorem nxt_0 {n : Nat} (h : 1 < n) : nxt n 0 = 1 := if_pos h
theorem cut0 (h : Smp A B v n) (h4 : 4 ≤ n) (hw : w = 1 ∨ w = -1) (he : Ear v n w 0) : Smp A B (fun i => v (i + 1)) (n - 1) := by
  obtain ⟨hH, hT⟩ := he
  rw [prv_0, nxt_0 (show 1 < n by omega)] at hH hT
  have l1 : lv A B (v (n - 1)) ≠ lv A B (v 1) := Smp_lv h (by omega) (by omega) (by omega)
  have nT : ∀ j, 1 < j → j + 1 < n → ¬ Tri w (v (n - 1)) (v 0) (v 1) (v j) := fun j h1 h2 => hT j (by omega) (by omega) (by omega) (by omega)
  have go : ∀ i j, i < j → j < n - 1 → nxt (n - 1) i ≠ j → nxt (n - 1) j ≠ i → ¬ Mt (v (i + 1)) (v (nxt (n - 1) i + 1)) (v (j + 1)) (v (nxt (n - 1) j + 1)) := fun i j hij hj e1 e2 => by
    rw [nxt_e (show i + 1 < n - 1 by omega)] at e1 ⊢
    by_cases c : j + 1 < n - 1
    · rw [nxt_e c]
      exact Smp_E h (by omega) (by omega)
    · rw [nxt_l (show j + 1 = n - 1 by omega)] at e2 ⊢
      rw [show j + 1 = n - 1 by omega]
      refine side_free hw hH l1 (Smp_lv h (by omega) (by omega) (by omega)) (nT (i + 1) (by omega) (by omega)) (nT (i + 1 + 1) (by omega) (by omega)) ?_ ?_
      · exact fun m => Smp_L h (i := i + 1) (by omega) (by omega) (Mt_tw m)
      · exact Smp_E h (i := 0) (j := i + 1) (by omega) (by omega)
  refine ⟨by omega, fun i j hi hj e => ?_, fun i hi w => ?_, fun i j hi hj e1 e2 e3 m => ?_⟩
  · have := h.2.1 (i + 1) (j + 1) (by omega) (by omega) e
    omega
  · have w : Fdb (v (prv (n - 1) i + 1)) (v (i + 1)) (v (nxt (n - 1) i + 1)) := w
    by_cases c0 : i = 0
    · subst c0
      rw [prv_0, nxt_e (by omega), show n - 1 - 1 + 1 = n - 1 by omega] at w
      rcases w with w | w
      · exact Smp_L h (i := 1) (by omega) (by omega) (Or.inr (Or.inl w))
      · exact nT 2 (by omega) (by omega) (tri_on hw hH l1 w)
    · by_cases c1 : i + 1 < n - 1
      · rw [nxt_e c1] at w
        have ep : prv (n - 1) i + 1 = i := by
          unfold prv
          rw [if_pos (by omega)]
          omega
        rw [ep] at w
        exact Smp_F h (by omega) w
      · rw [nxt_l (by omega)] at w
        have ep : prv (n - 1) i + 1 = n - 2 := by
          unfold prv
          rw [if_pos (by omega)]
          omega
        rw [ep, show i + 1 = n - 1 by omega] at w
        rcases w with w | w
        · exact nT (n - 2) (by omega) (by omega) (tri_on hw hH l1 w)
        · have := Smp_E h (i := 0) (j := n - 2) (by omega) (by omega)
          rw [show n - 2 + 1 = n - 1 by omega] at this
          exact this (Or.inr (Or.inr (Or.inr (Or.inr w))))
  · rcases Nat.lt_or_gt_of_ne e1 with g | g
    · exact go i j g hj e2 e3 m
    · exact go j i g hi e3 e2 (Mt_tw m)
theorem sumN_f (f : Nat → Int) : ∀ n, sumN f (n + 1) = f 0 + sumN (fun i => f (i + 1)) n
  | 0 => by
    show (0 : Int) + f 0 = f 0 + 0
    omega
  | n + 1 => by
    have := sumN_f f n
    show sumN f (n + 1) + f (n + 1) = f 0 + (sumN (fun i => f (i + 1)) n + f (n + 1))
    omega
theorem wN_cut0 (h3 : 3 ≤ n) (z : Pt) : wN A B v n z = wN A B (fun i => v (i + 1)) (n - 1) z + tS A B (v (n - 1)) (v 0) (v 1) z := by
  obtain ⟨k, rfl⟩ : ∃ k, n = k + 2 := ⟨n - 2, by omega⟩
  rw [show k + 2 - 1 = k + 1 by omega]
  have e1 : wN A B v (k + 2) z = sumN (fun i => cS A B (v i) (v (nxt (k + 2) i)) z) (k + 1) + cS A B (v (k + 1)) (v (nxt (k + 2) (k + 1))) z := rfl
  have e2 : wN A B (fun i => v (i + 1)) (k + 1) z = sumN (fun i => cS A B (v (i + 1)) (v (nxt (k + 1) i + 1)) z) k + cS A B (v (k + 1)) (v (nxt (k + 1) k + 1)) z := rfl
  have e3 := sumN_f (fun i => cS A B (v i) (v (nxt (k + 2) i)) z) k
  have e4 : sumN (fun i => cS A B (v (i + 1)) (v (nxt (k + 2) (i + 1))) z) k = sumN (fun i => cS A B (v (i + 1)) (v (nxt (k + 1) i + 1)) z) k := sumN_cg k fun i hi => by
    rw [nxt_e (show i + 1 + 1 < k + 2 by omega), nxt_e (show i + 1 < k + 1 by omega)]
  have n1 : nxt (k + 2) (k + 1) = 0 := nxt_l rfl
  have n2 : nxt (k + 1) k = 0 := nxt_l rfl
  have n3 : nxt (k + 2) 0 = 1 := nxt_e (by omega)
  have e5 := cS_rev A B (v (k + 1)) (v 1) z
  rw [n1] at e1
  rw [n2] at e2
  rw [n3] at e3
  unfold tS
  have e3' : sumN (fun i => cS A B (v i) (v (nxt (k + 2) i)) z) (k + 1) = cS A B (v 0) (v 1) z + sumN (fun i => cS A B (v (i + 1)) (v (nxt (k + 2) (i + 1))) z) k := e3
  have e2' : wN A B (fun i => v (i + 1)) (k + 1) z = sumN (fun i => cS A B (v (i + 1)) (v (nxt (k + 1) i + 1)) z) k + cS A B (v (k + 1)) (v 1) z := e2
  omega
theorem wN_c3 (z : Pt) : wN A B v 3 z = tS A B (v 2) (v 0) (v 1) z := by
  show (0 : Int) + cS A B (v 0) (v 1) z + cS A B (v 1) (v 2) z + cS A B (v 2) (v 0) z = _
  unfold tS
  omega
/-- no place in an ear's triangle, but its corners, is out -/
theorem mu_cut0 (h : Smp A B v n) (h4 : 4 ≤ n) (hw : w = 1 ∨ w = -1) (he : Ear v n w 0) : mu A B (fun i => v (i + 1)) (n - 1) = mu A B v n := by
  have h' := cut0 h h4 hw he
  obtain ⟨hH, hT⟩ := he
  rw [prv_0, nxt_0 (show 1 < n by omega)] at hH hT
  have a1 := Smp_at h (i := 2) (by omega)
  have a2 := Smp_at h' (i := 1) (by omega)
  rw [prv_e, nxt_e (by omega)] at a1 a2
  have e := wN_cut0 (A := A) (B := B) (v := v) (show 3 ≤ n by omega) (v 2)
  have t := ((Tcon_any (A := A) (B := B) hw hH (x := v 2) (Smp_lv h (by omega) (by omega) (by omega)) (Smp_lv h (by omega) (by omega) (by omega)) (Smp_lv h (by omega) (by omega) (by omega))).1 (hT 2 (by omega) (by omega) (by omega) (by omega))).1
  have a2' : wN A B (fun i => v (i + 1)) (n - 1) (v 2) = mu A B (fun i => v (i + 1)) (n - 1) + sS A B (v 1) (v 2) (v 3) := a2
  have a1' : wN A B v n (v 2) = mu A B v n + sS A B (v 1) (v 2) (v 3) := a1
  omega
/-- an ear anywhere -/
theorem cutE (h4 : 4 ≤ n) (hw : w = 1 ∨ w = -1) : ∀ (e : Nat) (v : Nat → Pt), e < n → Smp A B v n → Ear v n w e → Smp A B (ers v e) (n - 1) ∧ (∀ A' B' z, wN A' B' v n z = wN A' B' (ers v e) (n - 1) z + tS A' B' (v (prv n e)) (v e) (v (nxt n e)) z) ∧ mu A B (ers v e) (n - 1) = mu A B v n
  | 0, v, _, h, he => by
    have eq : ∀ i, i < n - 1 → ers v 0 i = (fun i => v (i + 1)) i := fun i _ => if_neg (Nat.not_lt_zero _)
    refine ⟨Smp_cg (cut0 h h4 hw he) eq, fun A' B' z => ?_, (mu_cg (by omega) eq).trans (mu_cut0 h h4 hw he)⟩
    rw [wN_cg eq, prv_0, nxt_0 (show 1 < n by omega)]
    exact wN_cut0 (by omega) z
  | e + 1, v, hn, h, he => by
    have hr := Smp_rt h
    have he' : Ear (rt n v) n w e := (Ear_rt (by omega)).mpr (by rw [nxt_e hn]; exact he)
    obtain ⟨k1, k2, k3⟩ := cutE h4 hw e (rt n v) (by omega) hr he'
    have eq : ∀ i, i < n - 1 → ers (rt n v) e i = rt (n - 1) (ers v (e + 1)) i := fun i hi => by
      unfold ers rt
      by_cases c : i + 1 < n - 1
      · rw [nxt_e (show i + 1 < n by omega), nxt_e c, nxt_e (show i + 1 + 1 < n by omega)]
        by_cases c2 : i < e
        · rw [if_pos c2]
          exact (if_pos (show i + 1 < e + 1 by omega)).symm
        · rw [if_neg c2]
          exact (if_neg (show ¬ i + 1 < e + 1 by omega)).symm
      · rw [nxt_l (show i + 1 = n - 1 by omega), if_neg (by omega), nxt_l (show i + 1 + 1 = n by omega)]
        exact (if_pos (show 0 < e + 1 by omega)).symm
    have k1' : Smp A B (rt (n - 1) (ers v (e + 1))) (n - 1) := Smp_cg k1 fun i hi => (eq i hi).symm
    have k4 := Smp_urt k1'
    refine ⟨k4, fun A' B' z => ?_, ?_⟩
    · have := k2 A' B' z
      rw [wN_rt, wN_cg eq, wN_rt, rt_p (by omega)] at this
      rw [prv_e, nxt_e hn] at *
      have e5 : rt n v e = v (e + 1) := by
        unfold rt
        rw [nxt_e hn]
      have e6 : rt n v (e + 1) = v (nxt n (e + 1)) := rfl
      rw [e5, e6] at this
      exact this
    · rw [← mu_rt h, ← k3, mu_cg (by omega) eq, mu_rt k4]
theorem ear_nz (h : Smp A B v n) (hB : B ≠ 0) (hw : w = 2 * mu A B v n + 1) (hi : i < n) (he : Ear v n w i) (hx : ∀ j, j < n → lv A B x ≠ lv A B (v j)) (ht : Tri w (v (prv n i)) (v i) (v (nxt n i)) x) : ¬ (wN A B v n x = 0 ∧ wN (-A) (-B) v n x = 0) := by
  have hw' : w = 1 ∨ w = -1 := by
    have := mu_01 h
    omega
  have h3 := h.1
  rintro ⟨z1, z2⟩
  have T := (Tcon_any (A := A) (B := B) hw' he.1 (hx _ (prv_lt hi)) (hx i hi) (hx _ (nxt_lt hi))).2 ht
  by_cases c : 4 ≤ n
  · obtain ⟨k1, k2, k3⟩ := cutE c hw' i v hi h he
    have e1 := k2 A B x
    have e2 := k2 (-A) (-B) x
    have lx : ∀ j, j < n - 1 → lv A B x ≠ lv A B (ers v i j) := fun j hj => by
      unfold ers
      split
      · exact hx j (by omega)
      · exact hx (j + 1) (by omega)
    have a1 := Smp_any k1 hB lx
    have lx2 : ∀ j, j < n - 1 → lv (-A) (-B) x ≠ lv (-A) (-B) (ers v i j) := fun j hj g => by
      have q1 := lv_neg A B x
      have q2 := lv_neg A B (ers v i j)
      exact lx j hj (by omega)
    have a2 := Smp_any (Smp_neg k1) (show -B ≠ 0 by omega) lx2
    have m1 := mu_neg k1
    have m2 := mu_01 h
    omega
  · have e3 : n = 3 := by omega
    subst e3
    have q : ∀ A' B', tS A' B' (v (prv 3 i)) (v i) (v (nxt 3 i)) x = wN A' B' v 3 x := fun A' B' => by
      rw [wN_c3]
      match i, hi with
      | 0, _ => rfl
      | 1, _ => exact tS_rot A' B' (v 2) (v 0) (v 1) x
      | 2, _ => exact (tS_rot A' B' (v 1) (v 2) (v 0) x).symm
    rw [q, q] at T
    omega
end LEFT

