/-! What the corners have together -/
section VSUM
variable {A B w : Int} {a b c d o p q r x y z : Pt} {u v : Nat → Pt} {n i j k e : Nat}
theorem sumN_ers (f : Nat → Int) {e : Nat} : ∀ n, e < n → sumN f n = f e + sumN (fun k => f (if k < e then k else k + 1)) (n - 1)
  | 0, h => absurd h (Nat.not_lt_zero _)
  | n + 1, h => by
    rw [show n + 1 - 1 = n by omega]
    by_cases c : e = n
    · subst c
      have : sumN (fun k => f (if k < e then k else k + 1)) e = sumN f e := sumN_cg e fun i hi => by
        show f (if i < e then i else i + 1) = f i
        rw [if_pos hi]
      rw [this]
      show sumN f e + f e = _
      omega
    · obtain ⟨m, rfl⟩ : ∃ m, n = m + 1 := ⟨n - 1, by omega⟩
      have ih := sumN_ers f (m + 1) (show e < m + 1 by omega)
      rw [show m + 1 - 1 = m by omega] at ih
      show sumN f (m + 1) + f (m + 1) = f e + (sumN (fun k => f (if k < e then k else k + 1)) m + f (if m < e then m else m + 1))
      rw [if_neg (show ¬ m < e by omega)]
      omega
def om (A B : Int) (v : Nat → Pt) (n : Nat) (z : Pt) : Int := wN A B v n z + wN (-A) (-B) v n z
def oT (A B : Int) (a b c z : Pt) : Int := tS A B a b c z + tS (-A) (-B) a b c z
theorem cS_q (hw : w = 1 ∨ w = -1) (hH : 0 < w * T3 p q r) (h1 : lv A B p ≠ lv A B q) (h2 : lv A B r ≠ lv A B q) : cS A B r p q + cS (-A) (-B) r p q = (if (lv A B r < lv A B q ∧ lv A B q < lv A B p) ∨ (lv A B p < lv A B q ∧ lv A B q < lv A B r) then w else 0) ∧ 2 * cS A B r p q = w - 1 + 2 * sS A B p q r := by
  unfold cS sS
  rw [lv_neg, lv_neg, lv_neg, show T3 r p q = T3 p q r by rw [T3_rot]]
  generalize T3 p q r = t at *
  rcases hw with rfl | rfl
  · rw [Int.one_mul] at hH
    constructor
    · split <;> split <;> (try split) <;> (try split) <;> omega
    · split <;> split <;> (try split) <;> (try split) <;> omega
  · rw [Int.neg_mul, Int.one_mul] at hH
    constructor
    · split <;> split <;> (try split) <;> (try split) <;> (try split) <;> omega
    · split <;> split <;> (try split) <;> (try split) <;> omega
theorem tS_q (A B : Int) (p q r : Pt) : tS A B p q r q = cS A B r p q := by
  unfold tS
  rw [cS_b, cS_a]
  omega
theorem oT_q (A B : Int) (p q r : Pt) : oT A B p q r q = cS A B r p q + cS (-A) (-B) r p q := by
  unfold oT
  rw [tS_q, tS_q]
theorem oT_rot (A B : Int) (a b c z : Pt) : oT A B b c a z = oT A B a b c z := by
  unfold oT
  rw [tS_rot A B a b c z, tS_rot (-A) (-B) a b c z]
theorem oT_sum (hw : w = 1 ∨ w = -1) (hH : 0 < w * T3 p q r) (h1 : lv A B p ≠ lv A B q) (h2 : lv A B r ≠ lv A B q) (h3 : lv A B p ≠ lv A B r) : oT A B p q r p + oT A B p q r q + oT A B p q r r = w := by
  have H2 : 0 < w * T3 q r p := by rw [← T3_rot]; exact hH
  have H3 : 0 < w * T3 r p q := by rw [← T3_rot]; exact H2
  have a1 := (cS_q (A := A) (B := B) hw hH h1 h2).1
  have a2 := (cS_q (A := A) (B := B) hw H2 (Ne.symm h2) h3).1
  have a3 := (cS_q (A := A) (B := B) hw H3 (Ne.symm h3) (Ne.symm h1)).1
  have e1 := oT_q A B p q r
  have e2 := oT_q A B q r p
  have e3 := oT_q A B r p q
  rw [oT_rot A B p q r] at e2
  rw [oT_rot A B q r p, oT_rot A B p q r] at e3
  split at a1 <;> split at a2 <;> split at a3 <;> omega
theorem vsum (hB : B ≠ 0) : ∀ (N n : Nat) (v : Nat → Pt), n < N → Smp A B v n → sumN (fun i => om A B v n (v i)) n = (2 * mu A B v n + 1) * ((n : Int) - 2)
  | 0, _, _, h, _ => absurd h (Nat.not_lt_zero _)
  | N + 1, n, v, hn, h => by
    have h3 := h.1
    have m01 := mu_01 h
    obtain ⟨e, he, -, -, hE⟩ := ear_ex hB (n + 1) n v (by omega) h 0 (by omega)
    generalize hw : 2 * mu A B v n + 1 = w at hE
    have hw' : w = 1 ∨ w = -1 := by omega
    have hp := prv_lt he
    have hx := nxt_lt he
    have d1 := nxt_ne (show 2 ≤ n by omega) he
    have d2 := prv_ne (show 2 ≤ n by omega) he
    have d3 := prv_ne_nxt h3 he
    have tri := oT_sum (A := A) (B := B) hw' hE.1 (Smp_lv h hp he d2) (Smp_lv h hx he d1) (Smp_lv h hp hx d3)
    by_cases c : 4 ≤ n
    · obtain ⟨k1, k2, k3⟩ := cutE c hw' e v he h hE
      have ih := vsum hB N (n - 1) (ers v e) (by omega) k1
      rw [k3, hw] at ih
      have e1 : sumN (fun i => om A B v n (v i)) n = sumN (fun i => om A B (ers v e) (n - 1) (v i)) n + sumN (fun i => oT A B (v (prv n e)) (v e) (v (nxt n e)) (v i)) n := by
        rw [← sumN_ad]
        refine sumN_cg n fun i hi => ?_
        have := k2 A B (v i)
        have := k2 (-A) (-B) (v i)
        show om A B v n (v i) = om A B (ers v e) (n - 1) (v i) + oT A B (v (prv n e)) (v e) (v (nxt n e)) (v i)
        unfold om oT
        omega
      have e2 := sumN_ers (fun i => om A B (ers v e) (n - 1) (v i)) n he
      have e3 : sumN (fun k => om A B (ers v e) (n - 1) (v (if k < e then k else k + 1))) (n - 1) = sumN (fun i => om A B (ers v e) (n - 1) (ers v e i)) (n - 1) := sumN_cg _ fun i hi => by
        congr 1
        unfold ers
        split <;> rfl
      have e4 : om A B (ers v e) (n - 1) (v e) = 0 := by
        have f1 := k2 A B (v e)
        have f2 := k2 (-A) (-B) (v e)
        rw [tS_q] at f1 f2
        have a1 := Smp_at h he
        have a2 := Smp_at (Smp_neg h) he
        rw [mu_neg h] at a2
        have q1 := (cS_q (A := A) (B := B) hw' hE.1 (Smp_lv h hp he d2) (Smp_lv h hx he d1)).2
        have q2 := (cS_q (A := -A) (B := -B) hw' hE.1 (Smp_lv (Smp_neg h) hp he d2) (Smp_lv (Smp_neg h) hx he d1)).2
        unfold om
        omega
      have e5 : sumN (fun i => oT A B (v (prv n e)) (v e) (v (nxt n e)) (v i)) n = w := by
        rw [sumN_three hp he hx (Ne.symm d2) d1 (Ne.symm d3) (fun i hi q1 q2 q3 => by
          have t := (Tcon_any (A := A) (B := B) hw' hE.1 (Smp_lv h hi hp q1) (Smp_lv h hi he q2) (Smp_lv h hi hx q3)).1 (hE.2 i hi q1 q2 q3)
          show oT A B _ _ _ (v i) = 0
          unfold oT
          omega)]
        exact tri
      have e2' : sumN (fun i => om A B (ers v e) (n - 1) (v i)) n = om A B (ers v e) (n - 1) (v e) + sumN (fun k => om A B (ers v e) (n - 1) (v (if k < e then k else k + 1))) (n - 1) := e2
      have e6 : w * ((n : Int) - 2) = w * (((n - 1 : Nat) : Int) - 2) + w := by
        rw [show ((n - 1 : Nat) : Int) = (n : Int) - 1 by omega]
        grind
      omega
    · have e3 : n = 3 := by omega
      subst e3
      have q : ∀ x, om A B v 3 x = oT A B (v (prv 3 e)) (v e) (v (nxt 3 e)) x := fun x => by
        unfold om oT
        rw [wN_c3, wN_c3]
        match e, he with
        | 0, _ => rfl
        | 1, _ =>
          show _ = tS A B (v 0) (v 1) (v 2) x + tS (-A) (-B) (v 0) (v 1) (v 2) x
          rw [tS_rot A B (v 2) (v 0) (v 1) x, tS_rot (-A) (-B) (v 2) (v 0) (v 1) x]
        | 2, _ =>
          show _ = tS A B (v 1) (v 2) (v 0) x + tS (-A) (-B) (v 1) (v 2) (v 0) x
          rw [tS_rot A B (v 1) (v 2) (v 0) x, tS_rot (-A) (-B) (v 1) (v 2) (v 0) x]
      have e5 : sumN (fun i => om A B v 3 (v i)) 3 = w := by
        rw [sumN_three hp he hx (Ne.symm d2) d1 (Ne.symm d3) (fun i hi q1 q2 q3 => by
          exfalso
          unfold prv at q1
          unfold nxt at q3
          split at q1 <;> split at q3 <;> omega), q, q, q]
        exact tri
      rw [e5]
      show w = w * 1
      omega
end VSUM

