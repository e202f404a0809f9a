/-! A simple row of corners: two numbers at most, one to each side -/
section JORD
variable {A B : Int} {a b c d o p q r x z W : Pt} {v : Nat → Pt} {n i j : Nat}
theorem prv_nxt {n i : Nat} (hi : i < n) : prv n (nxt n i) = i := by
  unfold nxt prv
  split <;> split <;> omega
theorem prv_ne_nxt {n i : Nat} (hn : 3 ≤ n) (hi : i < n) : prv n i ≠ nxt n i := by
  unfold nxt prv
  split <;> split <;> omega
theorem prv_ne {n i : Nat} (hn : 2 ≤ n) (hi : i < n) : prv n i ≠ i := by
  unfold prv
  split <;> omega
theorem sumN_three {f : Nat → Int} {n u1 u2 u3 : Nat} (h1 : u1 < n) (h2 : u2 < n) (h3 : u3 < n) (d1 : u2 ≠ u1) (d2 : u3 ≠ u2) (d3 : u3 ≠ u1) (hz : ∀ i, i < n → i ≠ u1 → i ≠ u2 → i ≠ u3 → f i = 0) : sumN f n = f u1 + f u2 + f u3 := by
  have e1 := sumN_sp f n h1
  have e2 : sumN (fun i => if i = u1 then 0 else f i) n = (if u2 = u1 then 0 else f u2) + sumN (fun i => if i = u2 then 0 else (if i = u1 then 0 else f i)) n := sumN_sp _ n h2
  have e3 : sumN (fun i => if i = u2 then 0 else (if i = u1 then 0 else f i)) n = (if u3 = u2 then 0 else (if u3 = u1 then 0 else f u3)) + sumN (fun i => if i = u3 then 0 else (if i = u2 then 0 else (if i = u1 then 0 else f i))) n := sumN_sp _ n h3
  have e4 : sumN (fun i => if i = u3 then 0 else (if i = u2 then 0 else (if i = u1 then 0 else f i))) n = 0 := sumN_z n fun i hi => by
    by_cases c3 : i = u3
    · exact if_pos c3
    · by_cases c2 : i = u2
      · rw [if_neg c3, if_pos c2]
      · by_cases c1 : i = u1
        · rw [if_neg c3, if_neg c2, if_pos c1]
        · rw [if_neg c3, if_neg c2, if_neg c1]
          exact hz i hi c1 c2 c3
  rw [if_neg d1] at e2
  rw [if_neg d2, if_neg d3] at e3
  omega
theorem cS_b (A B : Int) (a b : Pt) : cS A B a b b = 0 := by
  unfold cS
  rw [T3_bb, if_neg (by omega), if_neg (by omega)]
theorem cS_a (A B : Int) (a b : Pt) : cS A B a b a = 0 := by
  unfold cS
  rw [T3_ba, if_neg (by omega), if_neg (by omega)]
theorem cS_on (A B : Int) {a b z : Pt} (h : T3 a b z = 0) : cS A B a b z = 0 := by
  unfold cS
  rw [h, if_neg (by omega), if_neg (by omega)]
theorem fS_p (A B : Int) (p q : Pt) : fS A B p q p = 0 := by
  unfold fS
  rw [if_neg (by omega)]
theorem fS_q (A B : Int) (p q : Pt) : fS A B p q q = 0 := by
  unfold fS
  rw [T3_bb, if_neg (by omega)]
/-- no fold: neighbours to one side of a corner, in level, aren't on a line with it -/
theorem Fdb_T (h : ¬ Fdb o p q) (g : (lv A B p < lv A B o ∧ lv A B p < lv A B q) ∨ (lv A B o < lv A B p ∧ lv A B q < lv A B p)) : T3 o p q ≠ 0 := fun e => by
  have e2 : T3 p q o = 0 := by rw [← T3_rot]; exact e
  have e3 : T3 p o q = 0 := by rw [T3_swap, e2]; rfl
  have e4 : T3 q p o = 0 := by rw [T3_ba', e2]; rfl
  apply h
  rcases g with ⟨g1, g2⟩ | ⟨g1, g2⟩
  · by_cases c : lv A B o ≤ lv A B q
    · exact Or.inl (on_of g2 (Int.le_of_lt g1) c e2)
    · exact Or.inr (On_sym (on_of g1 (Int.le_of_lt g2) (by omega) e3))
  · by_cases c : lv A B o ≤ lv A B q
    · exact Or.inr (on_of g1 c (Int.le_of_lt g2) e)
    · exact Or.inl (On_sym (on_of g2 (by omega) (Int.le_of_lt g1) e4))
theorem up_A (h1 : lv A B p < lv A B q) (h2 : lv A B o ≠ lv A B p) (h3 : lv A B p < lv A B o → T3 o p q ≠ 0) : fS A B p q o - cS A B o p q = sS A B o p q := by
  unfold fS cS sS
  rw [← T3_rot o p q]
  generalize T3 o p q = s at *
  split <;> split <;> (try split) <;> (try split) <;> omega
theorem up_B (h1 : lv A B p < lv A B q) (h2 : lv A B r ≠ lv A B q) (h4 : lv A B r ≠ lv A B p) : fS A B p q r - cS A B q r p = sS A B p q r := by
  unfold fS cS sS
  rw [← T3_rot p q r]
  generalize T3 p q r = s at *
  split <;> split <;> (try split) <;> (try split) <;> omega
theorem dn_A (h1 : lv A B q < lv A B p) (h2 : lv A B o ≠ lv A B p) (h3 : lv A B o < lv A B p → T3 o p q ≠ 0) : cS A B o p q + fS A B q p o = 1 - sS A B o p q := by
  unfold fS cS sS
  rw [T3_ba' p q o, ← T3_rot o p q]
  generalize T3 o p q = s at *
  split <;> split <;> (try split) <;> (try split) <;> omega
theorem dn_B (h1 : lv A B q < lv A B p) (h2 : lv A B r ≠ lv A B q) (h3 : lv A B q < lv A B r → T3 p q r ≠ 0) : cS A B q r p + fS A B q p r = 1 - sS A B p q r := by
  unfold fS cS sS
  rw [T3_ba' p q r, ← T3_rot p q r]
  generalize T3 p q r = s at *
  split <;> split <;> (try split) <;> (try split) <;> omega
/-- simple, and no two corners on one level -/
def Smp (A B : Int) (v : Nat → Pt) (n : Nat) : Prop := 3 ≤ n ∧ (∀ i j, i < n → j < n → lv A B (v i) = lv A B (v j) → i = j) ∧ (∀ i, i < n → ¬ Fdb (v (prv n i)) (v i) (v (nxt n i))) ∧ ∀ i j, i < n → j < n → i ≠ j → nxt n i ≠ j → nxt n j ≠ i → ¬ Mt (v i) (v (nxt n i)) (v j) (v (nxt n j))
theorem Smp_lv (h : Smp A B v n) (hi : i < n) (hj : j < n) (e : i ≠ j) : lv A B (v i) ≠ lv A B (v j) := fun w => e (h.2.1 i j hi hj w)
theorem Mt_r {a b c d : Pt} (h : Mt a b d c) : Mt a b c d := Mt_tw (Mt_sw (Mt_tw h))
theorem Smp_walk (h : Smp A B v n) (hi : i < n) : wN A B v n (v i) - sS A B (v (prv n i)) (v i) (v (nxt n i)) = wN A B v n (v (nxt n i)) - sS A B (v i) (v (nxt n i)) (v (nxt n (nxt n i))) := by
  have h3 := h.1
  have hp := prv_lt hi
  have hn := nxt_lt hi
  have hnn := nxt_lt hn
  have d1 := nxt_ne (show 2 ≤ n by omega) hi
  have d2 := prv_ne (show 2 ≤ n by omega) hi
  have d3 := prv_ne_nxt h3 hi
  have d4 := nxt2_ne h3 hi
  have d5 := nxt_ne (show 2 ≤ n by omega) hn
  have l1 := Smp_lv h hi hn (Ne.symm d1)
  have l2 := Smp_lv h hp hi d2
  have l3 := Smp_lv h hp hn d3
  have l4 := Smp_lv h hnn hn d5
  have l5 := Smp_lv h hnn hi d4
  have f1 := Fdb_T (A := A) (B := B) (h.2.2.1 i hi)
  have f2 := Fdb_T (A := A) (B := B) (h.2.2.1 _ hn)
  have en := nxt_prv hi
  have ep := prv_nxt hi
  rw [ep] at f2
  have no : ∀ j, j < n → j ≠ prv n i → j ≠ i → j ≠ nxt n i → ¬ Mt (v j) (v (nxt n j)) (v i) (v (nxt n i)) := fun j hj e1 e2 e3 => h.2.2.2 j i hj hi e2 (fun w => e1 (by rw [← w, prv_nxt hj])) (fun w => e3 w.symm)
  have lj : ∀ j, j < n → lv A B (v j) ≠ lv A B (v (nxt n j)) := fun j hj => Smp_lv h hj (nxt_lt hj) (Ne.symm (nxt_ne (by omega) hj))
  rcases Int.lt_or_gt_of_ne l1 with g | g
  · have dif := wN_dif (A := A) (B := B) (v := v) (n := n) (v i) (v (nxt n i))
    rw [sumN_three hp hi hn (Ne.symm d2) d1 (Ne.symm d3) (fun j hj e1 e2 e3 => by
      rw [sh_gen g (lj j hj) (no j hj e1 e2 e3)]
      exact Int.sub_self _), en, cS_b, cS_a, cS_b, cS_a, fS_p, fS_q] at dif
    have a1 := up_A (o := v (prv n i)) g l2 (fun w => f1 (Or.inl ⟨w, g⟩))
    have a2 := up_B (r := v (nxt n (nxt n i))) g l4 l5
    omega
  · have dif := wN_dif (A := A) (B := B) (v := v) (n := n) (v (nxt n i)) (v i)
    rw [sumN_three hp hi hn (Ne.symm d2) d1 (Ne.symm d3) (fun j hj e1 e2 e3 => by
      rw [sh_gen g (lj j hj) (fun w => no j hj e1 e2 e3 (Mt_r w))]
      exact Int.sub_self _), en, cS_b, cS_a, cS_b, cS_a, fS_p, fS_q] at dif
    have a1 := dn_A (o := v (prv n i)) g l2 (fun w => f1 (Or.inr ⟨w, g⟩))
    have a2 := dn_B (r := v (nxt n (nxt n i))) g l4 (fun w => f2 (Or.inl ⟨g, w⟩))
    omega
/-- the number to the right -/
def mu (A B : Int) (v : Nat → Pt) (n : Nat) : Int := wN A B v n (v 0) - sS A B (v (prv n 0)) (v 0) (v (nxt n 0))
theorem Smp_at (h : Smp A B v n) (hi : i < n) : wN A B v n (v i) = mu A B v n + sS A B (v (prv n i)) (v i) (v (nxt n i)) := by
  have h3 := h.1
  have := walk_all (n := n) (P := fun k => wN A B v n (v k) - sS A B (v (prv n k)) (v k) (v (nxt n k)) = mu A B v n) (fun k hk w => by
    have g := Smp_walk h hk
    have ep := prv_nxt hk
    show wN A B v n (v (nxt n k)) - sS A B (v (prv n (nxt n k))) (v (nxt n k)) (v (nxt n (nxt n k))) = _
    rw [ep, ← g]
    exact w) (i := 0) (by omega) hi rfl
  have this : wN A B v n (v i) - sS A B (v (prv n i)) (v i) (v (nxt n i)) = mu A B v n := this
  omega
theorem sS_01 (A B : Int) (o p q : Pt) : sS A B o p q = 0 ∨ sS A B o p q = 1 := by
  unfold sS
  split
  · exact Or.inr rfl
  · exact Or.inl rfl
/-- at a highest corner -/
theorem mu_top (h : Smp A B v n) (hi : i < n) (ht : ∀ j, j < n → lv A B (v j) ≤ lv A B (v i)) : mu A B v n = (if T3 (v (prv n i)) (v i) (v (nxt n i)) < 0 then -1 else 0) ∧ wN A B v n (v i) = 0 := by
  have h3 := h.1
  have z : wN A B v n (v i) = 0 := sumN_z n fun j hj => by
    have g1 := ht j hj
    have g2 := ht _ (nxt_lt hj)
    unfold cS
    rw [if_neg (by omega), if_neg (by omega)]
  have e := Smp_at h hi
  have t1 := ht _ (prv_lt hi)
  have t2 := ht _ (nxt_lt hi)
  have l1 := Smp_lv h (prv_lt hi) hi (prv_ne (by omega) hi)
  have l2 := Smp_lv h (nxt_lt hi) hi (nxt_ne (by omega) hi)
  refine ⟨?_, z⟩
  rw [z] at e
  unfold sS at e
  split at e <;> split <;> omega
theorem top_ex (A B : Int) (v : Nat → Pt) {n : Nat} (hn : 0 < n) : ∃ i, i < n ∧ ∀ j, j < n → lv A B (v j) ≤ lv A B (v i) := arg_max (fun i => lv A B (v i)) n hn
theorem mu_01 (h : Smp A B v n) : mu A B v n = 0 ∨ mu A B v n = -1 := by
  obtain ⟨i, hi, ht⟩ := top_ex A B v (show 0 < n by have := h.1; omega)
  have := (mu_top h hi ht).1
  split at this
  · exact Or.inr this
  · exact Or.inl this
/-- on, by levels -/
theorem on_lv (h : On a b x) (hab : lv A B a < lv A B b) : lv A B a ≤ lv A B x ∧ lv A B x ≤ lv A B b := by
  obtain ⟨h1, h2, h3, h4, h5⟩ := h
  have e1 : (lv A B x - lv A B a) * (b.1 - a.1) = (x.1 - a.1) * (lv A B b - lv A B a) + B * tw a.1 a.2 b.1 b.2 x.1 x.2 := by
    unfold lv tw
    grind
  have e2 : (lv A B x - lv A B a) * (b.2 - a.2) = (x.2 - a.2) * (lv A B b - lv A B a) - A * tw a.1 a.2 b.1 b.2 x.1 x.2 := by
    unfold lv tw
    grind
  rw [h5, Int.mul_zero] at e1 e2
  have hd : 0 < lv A B b - lv A B a := by omega
  have ne : ¬ (a.1 = b.1 ∧ a.2 = b.2) := fun w => by
    unfold lv at hab
    rw [w.1, w.2] at hab
    exact Int.lt_irrefl _ hab
  have key : ∀ k s t u : Int, 0 < t → k * u = s * t → (min 0 u ≤ s ∧ s ≤ max 0 u) → u ≠ 0 → 0 ≤ k ∧ k ≤ t := fun k s t u ht e g hu => by
    rcases Int.lt_or_gt_of_ne hu with c | c
    · have w1 : s * t ≤ 0 := Int.mul_nonpos_of_nonpos_of_nonneg (by omega) (Int.le_of_lt ht)
      have w2 : 0 ≤ (s - u) * t := Int.mul_nonneg (by omega) (Int.le_of_lt ht)
      have w3 : (k - t) * u = (s - u) * t := by
        rw [Int.sub_mul, Int.sub_mul, e, Int.mul_comm t u]
      constructor
      · refine Classical.byContradiction fun w => ?_
        have := Int.mul_pos_of_neg_of_neg (show k < 0 by omega) c
        omega
      · refine Classical.byContradiction fun w => ?_
        have := Int.mul_neg_of_pos_of_neg (show 0 < k - t by omega) c
        omega
    · have w1 : 0 ≤ s * t := Int.mul_nonneg (by omega) (Int.le_of_lt ht)
      have w2 : (s - u) * t ≤ 0 := Int.mul_nonpos_of_nonpos_of_nonneg (by omega) (Int.le_of_lt ht)
      have w3 : (k - t) * u = (s - u) * t := by
        rw [Int.sub_mul, Int.sub_mul, e, Int.mul_comm t u]
      constructor
      · refine Classical.byContradiction fun w => ?_
        have := Int.mul_neg_of_neg_of_pos (show k < 0 by omega) c
        omega
      · refine Classical.byContradiction fun w => ?_
        have := Int.mul_pos (show 0 < k - t by omega) c
        omega
  by_cases c : b.1 = a.1
  · have := key _ _ _ _ hd (show (lv A B x - lv A B a) * (b.2 - a.2) = (x.2 - a.2) * (lv A B b - lv A B a) by omega) (by omega) (by omega)
    omega
  · have := key _ _ _ _ hd (show (lv A B x - lv A B a) * (b.1 - a.1) = (x.1 - a.1) * (lv A B b - lv A B a) by omega) (by omega) (by omega)
    omega
theorem On_T (h : On a b x) : T3 a b x = 0 := h.2.2.2.2
theorem On_lev (hab : lv A B a < lv A B b) : On a b x ↔ lv A B a ≤ lv A B x ∧ lv A B x ≤ lv A B b ∧ T3 a b x = 0 :=
  ⟨fun h => ⟨(on_lv h hab).1, (on_lv h hab).2, On_T h⟩, fun h => on_of hab h.1 h.2.1 h.2.2⟩
end JORD

