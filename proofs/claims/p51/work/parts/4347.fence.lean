/-! Fences: both ways find the least -/
def ibx (lo hi bo to x y : Int) : Prop := (lo ≤ x ∧ x ≤ hi) ∧ bo ≤ y ∧ y ≤ to
/-- how many points of a heap a box holds -/
noncomputable def cb (P : PL) (a lo hi bo to : Int) : Int := sumN (fun i => ic (pM P i = a ∧ ibx lo hi bo to (pX P i) (pY P i))) P.length
def Ach (P : PL) (a : Int) (k : Nat) (v : Int) : Prop := ∃ lo hi bo to : Int, v = (hi - lo) + (to - bo) ∧ (k : Int) ≤ cb P a lo hi bo to
section FENCE
variable {P O T : PL} {a lo hi bo to v w m : Int} {k n i j s p o q : Nat}
theorem sumN_le {f g : Nat → Int} : ∀ n, (∀ i, i < n → f i ≤ g i) → sumN f n ≤ sumN g n
  | 0, _ => Int.le_refl _
  | n + 1, h => by
    have := sumN_le n fun i hi => h i (by omega)
    have := h n (by omega)
    show sumN f n + f n ≤ sumN g n + g n
    omega
theorem ic_le {p q : Prop} (h : p → q) : ic p ≤ ic q := by
  by_cases c : p
  · rw [ic_t c, ic_t (h c)]
    exact Int.le_refl _
  · rw [ic_f c]
    exact ic_nn q
theorem ct_sum (Q : Int × Int × Int → Prop) : ∀ L : PL, ((ct Q L : Nat) : Int) = sumN (fun i => ic (Q (L.getD i d3))) L.length
  | [] => rfl
  | e :: L => by
    have ih := ct_sum Q L
    have s := sumN_f (fun i => ic (Q ((e :: L).getD i d3))) L.length
    show _ = sumN (fun i => ic (Q ((e :: L).getD i d3))) (L.length + 1)
    rw [s]
    show _ = ic (Q e) + sumN (fun i => ic (Q (L.getD i d3))) L.length
    rw [← ih]
    by_cases c : Q e
    · rw [ct_cons_t c, ic_t c]
      omega
    · rw [ct_cons_f c, ic_f c]
      omega
theorem ctP_sum (P : PL) (a : Int) (Q : Int × Int × Int → Prop) : ∀ n : Nat, ((ctP P a Q n : Nat) : Int) = sumN (fun i => ic (pM P i = a ∧ Q (entP P i))) n
  | 0 => rfl
  | n + 1 => by
    have ih := ctP_sum P a Q n
    show _ = sumN (fun i => ic (pM P i = a ∧ Q (entP P i))) n + ic (pM P n = a ∧ Q (entP P n))
    rw [← ih]
    have e : ctP P a Q (n + 1) = cif (pM P n = a ∧ Q (entP P n)) (ctP P a Q n + 1) (ctP P a Q n) := rfl
    rw [e]
    by_cases c : pM P n = a ∧ Q (entP P n)
    · rw [cif_t c, ic_t c]
      rfl
    · rw [cif_f c, ic_f c]
      omega
theorem cb_put (P : PL) (a lo hi bo to : Int) : cb P a lo hi bo to = sumN (fun i => ic (ibx lo hi bo to (pX (putN P a [] P.length) i) (pY (putN P a [] P.length) i))) (putN P a [] P.length).length := by
  have e1 := ct_sum (fun e => ibx lo hi bo to e.1 e.2.1) (putN P a [] P.length)
  rw [ct_putN, ctP_sum] at e1
  exact e1
/-- many in a row are many -/
theorem sumN_run {f : Nat → Int} (h0 : ∀ i, i < n → 0 ≤ f i) (hk : s + k ≤ n) (h1 : ∀ i, s ≤ i → i < s + k → 1 ≤ f i) : (k : Int) ≤ sumN f n := by
  obtain ⟨r, rfl⟩ : ∃ r, n = s + (k + r) := ⟨n - s - k, by omega⟩
  rw [sumN_app, sumN_app]
  have a1 := sumN_nn s fun i hi => h0 i (by omega)
  have a2 := sumN_ge (f := fun i => f (s + i)) k fun i hi => h1 (s + i) (by omega) (by omega)
  have a3 := sumN_nn (f := fun i => f (s + (k + i))) r fun i hi => h0 _ (by omega)
  omega
theorem ct_ht (Q : Int × Int × Int → Prop) (L : PL) (i : Nat) : ∀ n : Nat, ((ct Q (htN L i n) : Nat) : Int) = sumN (fun t => ic (Q (pY L (i + t), 0, 0))) n
  | 0 => rfl
  | n + 1 => by
    have ih := ct_ht Q L i n
    show _ = sumN (fun t => ic (Q (pY L (i + t), 0, 0))) n + ic (Q (pY L (i + n), 0, 0))
    rw [← ih]
    have e : htN L i (n + 1) = insE (htN L i n) (pY L (i + n), 0, 0) := rfl
    rw [e, ct_ins]
    by_cases c : Q (pY L (i + n), 0, 0)
    · rw [cif_t c, ic_t c]
      rfl
    · rw [cif_f c, ic_f c]
      omega
theorem srtw_ht (L : PL) (i : Nat) : ∀ n, srtw (htN L i n)
  | 0 => srtw_nil
  | n + 1 => srtw_ins (srtw_ht L i n)
/-- the heights of a run, counted -/
theorem ht_cnt (L : PL) (i n : Nat) (bo to : Int) : sumN (fun j => ic (bo ≤ pX (htN L i n) j ∧ pX (htN L i n) j ≤ to)) n = sumN (fun t => ic (bo ≤ pY L (i + t) ∧ pY L (i + t) ≤ to)) n := by
  have e1 := ct_sum (fun e => bo ≤ e.1 ∧ e.1 ≤ to) (htN L i n)
  rw [ct_ht, htN_len] at e1
  exact e1.symm
/-- each value that is looked at is a fence's -/
theorem term_ach (hk : 1 ≤ k) (hi : i + n < (putN P a [] P.length).length) (hs : s + k ≤ n + 1) : Ach P a k (pX (putN P a [] P.length) (i + n) - pX (putN P a [] P.length) i + (pX (htN (putN P a [] P.length) i (n + 1)) (s + k - 1) - pX (htN (putN P a [] P.length) i (n + 1)) s)) := by
  have sO := srtw_of (srtd_putN (P := P) (a := a) P.length)
  refine ⟨pX (putN P a [] P.length) i, pX (putN P a [] P.length) (i + n), pX (htN (putN P a [] P.length) i (n + 1)) s, pX (htN (putN P a [] P.length) i (n + 1)) (s + k - 1), rfl, ?_⟩
  rw [cb_put]
  generalize putN P a [] P.length = O at *
  have sT := srtw_ht O i (n + 1)
  have lT := htN_len O i (n + 1)
  have c1 := ht_cnt O i (n + 1) (pX (htN O i (n + 1)) s) (pX (htN O i (n + 1)) (s + k - 1))
  have r := sumN_run (f := fun j => ic (pX (htN O i (n + 1)) s ≤ pX (htN O i (n + 1)) j ∧ pX (htN O i (n + 1)) j ≤ pX (htN O i (n + 1)) (s + k - 1))) (n := n + 1) (s := s) (k := k) (fun _ _ => ic_nn _) hs (fun j h1 h2 => by
    rw [ic_t ⟨srtw_mono sT h1 (by omega), srtw_mono sT (by omega) (by omega)⟩]
    exact Int.le_refl _)
  rw [c1] at r
  generalize pX (htN O i (n + 1)) s = b at *
  generalize pX (htN O i (n + 1)) (s + k - 1) = t at *
  obtain ⟨r', hr⟩ : ∃ r', O.length = i + ((n + 1) + r') := ⟨O.length - i - (n + 1), by omega⟩
  refine Int.le_trans r ?_
  have e : sumN (fun j => ic (ibx (pX O i) (pX O (i + n)) b t (pX O j) (pY O j))) (i + ((n + 1) + r')) = sumN (fun j => ic (ibx (pX O i) (pX O (i + n)) b t (pX O j) (pY O j))) i + (sumN (fun j => ic (ibx (pX O i) (pX O (i + n)) b t (pX O (i + j)) (pY O (i + j)))) (n + 1) + sumN (fun j => ic (ibx (pX O i) (pX O (i + n)) b t (pX O (i + (n + 1 + j))) (pY O (i + (n + 1 + j))))) r') := by
    rw [sumN_app, sumN_app]
  rw [hr, e]
  have a1 : 0 ≤ sumN (fun j => ic (ibx (pX O i) (pX O (i + n)) b t (pX O j) (pY O j))) i := sumN_nn _ fun _ _ => ic_nn _
  have a3 : 0 ≤ sumN (fun j => ic (ibx (pX O i) (pX O (i + n)) b t (pX O (i + (n + 1 + j))) (pY O (i + (n + 1 + j))))) r' := sumN_nn _ fun _ _ => ic_nn _
  have a2 : sumN (fun j => ic (b ≤ pY O (i + j) ∧ pY O (i + j) ≤ t)) (n + 1) ≤ sumN (fun j => ic (ibx (pX O i) (pX O (i + n)) b t (pX O (i + j)) (pY O (i + j)))) (n + 1) := sumN_le _ fun j hj => ic_le fun g => ⟨⟨srtw_mono sO (by omega) (by omega), srtw_mono sO (by omega) (by omega)⟩, g⟩
  omega
theorem cnt_split {f : Nat → Prop} (q r : Nat) (hqr : q ≤ r) (hr : r ≤ n) (h : ∀ i, i < n → (f i → q ≤ i ∧ i < r)) : sumN (fun i => ic (f i)) n = sumN (fun i => ic (f (q + i))) (r - q) := by
  obtain ⟨d, rfl⟩ : ∃ d, r = q + d := ⟨r - q, by omega⟩
  obtain ⟨e, rfl⟩ : ∃ e, n = q + (d + e) := ⟨n - q - d, by omega⟩
  rw [show q + d - q = d by omega, sumN_app, sumN_app]
  have a1 : sumN (fun i => ic (f i)) q = 0 := sumN_z _ fun i hi => ic_f fun w => by
    have := h i (by omega) w
    omega
  have a2 : sumN (fun i => ic (f (q + (d + i)))) e = 0 := sumN_z _ fun i hi => ic_f fun w => by
    have := h _ (by omega) w
    omega
  omega
theorem sumN_all {f : Nat → Prop} : ∀ n, sumN (fun i => ic (f i)) n ≤ n
  | 0 => Int.le_refl _
  | n + 1 => by
    have := sumN_all (f := f) n
    have := (ic_01 (f n)).2
    show sumN (fun i => ic (f i)) n + ic (f n) ≤ _
    omega
/-- no fence is less than one that is looked at -/
theorem ach_term (hk : 1 ≤ k) (h : Ach P a k v) : ∃ i n s, i + n < (putN P a [] P.length).length ∧ s + k ≤ n + 1 ∧ pX (putN P a [] P.length) (i + n) - pX (putN P a [] P.length) i + (pX (htN (putN P a [] P.length) i (n + 1)) (s + k - 1) - pX (htN (putN P a [] P.length) i (n + 1)) s) ≤ v := by
  have sO := srtw_of (srtd_putN (P := P) (a := a) P.length)
  obtain ⟨lo, hi, bo, to, rfl, hc⟩ := h
  rw [cb_put] at hc
  generalize putN P a [] P.length = O at *
  obtain ⟨q, q1, q2, q3⟩ := ct_split sO lo
  obtain ⟨r, r1, r2, r3⟩ := ct_split sO (hi + 1)
  have inx : ∀ i, i < O.length → (ibx lo hi bo to (pX O i) (pY O i) → q ≤ i ∧ i < r) := fun i hi' g => by
    obtain ⟨⟨g1, g2⟩, g3⟩ := g
    refine ⟨Classical.byContradiction fun c => ?_, Classical.byContradiction fun c => ?_⟩
    · have := q2 i (by omega)
      omega
    · have := r3 i (by omega) hi'
      omega
  by_cases hqr : q < r
  · have c2 := cnt_split q r (Nat.le_of_lt hqr) r1 inx
    rw [c2] at hc
    have c3 := ht_cnt O q (r - q) bo to
    have c4 : sumN (fun i => ic (ibx lo hi bo to (pX O (q + i)) (pY O (q + i)))) (r - q) ≤ sumN (fun t => ic (bo ≤ pY O (q + t) ∧ pY O (q + t) ≤ to)) (r - q) := sumN_le _ fun i _ => ic_le fun g => g.2
    rw [← c3] at c4
    have sT := srtw_ht O q (r - q)
    have lT := htN_len O q (r - q)
    obtain ⟨s, s1, s2, s3⟩ := ct_split sT bo
    obtain ⟨t, t1, t2, t3⟩ := ct_split sT (to + 1)
    rw [lT] at s1 s3 t1 t3
    have iny : ∀ i, i < r - q → (bo ≤ pX (htN O q (r - q)) i ∧ pX (htN O q (r - q)) i ≤ to → s ≤ i ∧ i < t) := fun i hi' g => by
      refine ⟨Classical.byContradiction fun c => ?_, Classical.byContradiction fun c => ?_⟩
      · have := s2 i (by omega)
        omega
      · have := t3 i (by omega) hi'
        omega
    have hst : s + k ≤ t := by
      by_cases g : s ≤ t
      · have c5 := cnt_split s t g t1 iny
        have c6 := sumN_all (f := fun i => bo ≤ pX (htN O q (r - q)) (s + i) ∧ pX (htN O q (r - q)) (s + i) ≤ to) (t - s)
        rw [c5] at c4
        omega
      · have c5 : sumN (fun j => ic (bo ≤ pX (htN O q (r - q)) j ∧ pX (htN O q (r - q)) j ≤ to)) (r - q) = 0 := sumN_z _ fun j hj => ic_f fun w => by
          have := iny j hj w
          omega
        rw [c5] at c4
        omega
    refine ⟨q, r - q - 1, s, by omega, by omega, ?_⟩
    rw [show r - q - 1 + 1 = r - q by omega, show q + (r - q - 1) = r - 1 by omega]
    have x1 := r2 (r - 1) (by omega)
    have x2 := q3 q (Nat.le_refl _) (by omega)
    have y1 := t2 (s + k - 1) (by omega)
    have y2 := s3 s (Nat.le_refl _) (by omega)
    omega
  · have z : sumN (fun i => ic (ibx lo hi bo to (pX O i) (pY O i))) O.length = 0 := sumN_z _ fun i hi => ic_f fun w => by
      have := inx i hi w
      omega
    rw [z] at hc
    omega
/-! the class's least -/
theorem lfI_le : ∀ c, (∀ s, s < c → lfI T w k m c ≤ w + (pX T (s + k - 1) - pX T s)) ∧ lfI T w k m c ≤ m ∧ (lfI T w k m c = m ∨ ∃ s, s < c ∧ lfI T w k m c = w + (pX T (s + k - 1) - pX T s))
  | 0 => ⟨fun s hs => absurd hs (Nat.not_lt_zero _), Int.le_refl _, Or.inl rfl⟩
  | c + 1 => by
    obtain ⟨h1, h2, h3⟩ := lfI_le c
    have e : lfI T w k m (c + 1) = min (lfI T w k m c) (w + (pX T (c + k - 1) - pX T c)) := rfl
    rw [e]
    refine ⟨fun s hs => ?_, by omega, ?_⟩
    · by_cases es : s = c
      · rw [es]
        omega
      · have := h1 s (by omega)
        omega
    · by_cases g : lfI T w k m c ≤ w + (pX T (c + k - 1) - pX T c)
      · rw [Int.min_eq_left g]
        rcases h3 with h3 | ⟨s, s1, s2⟩
        · exact Or.inl h3
        · exact Or.inr ⟨s, by omega, s2⟩
      · rw [Int.min_eq_right (by omega)]
        exact Or.inr ⟨c, by omega, rfl⟩
def tmv (O : PL) (k i n s : Nat) : Int := pX O (i + n) - pX O i + (pX (htN O i (n + 1)) (s + k - 1) - pX (htN O i (n + 1)) s)
theorem lfO_le : ∀ N, (∀ n s, n < N → s + k ≤ n + 1 → lfO O i k N ≤ tmv O k i n s) ∧ lfO O i k N ≤ 1000 ∧ (lfO O i k N = 1000 ∨ ∃ n s, n < N ∧ s + k ≤ n + 1 ∧ lfO O i k N = tmv O k i n s)
  | 0 => ⟨fun n s hn => absurd hn (Nat.not_lt_zero _), Int.le_refl _, Or.inl rfl⟩
  | N + 1 => by
    obtain ⟨h1, h2, h3⟩ := lfO_le N
    have e : lfO O i k (N + 1) = lfI (htN O i (N + 1)) (pX O (i + N) - pX O i) k (lfO O i k N) (N + 2 - k) := rfl
    obtain ⟨g1, g2, g3⟩ := lfI_le (T := htN O i (N + 1)) (w := pX O (i + N) - pX O i) (k := k) (m := lfO O i k N) (N + 2 - k)
    rw [e]
    refine ⟨fun n s hn hs => ?_, by omega, ?_⟩
    · by_cases en : n = N
      · rw [en] at hs ⊢
        exact g1 s (by omega)
      · have := h1 n s (by omega) hs
        omega
    · rcases g3 with g3 | ⟨s, s1, s2⟩
      · rw [g3]
        rcases h3 with h3 | ⟨n, s, n1, s1, s2⟩
        · exact Or.inl h3
        · exact Or.inr ⟨n, s, by omega, s1, s2⟩
      · exact Or.inr ⟨N, s, by omega, by omega, s2⟩
theorem fnO_le : ∀ N, N ≤ O.length → (∀ i n s, i < N → i + n < O.length → s + k ≤ n + 1 → fnO O k N ≤ tmv O k i n s) ∧ (fnO O k N = 1000 ∨ ∃ i n s, i < N ∧ i + n < O.length ∧ s + k ≤ n + 1 ∧ fnO O k N = tmv O k i n s)
  | 0, _ => ⟨fun i n s hn => absurd hn (Nat.not_lt_zero _), Or.inl rfl⟩
  | N + 1, hN => by
    obtain ⟨h1, h2⟩ := fnO_le N (by omega)
    have e : fnO O k (N + 1) = min (fnO O k N) (lfO O N k (O.length - N)) := rfl
    obtain ⟨g1, g2, g3⟩ := lfO_le (O := O) (i := N) (k := k) (O.length - N)
    rw [e]
    refine ⟨fun i n s hi hn hs => ?_, ?_⟩
    · by_cases en : i = N
      · rw [en] at hn ⊢
        have := g1 n s (by omega) hs
        omega
      · have := h1 i n s (by omega) hn hs
        omega
    · by_cases g : fnO O k N ≤ lfO O N k (O.length - N)
      · rw [Int.min_eq_left g]
        rcases h2 with h2 | ⟨i, n, s, i1, i2, i3, i4⟩
        · exact Or.inl h2
        · exact Or.inr ⟨i, n, s, by omega, i2, i3, i4⟩
      · rw [Int.min_eq_right (by omega)]
        rcases g3 with g3 | ⟨n, s, n1, s1, s2⟩
        · exact Or.inl g3
        · exact Or.inr ⟨N, n, s, by omega, by omega, s1, s2⟩
theorem fn_least (hP : okP P) (hk : 1 ≤ k) (hl : k ≤ (putN P a [] P.length).length) : Ach P a k (fnO (putN P a [] P.length) k (putN P a [] P.length).length) ∧ ∀ v, Ach P a k v → fnO (putN P a [] P.length) k (putN P a [] P.length).length ≤ v := by
  obtain ⟨h1, h2⟩ := fnO_le (O := putN P a [] P.length) (k := k) (putN P a [] P.length).length (Nat.le_refl _)
  have low : ∀ v, Ach P a k v → fnO (putN P a [] P.length) k (putN P a [] P.length).length ≤ v := fun v hv => by
    obtain ⟨i, n, s, i1, i2, i3⟩ := ach_term hk hv
    exact Int.le_trans (h1 i n s (by omega) i1 i2) i3
  have full : Ach P a k 800 := ⟨-200, 200, -200, 200, rfl, by
    rw [cb_put]
    refine sumN_run (s := 0) (fun _ _ => ic_nn _) (by omega) fun i _ hi => ?_
    have hb : -200 ≤ pX (putN P a [] P.length) i ∧ pX (putN P a [] P.length) i ≤ 200 ∧ -200 ≤ pY (putN P a [] P.length) i ∧ pY (putN P a [] P.length) i ≤ 200 := by
      have hpq : pq (putN P a [] P.length) (putN P a [] P.length).length (pt (putN P a [] P.length) i) := ⟨i, by omega, rfl⟩
      obtain ⟨x, hx1, -, hx2⟩ := pq_put0.mp hpq
      have := hP x hx1
      have e := pt_inv hx2
      rw [e.1, e.2]
      omega
    rw [ic_t ⟨⟨by omega, by omega⟩, by omega, by omega⟩]
    exact Int.le_refl _⟩
  have := low 800 full
  refine ⟨?_, low⟩
  rcases h2 with h2 | ⟨i, n, s, i1, i2, i3, i4⟩
  · omega
  · rw [i4]
    exact term_ach hk i2 i3
end FENCE

