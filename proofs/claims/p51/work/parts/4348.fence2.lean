/-! Fences: the reference's least -/
section FENCE2
variable {P : PL} {O : List Nat} {a lo hi bo to fr v w m b : Int} {k n i j s p o q pts f : Nat}
theorem split_fn (g : Nat → Int) (m : Int) : ∀ N, (∀ i j, i ≤ j → j < N → g i ≤ g j) → ∃ q, q ≤ N ∧ (∀ i, i < q → g i < m) ∧ ∀ i, q ≤ i → i < N → ¬ g i < m
  | 0, _ => ⟨0, Nat.le_refl _, fun i hi => absurd hi (Nat.not_lt_zero _), fun i _ hi => absurd hi (Nat.not_lt_zero _)⟩
  | n + 1, hg => by
    obtain ⟨q, q1, q2, q3⟩ := split_fn g m n fun i j h1 h2 => hg i j h1 (by omega)
    by_cases c : q = n ∧ g n < m
    · refine ⟨n + 1, Nat.le_refl _, fun i hi => ?_, fun i h1 h2 => by omega⟩
      have := hg i n (by omega) (by omega)
      omega
    · refine ⟨q, by omega, q2, fun i h1 h2 => ?_⟩
      by_cases e : i = n
      · rw [e]
        intro w
        by_cases e2 : q = n
        · exact c ⟨e2, w⟩
        · have a1 := q3 q (Nat.le_refl _) (by omega)
          have := hg q n (by omega) (by omega)
          omega
      · exact q3 i h1 (by omega)
def ysr (P : PL) (O : List Nat) : Prop := ∀ i j, i ≤ j → j < O.length → pY P (O.getD i 0) ≤ pY P (O.getD j 0)
theorem ypN_spec (P : PL) (O : List Nat) (p : Nat) : ∀ n, (∀ j, ypN P O p n ≤ j → j < n → pY P p < pY P (O.getD j 0)) ∧ (0 < ypN P O p n → pY P (O.getD (ypN P O p n - 1) 0) ≤ pY P p)
  | 0 => ⟨fun j _ hj => absurd hj (Nat.not_lt_zero _), fun h => absurd h (Nat.lt_irrefl _)⟩
  | n + 1 => by
    obtain ⟨h1, h2⟩ := ypN_spec P O p n
    have e : ypN P O p (n + 1) = if pY P p < pY P (O.getD n 0) then ypN P O p n else n + 1 := rfl
    rw [e]
    by_cases c : pY P p < pY P (O.getD n 0)
    · rw [if_pos c]
      refine ⟨fun j hj hj2 => ?_, h2⟩
      by_cases ej : j = n
      · rw [ej]
        exact c
      · exact h1 j hj (by omega)
    · rw [if_neg c]
      refine ⟨fun j hj hj2 => by omega, fun _ => ?_⟩
      rw [show n + 1 - 1 = n by omega]
      omega
theorem ysr_ins (h : ysr P O) : ysr P (ynI O (ypN P O p O.length) p) := fun i j hij hj => by
  have hl := ypN_le P O p O.length
  obtain ⟨s1, s2⟩ := ypN_spec P O p O.length
  rw [ynI_len hl] at hj
  rw [ynI_getD hl, ynI_getD hl]
  generalize ypN P O p O.length = t at *
  by_cases c1 : i < t
  · rw [if_pos c1]
    by_cases c2 : j < t
    · rw [if_pos c2]
      exact h i j hij (by omega)
    · rw [if_neg c2]
      have e1 := h i (t - 1) (by omega) (by omega)
      have e2 := s2 (by omega)
      by_cases c3 : j = t
      · rw [if_pos c3]
        omega
      · rw [if_neg c3]
        exact h i (j - 1) (by omega) (by omega)
  · rw [if_neg c1, if_neg (show ¬ j < t by omega)]
    by_cases c3 : i = t
    · rw [if_pos c3]
      by_cases c4 : j = t
      · rw [if_pos c4]
        exact Int.le_refl _
      · rw [if_neg c4]
        exact Int.le_of_lt (s1 (j - 1) (by omega) (by omega))
    · rw [if_neg c3, if_neg (show ¬ j = t by omega)]
      exact h (i - 1) (j - 1) (by omega) (by omega)
theorem oy_srt (P : PL) (a : Int) : ∀ n, ysr P (oyN P a n)
  | 0 => fun i j _ hj => absurd hj (Nat.not_lt_zero _)
  | n + 1 => by
    have e : oyN P a (n + 1) = if pM P n = a then ynI (oyN P a n) (ypN P (oyN P a n) n (oyN P a n).length) n else oyN P a n := rfl
    rw [e]
    split
    · exact ysr_ins (oy_srt P a n)
    · exact oy_srt P a n
theorem yn_sum (g : Nat → Int) (hi : i ≤ O.length) : sumN (fun j => g ((ynI O i p).getD j 0)) (O.length + 1) = g p + sumN (fun j => g (O.getD j 0)) O.length := by
  obtain ⟨r, hr⟩ : ∃ r, O.length = i + r := ⟨O.length - i, by omega⟩
  have e1 := sumN_app (fun j => g ((ynI O i p).getD j 0)) i (r + 1)
  have e2 := sumN_f (fun j => g ((ynI O i p).getD (i + j) 0)) r
  have e3 := sumN_app (fun j => g (O.getD j 0)) i r
  have e4 : sumN (fun j => g ((ynI O i p).getD j 0)) i = sumN (fun j => g (O.getD j 0)) i := sumN_cg i fun j hj => by
    rw [ynI_getD hi, if_pos hj]
  have e5 : sumN (fun j => g ((ynI O i p).getD (i + (j + 1)) 0)) r = sumN (fun j => g (O.getD (i + j) 0)) r := sumN_cg r fun j hj => by
    rw [ynI_getD hi, if_neg (by omega), if_neg (by omega), show i + (j + 1) - 1 = i + j by omega]
  have e6 : (ynI O i p).getD (i + 0) 0 = p := by
    rw [ynI_getD hi, if_neg (by omega), if_pos (by omega)]
  have e2' : sumN (fun j => g ((ynI O i p).getD (i + j) 0)) (r + 1) = g ((ynI O i p).getD (i + 0) 0) + sumN (fun j => g ((ynI O i p).getD (i + (j + 1)) 0)) r := e2
  rw [e6, e5] at e2'
  rw [hr, show i + r + 1 = i + (r + 1) by omega, e1, e3, e4, e2']
  omega
theorem oy_sum (P : PL) (a : Int) (Q : Nat → Prop) : ∀ n, sumN (fun j => ic (Q ((oyN P a n).getD j 0))) (oyN P a n).length = sumN (fun i => ic (pM P i = a ∧ Q i)) n
  | 0 => rfl
  | n + 1 => by
    have ih := oy_sum P a Q n
    have e : oyN P a (n + 1) = if pM P n = a then ynI (oyN P a n) (ypN P (oyN P a n) n (oyN P a n).length) n else oyN P a n := rfl
    show _ = sumN (fun i => ic (pM P i = a ∧ Q i)) n + ic (pM P n = a ∧ Q n)
    rw [e]
    by_cases c : pM P n = a
    · rw [if_pos c, ynI_len (ypN_le _ _ _ _), yn_sum (fun j => ic (Q j)) (ypN_le _ _ _ _), ih]
      have : ic (pM P n = a ∧ Q n) = ic (Q n) := by
        by_cases d : Q n
        · rw [ic_t d, ic_t ⟨c, d⟩]
        · rw [ic_f d, ic_f (fun w => d w.2)]
      rw [this]
      omega
    · rw [if_neg c, ic_f (fun w => c w.1), ih]
      omega
noncomputable def cN (P : PL) (O : List Nat) (lo hi fr : Int) (k m : Nat) : Int := sumN (fun t => ic (htC P lo hi fr (O.getD (k + t) 0))) m
theorem cN_s (P : PL) (O : List Nat) (lo hi fr : Int) (k m : Nat) : cN P O lo hi fr k (m + 1) = ic (htC P lo hi fr (O.getD k 0)) + cN P O lo hi fr (k + 1) m := by
  unfold cN
  rw [sumN_f]
  congr 1
  refine sumN_cg _ fun t _ => ?_
  rw [show k + (t + 1) = k + 1 + t by omega]
theorem htS_A : ∀ (f k n : Nat), n < pts → htS P O lo hi fr pts f k n = -1 ∨ ∃ m, m < f ∧ htC P lo hi fr (O.getD (k + m) 0) ∧ htS P O lo hi fr pts f k n = pY P (O.getD (k + m) 0) - fr ∧ (n : Int) + cN P O lo hi fr k (m + 1) = pts
  | 0, _, _, _ => Or.inl rfl
  | f + 1, k, n, hn => by
    have e : htS P O lo hi fr pts (f + 1) k n = if htC P lo hi fr (O.getD k 0) then (if n + 1 = pts then pY P (O.getD k 0) - fr else htS P O lo hi fr pts f (k + 1) (n + 1)) else htS P O lo hi fr pts f (k + 1) n := rfl
    rw [e]
    by_cases c : htC P lo hi fr (O.getD k 0)
    · rw [if_pos c]
      by_cases c2 : n + 1 = pts
      · rw [if_pos c2]
        refine Or.inr ⟨0, by omega, c, rfl, ?_⟩
        rw [cN_s, ic_t c]
        show (n : Int) + (1 + 0) = pts
        omega
      · rw [if_neg c2]
        rcases htS_A f (k + 1) (n + 1) (by omega) with h | ⟨m, m1, m2, m3, m4⟩
        · exact Or.inl h
        · rw [show k + 1 + m = k + (m + 1) by omega] at m2 m3
          refine Or.inr ⟨m + 1, by omega, m2, m3, ?_⟩
          rw [cN_s, ic_t c]
          omega
    · rw [if_neg c]
      rcases htS_A f (k + 1) n hn with h | ⟨m, m1, m2, m3, m4⟩
      · exact Or.inl h
      · rw [show k + 1 + m = k + (m + 1) by omega] at m2 m3
        refine Or.inr ⟨m + 1, by omega, m2, m3, ?_⟩
        rw [cN_s, ic_f c]
        omega
theorem htS_B (hO : ysr P O) : ∀ (f k n m : Nat), n < pts → k + f = O.length → m < f → (pts : Int) ≤ (n : Int) + cN P O lo hi fr k (m + 1) → htS P O lo hi fr pts f k n ≠ -1 ∧ htS P O lo hi fr pts f k n ≤ pY P (O.getD (k + m) 0) - fr
  | 0, _, _, _, _, _, h, _ => absurd h (Nat.not_lt_zero _)
  | f + 1, k, n, m, hn, hk, hm, hc => by
    have e : htS P O lo hi fr pts (f + 1) k n = if htC P lo hi fr (O.getD k 0) then (if n + 1 = pts then pY P (O.getD k 0) - fr else htS P O lo hi fr pts f (k + 1) (n + 1)) else htS P O lo hi fr pts f (k + 1) n := rfl
    rw [e]
    rw [cN_s] at hc
    by_cases c : htC P lo hi fr (O.getD k 0)
    · rw [if_pos c]
      rw [ic_t c] at hc
      by_cases c2 : n + 1 = pts
      · rw [if_pos c2]
        have := hO k (k + m) (by omega) (by omega)
        have := c.1
        omega
      · rw [if_neg c2]
        obtain ⟨m', rfl⟩ : ∃ m', m = m' + 1 := by
          cases m with
          | zero =>
            exfalso
            have hc : (pts : Int) ≤ (n : Int) + (1 + 0) := hc
            omega
          | succ m' => exact ⟨m', rfl⟩
        have := htS_B hO f (k + 1) (n + 1) m' (by omega) (by omega) (by omega) (by omega)
        rw [show k + 1 + m' = k + (m' + 1) by omega] at this
        exact this
    · rw [if_neg c]
      rw [ic_f c] at hc
      obtain ⟨m', rfl⟩ : ∃ m', m = m' + 1 := by
        cases m with
        | zero =>
          exfalso
          have hc : (pts : Int) ≤ (n : Int) + (0 + 0) := hc
          omega
        | succ m' => exact ⟨m', rfl⟩
      have := htS_B hO f (k + 1) n m' hn (by omega) (by omega) (by omega)
      rw [show k + 1 + m' = k + (m' + 1) by omega] at this
      exact this
theorem cb_oy (P : PL) (a lo hi bo to : Int) : cb P a lo hi bo to = sumN (fun j => ic (ibx lo hi bo to (pX P ((oyN P a P.length).getD j 0)) (pY P ((oyN P a P.length).getD j 0)))) (oyN P a P.length).length := (oy_sum P a (fun i => ibx lo hi bo to (pX P i) (pY P i)) P.length).symm
theorem htM_A (hk : 1 ≤ pts) : htM P (oyN P a P.length) lo hi fr pts = -1 ∨ ∃ to, fr ≤ to ∧ htM P (oyN P a P.length) lo hi fr pts = to - fr ∧ (pts : Int) ≤ cb P a lo hi fr to := by
  rcases htS_A (P := P) (O := oyN P a P.length) (lo := lo) (hi := hi) (fr := fr) (pts := pts) (oyN P a P.length).length 0 0 (by omega) with h | ⟨m, m1, m2, m3, m4⟩
  · exact Or.inl h
  · rw [Nat.zero_add] at m2 m3
    refine Or.inr ⟨_, m2.1, m3, ?_⟩
    rw [cb_oy]
    have sO := oy_srt P a P.length
    generalize oyN P a P.length = O at *
    obtain ⟨r, hr⟩ : ∃ r, O.length = (m + 1) + r := ⟨O.length - (m + 1), by omega⟩
    have e := sumN_app (fun j => ic (ibx lo hi fr (pY P (O.getD m 0)) (pX P (O.getD j 0)) (pY P (O.getD j 0)))) (m + 1) r
    rw [hr, e]
    have a1 : cN P O lo hi fr 0 (m + 1) ≤ sumN (fun j => ic (ibx lo hi fr (pY P (O.getD m 0)) (pX P (O.getD j 0)) (pY P (O.getD j 0)))) (m + 1) := sumN_le _ fun j hj => by
      rw [Nat.zero_add]
      exact ic_le fun g => ⟨g.2, g.1, sO j m (by omega) (by omega)⟩
    have a2 : 0 ≤ sumN (fun i => ic (ibx lo hi fr (pY P (O.getD m 0)) (pX P (O.getD (m + 1 + i) 0)) (pY P (O.getD (m + 1 + i) 0)))) r := sumN_nn _ fun _ _ => ic_nn _
    omega
theorem htM_B (hk : 1 ≤ pts) (h : (pts : Int) ≤ cb P a lo hi fr to) : htM P (oyN P a P.length) lo hi fr pts ≠ -1 ∧ htM P (oyN P a P.length) lo hi fr pts ≤ to - fr := by
  rw [cb_oy] at h
  have sO := oy_srt P a P.length
  generalize oyN P a P.length = O at *
  obtain ⟨q, q1, q2, q3⟩ := split_fn (fun j => pY P (O.getD j 0)) (to + 1) O.length sO
  obtain ⟨r, hr⟩ : ∃ r, O.length = q + r := ⟨O.length - q, by omega⟩
  have e := sumN_app (fun j => ic (ibx lo hi fr to (pX P (O.getD j 0)) (pY P (O.getD j 0)))) q r
  rw [hr, e] at h
  have z : sumN (fun i => ic (ibx lo hi fr to (pX P (O.getD (q + i) 0)) (pY P (O.getD (q + i) 0)))) r = 0 := sumN_z _ fun i hi' => ic_f fun g => by
    have g1 := q3 (q + i) (by omega) (by omega)
    have g2 := g.2.2
    omega
  have a1 : sumN (fun j => ic (ibx lo hi fr to (pX P (O.getD j 0)) (pY P (O.getD j 0)))) q ≤ cN P O lo hi fr 0 q := sumN_le _ fun j hj => by
    rw [Nat.zero_add]
    exact ic_le fun g => ⟨g.2.1, g.1⟩
  have qpos : 0 < q := Nat.pos_of_ne_zero fun g => by
    subst g
    have a1 : sumN (fun j => ic (ibx lo hi fr to (pX P (O.getD j 0)) (pY P (O.getD j 0)))) 0 = 0 := rfl
    omega
  have B := htS_B (lo := lo) (hi := hi) (fr := fr) (pts := pts) sO O.length 0 0 (q - 1) (by omega) (by omega) (by omega) (by rw [show q - 1 + 1 = q by omega]; omega)
  rw [Nat.zero_add] at B
  have g : pY P (O.getD (q - 1) 0) < to + 1 := q2 (q - 1) (by omega)
  refine ⟨B.1, ?_⟩
  show htS P O lo hi fr pts O.length 0 0 ≤ to - fr
  have := B.2
  omega
theorem hg_nn (hk : 1 ≤ pts) (p o q : Nat) : hgQ P (oyN P a P.length) a p o pts q = -1 ∨ 0 ≤ hgQ P (oyN P a P.length) a p o pts q := by
  unfold hgQ
  split
  · rcases htM_A (P := P) (a := a) (lo := pX P p) (hi := pX P o) (fr := pY P q) hk with h | ⟨to, h1, h2, -⟩
    · exact Or.inl h
    · right
      omega
  · exact Or.inl rfl
theorem feQ_s {H : Nat → Int} {F : Nat → Int} (hw : 0 ≤ w) (hH : ∀ q, H q = -1 ∨ 0 ≤ H q) (h0 : F 0 = b) (hF : ∀ q, F (q + 1) = if ¬ H q = -1 ∧ (F q = -1 ∨ w + H q < F q) then w + H q else F q) : ∀ n, (b ≠ -1 → F n ≠ -1 ∧ F n ≤ b) ∧ (∀ q, q < n → H q ≠ -1 → F n ≠ -1 ∧ F n ≤ w + H q) ∧ (F n = b ∨ ∃ q, q < n ∧ H q ≠ -1 ∧ F n = w + H q)
  | 0 => by
    rw [h0]
    exact ⟨fun g => ⟨g, Int.le_refl _⟩, fun q hq => absurd hq (Nat.not_lt_zero _), Or.inl rfl⟩
  | n + 1 => by
    obtain ⟨h1, h2, h3⟩ := feQ_s hw hH h0 hF n
    have hn := hH n
    have e := hF n
    by_cases c : ¬ H n = -1 ∧ (F n = -1 ∨ w + H n < F n)
    · rw [if_pos c] at e
      rw [e]
      refine ⟨fun g => ?_, fun q hq g => ?_, Or.inr ⟨n, by omega, c.1, rfl⟩⟩
      · have := h1 g
        omega
      · by_cases eq : q = n
        · rw [eq] at g ⊢
          omega
        · have := h2 q (by omega) g
          omega
    · rw [if_neg c] at e
      rw [e]
      refine ⟨h1, fun q hq g => ?_, ?_⟩
      · by_cases eq : q = n
        · rw [eq] at g ⊢
          omega
        · exact h2 q (by omega) g
      · rcases h3 with h3 | ⟨q, q1, q2, q3⟩
        · exact Or.inl h3
        · exact Or.inr ⟨q, by omega, q2, q3⟩
/-- what the reference looks at -/
def fTm (P : PL) (a : Int) (pts p o q : Nat) : Prop := pM P p = a ∧ pM P o = a ∧ 0 ≤ wdF P p o ∧ hgQ P (oyN P a P.length) a p o pts q ≠ -1
theorem feO_s (hk : 1 ≤ pts) (p : Nat) (b : Int) : ∀ n, (b ≠ -1 → feO P (oyN P a P.length) a p pts b n ≠ -1 ∧ feO P (oyN P a P.length) a p pts b n ≤ b) ∧ (∀ o q, o < n → q < P.length → fTm P a pts p o q → feO P (oyN P a P.length) a p pts b n ≠ -1 ∧ feO P (oyN P a P.length) a p pts b n ≤ wdF P p o + hgQ P (oyN P a P.length) a p o pts q) ∧ (feO P (oyN P a P.length) a p pts b n = b ∨ ∃ o q, fTm P a pts p o q ∧ feO P (oyN P a P.length) a p pts b n = wdF P p o + hgQ P (oyN P a P.length) a p o pts q)
  | 0 => ⟨fun g => ⟨g, Int.le_refl _⟩, fun o q ho => absurd ho (Nat.not_lt_zero _), Or.inl rfl⟩
  | n + 1 => by
    obtain ⟨h1, h2, h3⟩ := feO_s hk p b n
    have e : feO P (oyN P a P.length) a p pts b (n + 1) = if feC P a p n (feO P (oyN P a P.length) a p pts b n) then feQ P (oyN P a P.length) a p n pts (feO P (oyN P a P.length) a p pts b n) P.length else feO P (oyN P a P.length) a p pts b n := rfl
    rw [e]
    generalize feO P (oyN P a P.length) a p pts b n = b1 at *
    by_cases c : feC P a p n b1
    · rw [if_pos c]
      obtain ⟨c1, c2, c3, c4⟩ := c
      obtain ⟨g1, g2, g3⟩ := feQ_s (w := wdF P p n) (b := b1) (H := hgQ P (oyN P a P.length) a p n pts) (F := feQ P (oyN P a P.length) a p n pts b1) c3 (fun q => hg_nn hk p n q) rfl (fun q => rfl) P.length
      refine ⟨fun g => ?_, fun o q ho hq t => ?_, ?_⟩
      · have k1 := h1 g
        have k2 := g1 k1.1
        omega
      · by_cases eo : o = n
        · rw [eo] at t ⊢
          exact g2 q hq t.2.2.2
        · have k1 := h2 o q (by omega) hq t
          have k2 := g1 k1.1
          omega
      · rcases g3 with g3 | ⟨q, q1, q2, q3⟩
        · rw [g3]
          exact h3
        · exact Or.inr ⟨n, q, ⟨c1, c2, c3, q2⟩, q3⟩
    · rw [if_neg c]
      refine ⟨h1, fun o q ho hq t => ?_, h3⟩
      by_cases eo : o = n
      · rw [eo] at t ⊢
        obtain ⟨t1, t2, t3, t4⟩ := t
        have hn := hg_nn (P := P) (a := a) hk p n q
        have : ¬ (b1 = -1 ∨ wdF P p n < b1) := fun g => c ⟨t1, t2, t3, g⟩
        omega
      · exact h2 o q (by omega) hq t
theorem feP_s (hk : 1 ≤ pts) : ∀ n, (∀ p o q, p < n → o < P.length → q < P.length → fTm P a pts p o q → feP P (oyN P a P.length) a pts n ≠ -1 ∧ feP P (oyN P a P.length) a pts n ≤ wdF P p o + hgQ P (oyN P a P.length) a p o pts q) ∧ (feP P (oyN P a P.length) a pts n = -1 ∨ ∃ p o q, fTm P a pts p o q ∧ feP P (oyN P a P.length) a pts n = wdF P p o + hgQ P (oyN P a P.length) a p o pts q)
  | 0 => ⟨fun p o q hp => absurd hp (Nat.not_lt_zero _), Or.inl rfl⟩
  | n + 1 => by
    obtain ⟨h1, h2⟩ := feP_s hk n
    have e : feP P (oyN P a P.length) a pts (n + 1) = feO P (oyN P a P.length) a n pts (feP P (oyN P a P.length) a pts n) P.length := rfl
    obtain ⟨g1, g2, g3⟩ := feO_s (P := P) (a := a) hk n (feP P (oyN P a P.length) a pts n) P.length
    rw [e]
    refine ⟨fun p o q hp ho hq t => ?_, ?_⟩
    · by_cases ep : p = n
      · rw [ep] at t ⊢
        exact g2 o q ho hq t
      · have k1 := h1 p o q (by omega) ho hq t
        have k2 := g1 k1.1
        omega
    · rcases g3 with g3 | ⟨o, q, q1, q2⟩
      · rw [g3]
        exact h2
      · exact Or.inr ⟨n, o, q, q1, q2⟩
theorem sumN_pos {f : Nat → Prop} : ∀ n, 0 < sumN (fun i => ic (f i)) n → ∃ i, i < n ∧ f i
  | 0, h => absurd h (Int.lt_irrefl _)
  | n + 1, h => by
    by_cases c : f n
    · exact ⟨n, by omega, c⟩
    · have h : 0 < sumN (fun i => ic (f i)) n + ic (f n) := h
      rw [ic_f c] at h
      have h' : 0 < sumN (fun i => ic (f i)) n := by omega
      obtain ⟨i, hi, w⟩ := sumN_pos n h'
      exact ⟨i, by omega, w⟩
theorem fe_ach (hk : 1 ≤ pts) (h : fTm P a pts p o q) : Ach P a pts (wdF P p o + hgQ P (oyN P a P.length) a p o pts q) := by
  obtain ⟨h1, h2, h3, h4⟩ := h
  unfold hgQ at h4 ⊢
  by_cases c : pM P q = a
  · rw [if_pos c] at h4 ⊢
    rcases htM_A (P := P) (a := a) (lo := pX P p) (hi := pX P o) (fr := pY P q) hk with h | ⟨to, k1, k2, k3⟩
    · exact absurd h h4
    · exact ⟨_, _, _, to, by rw [k2], k3⟩
  · rw [if_neg c] at h4
    exact absurd rfl h4
theorem ach_fe (hk : 1 ≤ pts) (h : Ach P a pts v) : ∃ p o q, p < P.length ∧ o < P.length ∧ q < P.length ∧ fTm P a pts p o q ∧ wdF P p o + hgQ P (oyN P a P.length) a p o pts q ≤ v := by
  obtain ⟨lo, hi, bo, to, rfl, hc⟩ := h
  have hc2 := hc
  unfold cb at hc2
  have ex := sumN_pos (f := fun i => pM P i = a ∧ ibx lo hi bo to (pX P i) (pY P i)) P.length (by omega)
  obtain ⟨p, hp, ⟨p1, p2⟩, pm⟩ := arg_minP (P := fun i => pM P i = a ∧ ibx lo hi bo to (pX P i) (pY P i)) (fun i => pX P i) P.length ex
  obtain ⟨o, ho, ⟨o1, o2⟩, om⟩ := arg_minP (P := fun i => pM P i = a ∧ ibx lo hi bo to (pX P i) (pY P i)) (fun i => - pX P i) P.length ex
  obtain ⟨q, hq, ⟨q1, q2⟩, qm⟩ := arg_minP (P := fun i => pM P i = a ∧ ibx lo hi bo to (pX P i) (pY P i)) (fun i => pY P i) P.length ex
  have c2 : cb P a lo hi bo to ≤ cb P a (pX P p) (pX P o) (pY P q) to := sumN_le _ fun i hi' => ic_le fun g => by
    have g1 := pm i hi' g
    have g2 := om i hi' g
    have g3 := qm i hi' g
    exact ⟨g.1, ⟨g1, by omega⟩, g3, g.2.2.2⟩
  have B := htM_B (P := P) (a := a) (lo := pX P p) (hi := pX P o) (fr := pY P q) (to := to) hk (by omega)
  have wo := om p hp ⟨p1, p2⟩
  have hq' : hgQ P (oyN P a P.length) a p o pts q = htM P (oyN P a P.length) (pX P p) (pX P o) (pY P q) pts := if_pos q1
  have wd : wdF P p o = pX P o - pX P p := rfl
  obtain ⟨⟨x1, x2⟩, -⟩ := p2
  obtain ⟨⟨x3, x4⟩, -⟩ := o2
  obtain ⟨-, y1, y2⟩ := q2
  refine ⟨p, o, q, hp, ho, hq, ⟨p1, o1, by omega, by rw [hq']; exact B.1⟩, ?_⟩
  rw [hq']
  have := B.2
  omega
theorem q_fence (hP : okP P) (hk : 1 ≤ pts) (hl : pts ≤ (putN P a [] P.length).length) : feP P (oyN P a P.length) a pts P.length = fnO (putN P a [] P.length) pts (putN P a [] P.length).length := by
  obtain ⟨l1, l2⟩ := fn_least hP hk hl
  obtain ⟨h1, h2⟩ := feP_s (P := P) (a := a) hk P.length
  obtain ⟨p, o, q, hp, ho, hq, t, le⟩ := ach_fe hk l1
  have k := h1 p o q hp ho hq t
  rcases h2 with h2 | ⟨p', o', q', t', e⟩
  · exact absurd h2 k.1
  · have := l2 _ (fe_ach hk t')
    rw [← e] at this
    omega
end FENCE2

