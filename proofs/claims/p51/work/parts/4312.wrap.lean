/-! The row's hull is two chains -/
def bp (p : Pt) : Prop := (-400 ≤ p.1 ∧ p.1 ≤ 400) ∧ (-400 ≤ p.2 ∧ p.2 ≤ 400)
def pq (P : PL) (i : Nat) (q : Pt) : Prop := ∃ k, k < i ∧ q = pt P k
def pr (P : PL) (i : Nat) (q : Pt) : Prop := ∃ k, i ≤ k ∧ k < P.length ∧ q = pt P k
theorem bp_pq {P : PL} (hb : okS P) {i : Nat} (hi : i ≤ P.length) {q : Pt} (h : pq P i q) : bp q := by
  obtain ⟨k, hk, rfl⟩ := h
  exact hb k (by omega)
theorem lv_inj {p q : Pt} (hp : bp p) (hq : bp q) (h : lv 100000 1 p = lv 100000 1 q) : p = q := by
  obtain ⟨x, y⟩ := p
  obtain ⟨u, v⟩ := q
  obtain ⟨⟨p1, p2⟩, p3, p4⟩ := hp
  obtain ⟨⟨q1, q2⟩, q3, q4⟩ := hq
  have h : 100000 * x + 1 * y = 100000 * u + 1 * v := h
  dsimp only at p1 p2 p3 p4 q1 q2 q3 q4
  have e1 : x = u := by omega
  have e2 : y = v := by omega
  rw [e1, e2]
theorem lv_inj2 {p q : Pt} (hp : bp p) (hq : bp q) (h : lv (-100000) (-1) p = lv (-100000) (-1) q) : p = q := by
  refine lv_inj hp hq ?_
  rw [lv_neg, lv_neg] at h
  omega
theorem lv_sort {P : PL} (hs : srtw P) (hb : okS P) {i j : Nat} (hij : i ≤ j) (hj : j < P.length) : lv 100000 1 (pt P i) ≤ lv 100000 1 (pt P j) := by
  by_cases e : i = j
  · rw [e]
    exact Int.le_refl _
  have h := hs i j (by omega) hj
  have b1 := hb i (by omega)
  have b2 := hb j hj
  show 100000 * pX P i + 1 * pY P i ≤ 100000 * pX P j + 1 * pY P j
  have h : pX P i < pX P j ∨ (pX P i = pX P j ∧ pY P i ≤ pY P j) := h
  omega
theorem low_chn {P : PL} (hs : srtw P) (hb : okS P) (hl : P.length ≤ 60) : ∀ i, 0 < i → i ≤ P.length → chn 100000 1 0 (pq P i) (lowN 61 P i) ∧ (lowN 61 P i).length ≤ i
  | 0, h0, _ => absurd h0 (Nat.lt_irrefl _)
  | 1, _, h1 => by
    have e : lowN 61 P 1 = [(pX P 0, pY P 0, 0)] := rfl
    rw [e]
    have k : ∀ q, pq P 1 q → q = pt P 0 := fun q ⟨k, hk, w⟩ => by
      rw [w, show k = 0 by omega]
    refine ⟨⟨Nat.zero_lt_one, fun j _ h => absurd h (by simp), fun j _ h => absurd h (by simp), fun j _ h => absurd h (by simp), fun q h => ?_, fun j _ h => ?_⟩, Nat.le_refl 1⟩
    · rw [k q h]
      exact ⟨Int.le_refl _, Int.le_refl _⟩
    · have : j = 0 := by
        rw [List.length_singleton] at h
        omega
      rw [this]
      exact ⟨0, by omega, rfl⟩
  | i + 2, _, h2 => by
    obtain ⟨h, hlen⟩ := low_chn hs hb hl (i + 1) (by omega) (by omega)
    have hlast := h.2.2.2.2.2 _ (Nat.zero_le _) (show (lowN 61 P (i + 1)).length - 1 < (lowN 61 P (i + 1)).length by have := h.1; omega)
    have bl := bp_pq hb (by omega) hlast
    have st := chn_bend (N := 61) (p := pt P (i + 1)) h ?_ (fun q hq e => ?_) (fun t _ h2 _ => by omega)
    · refine ⟨chn_D st.1 (fun q => ⟨fun ⟨k, hk, e⟩ => ?_, fun w => ?_⟩), ?_⟩
      · by_cases c : k = i + 1
        · rw [c] at e
          exact Or.inr e
        · exact Or.inl ⟨k, by omega, e⟩
      · rcases w with ⟨k, hk, e⟩ | w
        · exact ⟨k, by omega, e⟩
        · exact ⟨i + 1, by omega, w⟩
      · have := st.2.1
        show (bend 61 (lowN 61 P (i + 1)) 1 (pX P (i + 1)) (pY P (i + 1))).length ≤ i + 2
        exact Nat.le_trans this (by omega)
    · obtain ⟨k, hk, e⟩ := hlast
      rw [e]
      exact lv_sort hs hb (by omega) (by omega)
    · refine lv_inj ?_ bl e
      rcases hq with hq | hq
      · exact bp_pq hb (by omega) hq
      · rw [hq]
        exact hb (i + 1) (by omega)
theorem up_chn {P L : PL} (hs : srtw P) (hb : okS P) (hl : P.length ≤ 60) (hL : chn 100000 1 0 (pq P P.length) L) : ∀ i H, i < P.length → chn (-100000) (-1) (L.length - 1) (pr P i) H → (∀ j, j < L.length → pt H j = pt L j) → H.length ≤ 61 → chn (-100000) (-1) (L.length - 1) (pr P 0) (upN 61 P L.length i H) ∧ (∀ j, j < L.length → pt (upN 61 P L.length i H) j = pt L j) ∧ (upN 61 P L.length i H).length ≤ 61
  | 0, H, _, h2, h3, h4 => ⟨h2, h3, h4⟩
  | i + 1, H, h1, h2, h3, h4 => by
    have l0 := hL.1
    have l1 : L.length - 1 + 1 = L.length := by omega
    have hlast := h2.2.2.2.2.2 (H.length - 1) (by have := h2.1; omega) (by have := h2.1; omega)
    have sub : ∀ q, pr P (i + 1) q ∨ q = pt P i → pq P P.length q := fun q w => by
      rcases w with ⟨k, a, b, e⟩ | e
      · exact ⟨k, b, e⟩
      · exact ⟨i, by omega, e⟩
    have bl := bp_pq hb (Nat.le_refl _) (sub _ (Or.inl hlast))
    have st := chn_bend (N := 61) (p := pt P i) h2 ?_ (fun q hq e => ?_) (fun t ta tb tc => ?_)
    · rw [l1] at st
      refine up_chn hs hb hl hL i (bend 61 H L.length (pX P i) (pY P i)) (by omega) (chn_D st.1 (fun q => ⟨fun ⟨k, ka, kb, e⟩ => ?_, fun w => ?_⟩)) (fun j hj => ?_) (st.2.2.2.2 h4)
      · by_cases c : k = i
        · rw [c] at e
          exact Or.inr e
        · exact Or.inl ⟨k, by omega, kb, e⟩
      · rcases w with ⟨k, ka, kb, e⟩ | w
        · exact ⟨k, by omega, kb, e⟩
        · exact ⟨i, by omega, by omega, w⟩
      · rw [← h3 j hj]
        exact st.2.2.2.1 j (by omega)
    · rw [lv_neg, lv_neg]
      obtain ⟨k, ka, kb, e⟩ := hlast
      rw [e]
      have := lv_sort hs hb (show i ≤ k by omega) kb
      omega
    · exact lv_inj2 (bp_pq hb (Nat.le_refl _) (sub q hq)) bl e
    · have w := two_inj hL tc sub (fun j hj => ?_)
      · rw [len_tk tb] at w
        have := pig (f := pt (H.take t ++ [((pt P i).1, (pt P i).2, 0)])) (g := pt P) (t := t) (n := P.length) (fun a b hab hb => w a b hab (by omega)) (fun a ha => ?_)
        · omega
        · by_cases c : L.length - 1 ≤ a
          · exact sub _ (tc.2.2.2.2.2 a c (by rw [len_tk tb]; omega))
          · rw [pt_tk1 tb ha, h3 a (by omega)]
            exact hL.2.2.2.2.2 a (Nat.zero_le _) (by omega)
      · rw [pt_tk1 tb (by omega), h3 j hj]
/-- there and back, with all of D to the left -/
def two (A B : Int) (D : Pt → Prop) (H : PL) (k : Nat) : Prop := 0 < k ∧ k ≤ H.length ∧ chn A B 0 D (H.take k) ∧ chn (-A) (-B) (k - 1) D H ∧ pt H (H.length - 1) = pt H 0
theorem wrap_two {P : PL} (hs : srtw P) (hb : okS P) (h0 : 0 < P.length) (hl : P.length ≤ 60) : ∃ H k, wrapN 61 P = shut H ∧ two 100000 1 (pq P P.length) H k ∧ H.length ≤ 61 := by
  obtain ⟨hL, hlen⟩ := low_chn hs hb hl P.length h0 (Nat.le_refl _)
  have l0 := hL.1
  generalize eL : lowN 61 P P.length = L at hL hlen l0
  have dl := hL.2.2.2.2.2 (L.length - 1) (Nat.zero_le _) (by omega)
  have el : pt L (L.length - 1) = pt P (P.length - 1) := by
    refine lv_inj (bp_pq hb (Nat.le_refl _) dl) (hb _ (by omega)) (Int.le_antisymm ?_ ?_)
    · obtain ⟨k, hk, e⟩ := dl
      rw [e]
      exact lv_sort hs hb (by omega) (by omega)
    · exact (hL.2.2.2.2.1 _ ⟨P.length - 1, by omega, rfl⟩).2
  have h1 : chn (-100000) (-1) (L.length - 1) (pr P (P.length - 1)) L := by
    refine ⟨by omega, fun j a b => absurd b (by omega), fun j a b => absurd b (by omega), fun j a b => absurd b (by omega), fun q ⟨k, ka, kb, e⟩ => ?_, fun j a b => ?_⟩
    · rw [e, el, show k = P.length - 1 by omega]
      exact ⟨Int.le_refl _, Int.le_refl _⟩
    · rw [show j = L.length - 1 by omega, el]
      exact ⟨P.length - 1, Nat.le_refl _, by omega, rfl⟩
  obtain ⟨u1, u2, u3⟩ := up_chn hs hb hl hL (P.length - 1) L (by omega) h1 (fun _ _ => rfl) (by omega)
  have e : wrapN 61 P = shut (upN 61 P L.length (P.length - 1) L) := by
    unfold wrapN
    rw [eL]
  generalize upN 61 P L.length (P.length - 1) L = H at u1 u2 u3 e
  have u0 := u1.1
  have u1 : chn (-100000) (-1) (L.length - 1) (pq P P.length) H := chn_D u1 (fun q => ⟨fun ⟨k, a, b⟩ => ⟨k, Nat.zero_le _, a, b⟩, fun ⟨k, _, a, b⟩ => ⟨k, a, b⟩⟩)
  have d1 := u1.2.2.2.2.2 (H.length - 1) (by omega) (by omega)
  have d2 := hL.2.2.2.2.2 0 (Nat.zero_le _) l0
  refine ⟨H, L.length, e, ⟨l0, by omega, ?_, u1, ?_⟩, u3⟩
  · refine chn_pt hL (by rw [List.length_take]; omega) (fun j _ hj => ?_)
    rw [pt_take hj, u2 j hj]
  · rw [u2 0 l0]
    refine lv_inj (bp_pq hb (Nat.le_refl _) d1) (bp_pq hb (Nat.le_refl _) d2) (Int.le_antisymm ?_ ?_)
    · have := (u1.2.2.2.2.1 _ d2).2
      rw [lv_neg, lv_neg] at this
      omega
    · exact (hL.2.2.2.2.1 _ d1).1

