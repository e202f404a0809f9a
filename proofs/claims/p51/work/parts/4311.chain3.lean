/-! The chains of a sorted row -/
theorem nod_le : ∀ (l m : List Pt), l.Nodup → (∀ x, x ∈ l → x ∈ m) → l.length ≤ m.length
  | [], _, _, _ => Nat.zero_le _
  | a :: l, m, h, s => by
    have ha : a ∈ m := s a List.mem_cons_self
    have hc := List.nodup_cons.mp h
    have := nod_le l (m.erase a) hc.2 (fun x hx => (List.mem_erase_of_ne (fun e : x = a => hc.1 (e ▸ hx))).mpr (s x (List.mem_cons_of_mem _ hx)))
    rw [List.length_erase_of_mem ha] at this
    have h0 : 0 < m.length := List.length_pos_of_mem ha
    rw [List.length_cons]
    omega
theorem nod_map (f : Nat → Pt) : ∀ t, (∀ i j, i < j → j < t → f i ≠ f j) → ((List.range t).map f).Nodup
  | 0, _ => List.nodup_nil
  | t + 1, h => by
    rw [List.range_succ, List.map_append, List.nodup_append]
    refine ⟨nod_map f t (fun i j a b => h i j a (by omega)), by simp, fun a ha b hb => ?_⟩
    rw [List.mem_map] at ha
    obtain ⟨i, hi, rfl⟩ := ha
    rw [List.mem_range] at hi
    rw [List.map_cons, List.map_nil, List.mem_singleton] at hb
    rw [hb]
    exact h i t hi (by omega)
/-- so many different points need so many places -/
theorem pig {f g : Nat → Pt} {t n : Nat} (h : ∀ i j, i < j → j < t → f i ≠ f j) (s : ∀ i, i < t → ∃ k, k < n ∧ f i = g k) : t ≤ n := by
  have := nod_le _ ((List.range n).map g) (nod_map f t h) (fun x hx => by
    rw [List.mem_map] at hx
    obtain ⟨i, hi, rfl⟩ := hx
    obtain ⟨k, hk, e⟩ := s i (List.mem_range.mp hi)
    rw [e]
    exact List.mem_map_of_mem (List.mem_range.mpr hk))
  rw [List.length_map, List.length_range, List.length_map, List.length_range] at this
  exact this
theorem lv_neg (A B : Int) (p : Pt) : lv (-A) (-B) p = - lv A B p := by
  unfold lv
  rw [Int.neg_mul, Int.neg_mul]
  omega
section LOWUP
variable {A B : Int} {t0 N : Nat} {D D' : Pt → Prop} {H L : PL} {p : Pt}
theorem chn_D (h : chn A B t0 D H) (e : ∀ q, D' q ↔ D q) : chn A B t0 D' H := by
  obtain ⟨h1, h2, h3, h4, h5, h6⟩ := h
  exact ⟨h1, h2, h3, fun j a b q w => h4 j a b q ((e q).mp w), fun q w => h5 q ((e q).mp w), fun j a b => (e _).mpr (h6 j a b)⟩
theorem chn_pt (h : chn A B t0 D H) (hl : L.length = H.length) (e : ∀ j, t0 ≤ j → j < H.length → pt L j = pt H j) : chn A B t0 D L := by
  obtain ⟨h1, h2, h3, h4, h5, h6⟩ := h
  unfold chn
  rw [hl]
  refine ⟨h1, fun j a b => ?_, fun j a b => ?_, fun j a b q w => ?_, fun q w => ?_, fun j a b => ?_⟩
  · rw [e j a (by omega), e (j + 1) (by omega) (by omega)]
    exact h2 j a b
  · rw [e j a (by omega), e (j + 1) (by omega) (by omega), e (j + 2) (by omega) (by omega)]
    exact h3 j a b
  · rw [e j a (by omega), e (j + 1) (by omega) (by omega)]
    exact h4 j a b q w
  · rw [e t0 (by omega) h1, e (H.length - 1) (by omega) (by omega)]
    exact h5 q w
  · rw [e j a b]
    exact h6 j a b
theorem chn_bend (h : chn A B t0 D H) (hp : lv A B (pt H (H.length - 1)) ≤ lv A B p) (hi : ∀ q, D q ∨ q = p → lv A B q = lv A B (pt H (H.length - 1)) → q = pt H (H.length - 1)) (hN : ∀ t, t0 < t → t ≤ H.length → chn A B t0 (fun q => D q ∨ q = p) (H.take t ++ [(p.1, p.2, 0)]) → t < N) : chn A B t0 (fun q => D q ∨ q = p) (bend N H (t0 + 1) p.1 p.2) ∧ (bend N H (t0 + 1) p.1 p.2).length ≤ H.length + 1 ∧ t0 < (bend N H (t0 + 1) p.1 p.2).length ∧ (∀ j, j ≤ t0 → pt (bend N H (t0 + 1) p.1 p.2) j = pt H j) ∧ (H.length ≤ N → (bend N H (t0 + 1) p.1 p.2).length ≤ N) := by
  unfold bend
  have h1 := h.1
  by_cases c : lastAt H p.1 p.2
  · rw [if_pos c]
    have e : pt H (H.length - 1) = p := Prod.ext c.2.1 c.2.2
    refine ⟨chn_D h (fun q => ⟨fun w => ?_, Or.inl⟩), by omega, h1, fun _ _ => rfl, fun w => w⟩
    rcases w with w | w
    · exact w
    · rw [w, ← e]
      exact h.2.2.2.2.2 _ (by omega) (by omega)
  · rw [if_neg c]
    have hp2 : lv A B (pt H (H.length - 1)) < lv A B p := by
      rcases Int.lt_or_eq_of_le hp with w | w
      · exact w
      · have k := hi p (Or.inr rfl) w.symm
        refine absurd ⟨by omega, ?_, ?_⟩ c
        · exact (congrArg Prod.fst k).symm
        · exact (congrArg Prod.snd k).symm
    obtain ⟨t, t1, t2, t3, t4, t5⟩ := popW_spec (t0 + 1) p.1 p.2 H.length H (Nat.le_refl _)
    rw [t2]
    have ht : t0 < t := t3 (by omega)
    have st := chn_step h hp2 (fun q w => hi q (Or.inl w)) (m := 0) (t := t) ht t1 (fun w => t4 w) (fun w => (t5 w).2)
    have hn := hN t ht t1 st
    unfold capp
    rw [if_pos (by rw [List.length_take]; omega)]
    refine ⟨st, ?_, ?_, fun j hj => pt_tk1 t1 (by omega), fun _ => ?_⟩
    · rw [len_tk t1]; omega
    · rw [len_tk t1]; omega
    · rw [len_tk t1]; omega
/-- the corners of both chains are different but for the last -/
theorem two_inj (hL : chn A B 0 D L) (hH : chn (-A) (-B) (L.length - 1) D' H) (hs : ∀ q, D' q → D q) (he : ∀ j, j < L.length → pt H j = pt L j) : ∀ i j, i < j → j + 1 < H.length → pt H i ≠ pt H j := by
  intro i j hij hj e
  by_cases c : j < L.length
  · rw [he i (by omega), he j c] at e
    have := chn_lt hL (Nat.zero_le i) hij c
    rw [e] at this
    exact Int.lt_irrefl _ this
  by_cases c2 : L.length - 1 ≤ i
  · have := chn_lt hH c2 hij (by omega)
    rw [e] at this
    exact Int.lt_irrefl _ this
  have l1 := hH.2.1 (j - 1) (by omega) (by omega)
  have l2 := hH.2.1 j (by omega) (by omega)
  have l3 := hH.2.2.1 (j - 1) (by omega) (by omega)
  rw [show j - 1 + 1 = j by omega, show j - 1 + 2 = j + 1 by omega] at l3
  rw [show j - 1 + 1 = j by omega] at l1
  rw [lv_neg, lv_neg, ← e, he i (by omega)] at l1 l2
  rw [← e, he i (by omega)] at l3
  have d1 := hs _ (hH.2.2.2.2.2 (j - 1) (by omega) (by omega))
  have d2 := hs _ (hH.2.2.2.2.2 (j + 1) (by omega) (by omega))
  by_cases c3 : i = 0
  · have := (hL.2.2.2.2.1 _ d2).1
    rw [c3] at l2
    omega
  · have m1 := hL.2.1 (i - 1) (by omega) (by omega)
    have m2 := hL.2.1 i (by omega) (by omega)
    have m3 := hL.2.2.1 (i - 1) (by omega) (by omega)
    have m4 := hL.2.2.2.1 i (by omega) (by omega) _ d1
    have m5 := hL.2.2.2.1 (i - 1) (by omega) (by omega) _ d2
    rw [show i - 1 + 1 = i by omega] at m1 m5
    rw [show i - 1 + 1 = i by omega, show i - 1 + 2 = i + 1 by omega] at m3
    exact q4d m1 m2 (by omega) (by omega) m3 m4 l3 m5
end LOWUP

