/-! The census of a row -/
section CENS
variable {L A B : PL} {R n i j k s t : Nat} {x y : Int} {u : Prop}
theorem ct_cut (T : Int × Int × Int → Prop) (L : PL) (y : Int) (u : Prop) : ∀ n : Nat, ((ct T (cutN L y u n) : Nat) : Int) = sumN (fun i => ic (ctG L y u i ∧ T (ctV L y i, 0, 0))) n
  | 0 => rfl
  | n + 1 => by
    have ih := ct_cut T L y u n
    show _ = sumN (fun i => ic (ctG L y u i ∧ T (ctV L y i, 0, 0))) n + ic (ctG L y u n ∧ T (ctV L y n, 0, 0))
    by_cases c : ctG L y u n
    · rw [show cutN L y u (n + 1) = _ from if_pos c, ct_ins]
      by_cases c2 : T (ctV L y n, 0, 0)
      · rw [cif_t c2, ic_t ⟨c, c2⟩, ← ih]
        rfl
      · rw [cif_f c2, ic_f (fun w => c2 w.2), ih, Int.add_zero]
    · rw [show cutN L y u (n + 1) = _ from if_neg c, ic_f (fun w => c w.1), ih, Int.add_zero]
theorem len_cut (L : PL) (y : Int) (u : Prop) : ∀ n : Nat, (((cutN L y u n).length : Nat) : Int) = sumN (fun i => ic (ctG L y u i)) n
  | 0 => rfl
  | n + 1 => by
    have ih := len_cut L y u n
    show _ = sumN (fun i => ic (ctG L y u i)) n + ic (ctG L y u n)
    by_cases c : ctG L y u n
    · rw [show cutN L y u (n + 1) = _ from if_pos c, insE_len, ic_t c, ← ih]
      rfl
    · rw [show cutN L y u (n + 1) = _ from if_neg c, ic_f c, ih, Int.add_zero]
theorem mem_cut {L : PL} {y : Int} {u : Prop} {e : Int × Int × Int} : ∀ n, e ∈ cutN L y u n ↔ ∃ i, i < n ∧ ctG L y u i ∧ e = (ctV L y i, 0, 0)
  | 0 => ⟨fun h => absurd h (List.not_mem_nil), fun ⟨i, hi, _⟩ => absurd hi (Nat.not_lt_zero _)⟩
  | n + 1 => by
    have ih := mem_cut (L := L) (y := y) (u := u) (e := e) n
    by_cases c : ctG L y u n
    · rw [show cutN L y u (n + 1) = _ from if_pos c, mem_insE, ih]
      constructor
      · rintro (h | ⟨i, hi, h1, h2⟩)
        · exact ⟨n, by omega, c, h⟩
        · exact ⟨i, by omega, h1, h2⟩
      · rintro ⟨i, hi, h1, h2⟩
        by_cases e1 : i = n
        · rw [e1] at h2
          exact Or.inl h2
        · exact Or.inr ⟨i, by omega, h1, h2⟩
    · rw [show cutN L y u (n + 1) = _ from if_neg c, ih]
      constructor
      · rintro ⟨i, hi, h1, h2⟩
        exact ⟨i, by omega, h1, h2⟩
      · rintro ⟨i, hi, h1, h2⟩
        have e1 : i ≠ n := fun e1 => c (e1 ▸ h1)
        exact ⟨i, by omega, h1, h2⟩
theorem srtw_cut (L : PL) (y : Int) (u : Prop) : ∀ n, srtw (cutN L y u n)
  | 0 => srtw_nil
  | n + 1 => by
    by_cases c : ctG L y u n
    · rw [show cutN L y u (n + 1) = _ from if_pos c]
      exact srtw_ins (srtw_cut L y u n)
    · rw [show cutN L y u (n + 1) = _ from if_neg c]
      exact srtw_cut L y u n
theorem srtw_mono (h : srtw A) (hij : i ≤ j) (hj : j < A.length) : pX A i ≤ pX A j := by
  rcases Nat.lt_or_eq_of_le hij with g | g
  · have := h i j g hj
    unfold lxw at this
    show (A.getD i d3).1 ≤ (A.getD j d3).1
    omega
  · rw [g]
    exact Int.le_refl _
def QI (A : PL) (x : Int) (s : Nat) : Prop := pX A (2 * s) < 2 * x ∧ 2 * x < pX A (2 * s + 1)
def QA (A : PL) (x : Int) : Prop := ∃ s, s < A.length / 2 ∧ QI A x s
theorem QI_one (hs : srtw A) (h1 : s < A.length / 2) (h2 : t < A.length / 2) (q1 : QI A x s) (q2 : QI A x t) : s = t := by
  have go : ∀ s t, s < A.length / 2 → t < A.length / 2 → QI A x s → QI A x t → ¬ s < t := fun s t h1 h2 q1 q2 g => by
    have := srtw_mono hs (show 2 * s + 1 ≤ 2 * t by omega) (by omega)
    have := q1.2
    have := q2.1
    omega
  have g1 := go s t h1 h2 q1 q2
  have g2 := go t s h2 h1 q2 q1
  omega
theorem ct_split (hs : srtw A) (m : Int) : ∃ q, q ≤ A.length ∧ (∀ i, i < q → pX A i < m) ∧ ∀ i, q ≤ i → i < A.length → ¬ pX A i < m := by
  have go : ∀ n, n ≤ A.length → ∃ q, q ≤ n ∧ (∀ i, i < q → pX A i < m) ∧ ∀ i, q ≤ i → i < n → ¬ pX A i < m := fun n => by
    induction n with
    | zero => exact fun _ => ⟨0, Nat.le_refl _, fun i hi => absurd hi (Nat.not_lt_zero _), fun i _ hi => absurd hi (Nat.not_lt_zero _)⟩
    | succ n ih =>
      intro hn
      obtain ⟨q, q1, q2, q3⟩ := ih (by omega)
      by_cases c : q = n ∧ pX A n < m
      · refine ⟨n + 1, Nat.le_refl _, fun i hi => ?_, fun i h1 h2 => by omega⟩
        have := srtw_mono hs (show i ≤ n by omega) (by omega)
        omega
      · refine ⟨q, by omega, q2, fun i h1 h2 => ?_⟩
        by_cases e : i = n
        · rw [e]
          intro w
          by_cases e2 : q = n
          · exact c ⟨e2, w⟩
          · have a1 := q3 q (Nat.le_refl _) (by omega)
            have := srtw_mono hs (show q ≤ n by omega) (by omega)
            omega
        · exact q3 i h1 (by omega)
  exact go A.length (Nat.le_refl _)
theorem QA_iff (hs : srtw A) (he : A.length % 2 = 0) : QA A x ↔ (∀ i, i < A.length → pX A i ≠ 2 * x) ∧ ct (fun f => f.1 < 2 * x) A % 2 = 1 := by
  constructor
  · rintro ⟨s, h1, h2, h3⟩
    have lo : ∀ i, i ≤ 2 * s → pX A i < 2 * x := fun i hi => by
      have := srtw_mono hs hi (by omega)
      omega
    have hi : ∀ i, 2 * s + 1 ≤ i → i < A.length → 2 * x < pX A i := fun i h4 h5 => by
      have := srtw_mono hs h4 h5
      omega
    refine ⟨fun i h4 => ?_, ?_⟩
    · by_cases c : i ≤ 2 * s
      · have := lo i c
        omega
      · have := hi i (by omega) h4
        omega
    · rw [ct_at (T := fun f => f.1 < 2 * x) A (2 * s + 1) (fun i h4 _ => lo i (by omega)) (fun i h4 h5 w => ?_) (by omega)]
      · omega
      · have w : pX A i < 2 * x := w
        have := hi i h4 h5
        omega
  · rintro ⟨h1, h2⟩
    obtain ⟨q, q1, q2, q3⟩ := ct_split hs (2 * x)
    rw [ct_at (T := fun f => f.1 < 2 * x) A q (fun i h4 _ => q2 i h4) (fun i h4 h5 => q3 i h4 h5) q1] at h2
    refine ⟨q / 2, by omega, ?_, ?_⟩
    · exact q2 _ (by omega)
    · have a1 := q3 (2 * (q / 2) + 1) (by omega) (by omega)
      have a2 := h1 (2 * (q / 2) + 1) (by omega)
      omega
theorem cmT_sum (hA : ∀ i, i < A.length → -(2 * (R : Int)) ≤ pX A i ∧ pX A i ≤ 2 * R) (hB : ∀ i, i < B.length → -(2 * (R : Int)) ≤ pX B i ∧ pX B i ≤ 2 * R) (hs : s < A.length / 2) (ht : t < B.length / 2) : cmT A B (2 * s) (2 * t) = sumN (fun k => ic (QI A ((k : Int) - R) s ∧ QI B ((k : Int) - R) t)) (2 * R + 1) := by
  have a1 := hA (2 * s) (by omega)
  have a2 := hA (2 * s + 1) (by omega)
  have b1 := hB (2 * t) (by omega)
  have b2 := hB (2 * t + 1) (by omega)
  unfold cmT fsI lsI QI
  generalize pX A (2 * s) = p1 at *
  generalize pX A (2 * s + 1) = p2 at *
  generalize pX B (2 * t) = p3 at *
  generalize pX B (2 * t + 1) = p4 at *
  generalize hlo : max (p1 / 2 + 1) (p3 / 2 + 1) = lo
  generalize hhi : min ((p2 + 1) / 2 - 1) ((p4 + 1) / 2 - 1) = hi
  have e : sumN (fun k => ic ((p1 < 2 * ((k : Int) - R) ∧ 2 * ((k : Int) - R) < p2) ∧ p3 < 2 * ((k : Int) - R) ∧ 2 * ((k : Int) - R) < p4)) (2 * R + 1) = sumN (fun k => if lo + R ≤ (k : Int) ∧ (k : Int) ≤ hi + R then (1 : Int) else 0) (2 * R + 1) := sumN_cg _ fun k _ => by
    by_cases c : lo + R ≤ (k : Int) ∧ (k : Int) ≤ hi + R
    · rw [if_pos c]
      exact ic_t ⟨⟨by omega, by omega⟩, by omega, by omega⟩
    · rw [if_neg c]
      exact ic_f fun w => c (by omega)
  rw [e]
  by_cases c : lo ≤ hi + 1
  · rw [cnt_btw (by omega) (by omega) (by omega)]
    omega
  · rw [sumN_z _ fun k _ => if_neg (by omega)]
    omega
theorem cmN_sum (sA : srtw A) (sB : srtw B) (hA : ∀ i, i < A.length → -(2 * (R : Int)) ≤ pX A i ∧ pX A i ≤ 2 * R) (hB : ∀ i, i < B.length → -(2 * (R : Int)) ≤ pX B i ∧ pX B i ≤ 2 * R) : cmN A B (A.length / 2) = sumN (fun k => ic (QA A ((k : Int) - R) ∧ QA B ((k : Int) - R))) (2 * R + 1) := by
  have e1 : cmN A B (A.length / 2) = sumN (fun s => sumN (fun t => sumN (fun k => ic (QI A ((k : Int) - R) s ∧ QI B ((k : Int) - R) t)) (2 * R + 1)) (B.length / 2)) (A.length / 2) := sumN_cg _ fun s hs => sumN_cg _ fun t ht => cmT_sum hA hB hs ht
  have e2 : sumN (fun s => sumN (fun t => sumN (fun k => ic (QI A ((k : Int) - R) s ∧ QI B ((k : Int) - R) t)) (2 * R + 1)) (B.length / 2)) (A.length / 2) = sumN (fun s => sumN (fun k => sumN (fun t => ic (QI A ((k : Int) - R) s ∧ QI B ((k : Int) - R) t)) (B.length / 2)) (2 * R + 1)) (A.length / 2) := sumN_cg _ fun s _ => sumN_c0 _ _ _
  rw [e1, e2, sumN_c0]
  refine sumN_cg _ fun k _ => ?_
  by_cases c : QA A ((k : Int) - R) ∧ QA B ((k : Int) - R)
  · obtain ⟨⟨s, s1, s2⟩, ⟨t, t1, t2⟩⟩ := c
    rw [ic_t ⟨⟨s, s1, s2⟩, ⟨t, t1, t2⟩⟩, sumN_1 s1 fun i hi ne => sumN_z _ fun j _ => ic_f fun w => ne (QI_one sA hi s1 w.1 s2)]
    rw [sumN_1 t1 fun j hj ne => ic_f fun w => ne (QI_one sB hj t1 w.2 t2)]
    exact ic_t ⟨s2, t2⟩
  · rw [ic_f c]
    exact sumN_z _ fun i hi => sumN_z _ fun j hj => ic_f fun w => c ⟨⟨i, hi, w.1⟩, ⟨j, hj, w.2⟩⟩
end CENS

