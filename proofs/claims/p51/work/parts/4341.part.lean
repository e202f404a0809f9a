/-! The parting's triangles have together the area -/
section PARTA
variable {L : PL} {w : Int} {n i j e : Nat} {R : Nat}
theorem w_sg (hw : w = 1 ∨ w = -1) (t : Int) : (0 ≤ w * sg t ↔ 0 ≤ w * t) ∧ (sg t = w ↔ 0 < w * t) := by
  unfold sg
  rcases hw with rfl | rfl
  · rw [Int.one_mul, Int.one_mul]
    constructor <;> split <;> (try split) <;> omega
  · rw [Int.neg_mul, Int.neg_mul, Int.one_mul, Int.one_mul]
    constructor <;> split <;> (try split) <;> omega
theorem earP_E (hw : w = 1 ∨ w = -1) : earP L w i ↔ Ear (pt L) L.length w i := by
  have k1 : ∀ a b c : Nat, sd3 L a b L c = sg (T3 (pt L a) (pt L b) (pt L c)) := fun a b c => rfl
  unfold earP Ear
  rw [k1, (w_sg hw _).2]
  constructor
  · rintro ⟨h1, h2⟩
    refine ⟨h1, fun j hj e1 e2 e3 t => h2 j hj ⟨e1, e2, e3⟩ ?_⟩
    unfold inE
    rw [k1, k1, k1, (w_sg hw _).1, (w_sg hw _).1, (w_sg hw _).1]
    exact t
  · rintro ⟨h1, h2⟩
    refine ⟨h1, fun j hj o t => h2 j hj o.1 o.2.1 o.2.2 ?_⟩
    unfold inE at t
    rw [k1, k1, k1, (w_sg hw _).1, (w_sg hw _).1, (w_sg hw _).1] at t
    exact t
theorem fEa_ex : ∀ (f i0 : Nat), (∃ i, i0 ≤ i ∧ i < i0 + f ∧ earP L w i) → ∃ e, fEa L w f i0 = some e ∧ earP L w e ∧ e < i0 + f
  | 0, i0, ⟨i, h1, h2, _⟩ => absurd h2 (by omega)
  | f + 1, i0, ⟨i, h1, h2, h3⟩ => by
    by_cases c : earP L w i0
    · exact ⟨i0, if_pos c, c, by omega⟩
    · have e : fEa L w (f + 1) i0 = fEa L w f (i0 + 1) := if_neg c
      have ne : i ≠ i0 := fun q => c (q ▸ h3)
      obtain ⟨e', k1, k2, k3⟩ := fEa_ex f (i0 + 1) ⟨i, by omega, by omega, h3⟩
      exact ⟨e', e.trans k1, k2, by omega⟩
theorem pt_er (L : PL) (e k : Nat) : pt (L.eraseIdx e) k = ers (pt L) e k := by
  have g : ∀ j, pt L j = ((L[j]?.getD d3).1, (L[j]?.getD d3).2.1) := fun j => by
    unfold pt pX pY
    rw [List.getD_eq_getElem?_getD]
  have g2 : pt (L.eraseIdx e) k = (((L.eraseIdx e)[k]?.getD d3).1, ((L.eraseIdx e)[k]?.getD d3).2.1) := by
    unfold pt pX pY
    rw [List.getD_eq_getElem?_getD]
  unfold ers
  rw [g2, List.getElem?_eraseIdx]
  by_cases c : k < e
  · rw [if_pos c, if_pos c, g]
  · rw [if_neg c, if_neg c, g]
def arF (v : Nat → Pt) (n : Nat) : Int := sumN (fun i => (v i).1 * (v (nxt n i)).2 - (v i).2 * (v (nxt n i)).1) n
theorem da_ar (L : PL) : da L = arF (pt L) L.length := rfl
theorem ar_cut {v : Nat → Pt} (hR : R ≤ 1000) (h : Smp (-1) 100000 v n) (h4 : 4 ≤ n) (hw : w = 1 ∨ w = -1) (he : e < n) (hE : Ear v n w e) (hv : inR R v n) : arF v n = arF (ers v e) (n - 1) + T3 (v (prv n e)) (v e) (v (nxt n e)) := by
  obtain ⟨k1, k2, k3⟩ := cutE h4 hw e v he h hE
  have hv2 : inR R (ers v e) (n - 1) := fun i hi => by
    unfold ers
    split
    · exact hv i (by omega)
    · exact hv (i + 1) (by omega)
  have hv3 : inR R (fun i => if i = 0 then v e else if i = 1 then v (nxt n e) else v (prv n e)) 3 := fun i hi => by
    match i, hi with
    | 0, _ => exact hv e he
    | 1, _ => exact hv _ (nxt_lt he)
    | 2, _ => exact hv _ (prv_lt he)
  have a1 := area hR hv
  have a2 := area hR hv2
  have a3 := area hR hv3
  have e1 : bx R (fun x y => om (-1) 100000 v n (x, y)) = bx R (fun x y => om (-1) 100000 (ers v e) (n - 1) (x, y) + om (-1) 100000 (fun i => if i = 0 then v e else if i = 1 then v (nxt n e) else v (prv n e)) 3 (x, y)) := bx_cg fun x y _ _ _ _ => by
    have q1 := k2 (-1) 100000 (x, y)
    have q2 := k2 (-(-1)) (-100000) (x, y)
    unfold om
    rw [wN_c3, wN_c3]
    show _ = _ + (tS (-1) 100000 (v (prv n e)) (v e) (v (nxt n e)) (x, y) + tS (-(-1)) (-100000) (v (prv n e)) (v e) (v (nxt n e)) (x, y))
    omega
  rw [bx_ad, a1, a2, a3] at e1
  unfold arF
  rw [e1]
  congr 1
  show (0 : Int) + ((v e).1 * (v (nxt n e)).2 - (v e).2 * (v (nxt n e)).1) + ((v (nxt n e)).1 * (v (prv n e)).2 - (v (nxt n e)).2 * (v (prv n e)).1) + ((v (prv n e)).1 * (v e).2 - (v (prv n e)).2 * (v e).1) = _
  simp only [T3, tw]
  grind
theorem ar_3 (v : Nat → Pt) : arF v 3 = T3 (v 0) (v 1) (v 2) := by
  show (0 : Int) + ((v 0).1 * (v 1).2 - (v 0).2 * (v 1).1) + ((v 1).1 * (v 2).2 - (v 1).2 * (v 2).1) + ((v 2).1 * (v 0).2 - (v 2).2 * (v 0).1) = _
  simp only [T3, tw]
  grind
theorem par_Z (h3 : L.length = 3) (T : List Int) (a : Int) : (parZ L T a).2.2 = a + ((da L).natAbs : Int) := by
  unfold parZ
  rw [if_pos h3]
  show a + ((T3 (pt L 0) (pt L 1) (pt L 2)).natAbs : Int) = _
  rw [da_ar, h3, ar_3]
theorem par_area : ∀ (f : Nat) (L : PL) (T : List Int) (a : Int), L.length ≤ f + 3 → Smp (-1) 100000 (pt L) L.length → inR 200 (pt L) L.length → (parF (sg (da L)) f L T a).2.2 = a + ((da L).natAbs : Int)
  | 0, L, T, a, hl, h, _ => par_Z (by have := h.1; omega) T a
  | f + 1, L, T, a, hl, h, hv => by
    have h3 := h.1
    have P := pick_abs (R := 200) (by decide) h hv
    have m01 := mu_01 h
    show (parS (sg (da L)) L T a (parF (sg (da L)) f)).2.2 = _
    by_cases c : 3 < L.length
    · obtain ⟨i, hi, -, -, hE⟩ := ear_ex (by decide) (L.length + 1) L.length (pt L) (by omega) h 0 (by omega)
      rw [← P.2.2] at hE
      have hw : sg (da L) = 1 ∨ sg (da L) = -1 := by omega
      obtain ⟨e, k1, k2, k3⟩ := fEa_ex (L := L) (w := sg (da L)) L.length 0 ⟨i, Nat.zero_le _, by omega, (earP_E hw).mpr hE⟩
      rw [parS_s c k1]
      have hE2 := (earP_E hw).mp k2
      have he : e < L.length := by omega
      have hl2 : (L.eraseIdx e).length = L.length - 1 := List.length_eraseIdx_of_lt he
      obtain ⟨q1, q2, q3⟩ := cutE c hw e (pt L) he h hE2
      have S2 : Smp (-1) 100000 (pt (L.eraseIdx e)) (L.eraseIdx e).length := by
        rw [hl2]
        exact Smp_cg q1 fun k _ => pt_er L e k
      have V2 : inR 200 (pt (L.eraseIdx e)) (L.eraseIdx e).length := fun k hk => by
        rw [hl2] at hk
        rw [pt_er]
        unfold ers
        split
        · exact hv k (by omega)
        · exact hv (k + 1) (by omega)
      have P2 := pick_abs (R := 200) (by decide) S2 V2
      have mu2 : mu (-1) 100000 (pt (L.eraseIdx e)) (L.eraseIdx e).length = mu (-1) 100000 (pt L) L.length := by
        rw [hl2, mu_cg (by omega) (fun k _ => pt_er L e k), q3]
      have es : sg (da (L.eraseIdx e)) = sg (da L) := by
        rw [P2.2.2, mu2, P.2.2]
      have ea : da L = da (L.eraseIdx e) + T3 (pt L (prv L.length e)) (pt L e) (pt L (nxt L.length e)) := by
        rw [da_ar, da_ar, ar_cut (R := 200) (by decide) h c hw he hE2 hv, hl2]
        congr 1
        unfold arF
        refine sumN_cg _ fun k hk => ?_
        rw [pt_er, pt_er]
      have ih := par_area f (L.eraseIdx e) (T ++ [tri3 L (prv L.length e) e (nxt L.length e)]) (a + ab3 L (prv L.length e) e (nxt L.length e)) (by omega) S2 V2
      rw [es] at ih
      rw [ih]
      have ab : ab3 L (prv L.length e) e (nxt L.length e) = ((T3 (pt L (prv L.length e)) (pt L e) (pt L (nxt L.length e))).natAbs : Int) := rfl
      rw [ab]
      have hp := hE2.1
      have n1 := P.2.1
      have n2 := P2.2.1
      generalize T3 (pt L (prv L.length e)) (pt L e) (pt L (nxt L.length e)) = t at *
      generalize da (L.eraseIdx e) = d2 at *
      generalize da L = d1 at *
      clear ih q1 q2 P P2 S2 V2 hE hE2 k1 k2
      have s1 := (w_sg hw d1).2.mp rfl
      have s2 := (w_sg hw d2).2.mp es
      rcases hw with g | g
      · rw [g, Int.one_mul] at hp s1 s2
        omega
      · rw [g, Int.neg_mul, Int.one_mul] at hp s1 s2
        omega
    · rw [parS_z c]
      exact par_Z (by omega) T a
theorem q_parD (h : closes L) (hb : okP L) (hl : L.length ≤ 16) : (parD L).2.2 = ((da L).natAbs : Int) := by
  obtain ⟨h1, h2⟩ := Smp_P h hb
  have := par_area 16 L [] 0 (by omega) h1 h2
  rw [Int.zero_add] at this
  exact this
end PARTA

