/-! The mathematics of the law's checks: what the parting draws is open -/
section MOPEN
variable {A B w X D : Int} {v : Nat → Pt} {a b c p q r s z Z : Pt} {i j k n e : Nat} {L M : PL} {Ts : List P3} {T : P3}
theorem no_ps (h : Smp A B v n) (hk : k < n) (hi : i < n) : ¬ ps (v k) (v (nxt n k)) (v i) (v (nxt n i)) := fun w => by
  by_cases c1 : k = i
  · subst c1
    have w1 := w.1
    rw [T3_ba, sg0, Int.zero_mul] at w1
    omega
  · by_cases c2 : nxt n k = i
    · have w1 := w.1
      rw [← c2, T3_bb, sg0, Int.zero_mul] at w1
      omega
    · by_cases c3 : nxt n i = k
      · have w1 := w.1
        rw [c3, T3_ba, sg0, Int.mul_zero] at w1
        omega
      · exact h.2.2.2 k i hk hi c1 c2 c3 (Or.inl w)
theorem lvX_inj (h1 : -X ≤ p.1 ∧ p.1 ≤ X) (h2 : -X ≤ q.1 ∧ q.1 ≤ X) (e : lv (-1) (2 * X + 1) p = lv (-1) (2 * X + 1) q) : p = q := by
  have e' : -1 * p.1 + (2 * X + 1) * p.2 = -1 * q.1 + (2 * X + 1) * q.2 := e
  have k : (2 * X + 1) * (p.2 - q.2) = p.1 - q.1 := by grind
  have hX : 0 ≤ 2 * X + 1 := by omega
  rcases Int.lt_trichotomy p.2 q.2 with g | g | g
  · have := Int.mul_le_mul_of_nonneg_left (show p.2 - q.2 ≤ -1 by omega) hX
    omega
  · rw [g, Int.sub_self, Int.mul_zero] at k
    exact pt_eq (by omega) g
  · have := Int.mul_le_mul_of_nonneg_left (show 1 ≤ p.2 - q.2 by omega) hX
    omega
theorem J_cross (hL : Smp (-1) 100000 (pt L) L.length) (h : Jp L M w Ts) (hwL : 2 * mu (-1) 100000 (pt L) L.length + 1 = w) (hb : ∀ i, i < L.length → -400 ≤ pX L i ∧ pX L i ≤ 400) (hj : j < M.length) (hT : T ∈ Ts) (hD : 0 < D) (o : On (sc D (pt M j)) (sc D (pt M (nxt M.length j))) Z) (n1 : Z ≠ sc D (pt M j)) (n2 : Z ≠ sc D (pt M (nxt M.length j))) : ¬ (0 < w * T3 (sc D T.1) (sc D T.2.1) Z ∧ 0 < w * T3 (sc D T.2.1) (sc D T.2.2) Z ∧ 0 < w * T3 (sc D T.2.2) (sc D T.1) Z) := by
  have bd : ∀ p, (p = Z ∨ inL3 L p ∧ False ∨ ∃ p', inL3 L p' ∧ p = sc D p') → -(D * 400 + (Z.1.natAbs : Int)) ≤ p.1 ∧ p.1 ≤ D * 400 + (Z.1.natAbs : Int) := fun p hp => by
    rcases hp with e | e | ⟨p', ⟨i, hi, e1⟩, e2⟩
    · rw [e]
      omega
    · exact absurd e.2 id
    · have b1 := hb i hi
      have ex : p.1 = D * pX L i := by
        rw [e2, e1]
        rfl
      have m1 := Int.mul_le_mul_of_nonneg_left b1.2 (Int.le_of_lt hD)
      have m2 := Int.mul_le_mul_of_nonneg_left b1.1 (Int.le_of_lt hD)
      omega
  have hX : 0 ≤ D * 400 := by omega
  exact (side (A := -1) (B := 2 * (D * 400 + (Z.1.natAbs : Int)) + 1) hL h hD (by omega) (fun p q hp hq e => lvX_inj (bd p hp) (bd q hq) e) hwL hj o n1 n2).2.2 T hT
theorem J_opn (hL : Smp (-1) 100000 (pt L) L.length) (h : Jp L M w Ts) (hwL : 2 * mu (-1) 100000 (pt L) L.length + 1 = w) (hb : ∀ i, i < L.length → -400 ≤ pX L i ∧ pX L i ≤ 400) (hj : j < M.length) {a c : Nat} (ea : pt M j = pt L a) (ec : pt M (nxt M.length j) = pt L c) : opn L a c := by
  have m01 := mu_01 hL
  have hw : w = 1 ∨ w = -1 := by omega
  refine opn_ps.mpr ⟨fun k hk x => ?_, fun s hs os t hst ht ot hn => ?_⟩
  · rw [← ea, ← ec] at x
    rcases h.2.2.2.2 k hk with ⟨j', hj', e1, e2⟩ | ⟨T, hT, g | g⟩
    · rw [← e1, ← e2] at x
      exact no_ps h.1.1 hj hj' x
    · have t0 := (h.2.2.1 T hT).1
      rw [← g.1, ← g.2] at x
      obtain ⟨D, Z, d0, o, n1, n2, r1, r2, r3⟩ := cross2 hw t0 x
      exact J_cross hL h hwL hb hj hT d0 o n1 n2 ⟨r1, r2, r3⟩
    · have t0 := (h.2.2.1 T hT).1
      rw [T3_rot] at t0
      rw [← g.1, ← g.2] at x
      obtain ⟨D, Z, d0, o, n1, n2, r1, r2, r3⟩ := cross2 hw t0 x
      exact J_cross hL h hwL hb hj hT d0 o n1 n2 ⟨r3, r1, r2⟩
  · have dst : pt L s ≠ pt L t := fun e => Smp_lv hL hs ht (by omega) (by rw [e])
    have o2 : On (sc 2 (pt M j)) (sc 2 (pt M (nxt M.length j))) (ad (pt L s) (pt L t)) := by
      rw [ea, ec]
      have q := On_dbl os ot
      have e1 : sc 2 (pt L a) = ad (pt L a) (pt L a) := pt_eq (Int.two_mul _) (Int.two_mul _)
      have e2 : sc 2 (pt L c) = ad (pt L c) (pt L c) := pt_eq (Int.two_mul _) (Int.two_mul _)
      rw [e1, e2]
      exact q
    have nn : ∀ u v : Pt, On u v (pt L s) → On u v (pt L t) → ad (pt L s) (pt L t) ≠ sc 2 u := fun u v x1 x2 e => by
      obtain ⟨a1, a2, a3, a4, -⟩ := x1
      obtain ⟨b1, b2, b3, b4, -⟩ := x2
      have e1 : (pt L s).1 + (pt L t).1 = 2 * u.1 := congrArg Prod.fst e
      have e2 : (pt L s).2 + (pt L t).2 = 2 * u.2 := congrArg Prod.snd e
      exact dst (pt_eq (by omega) (by omega))
    have n1 := nn _ _ os ot
    have n2 := nn _ _ (On_sym os) (On_sym ot)
    rw [← ea] at n1
    rw [← ec] at n2
    have hbs := hb s hs
    have hbt := hb t ht
    have bd : ∀ p, (p = ad (pt L s) (pt L t) ∨ inL3 L p ∧ False ∨ ∃ p', inL3 L p' ∧ p = sc 2 p') → -1000 ≤ p.1 ∧ p.1 ≤ 1000 := fun p hp => by
      rcases hp with e | e | ⟨p', ⟨i, hi, e1⟩, e2⟩
      · rw [e]
        show -1000 ≤ pX L s + pX L t ∧ pX L s + pX L t ≤ 1000
        omega
      · exact absurd e.2 id
      · have b1 := hb i hi
        have ex : p.1 = 2 * pX L i := by
          rw [e2, e1]
          rfl
        omega
    have S := side (A := -1) (B := 100000) (D := 2) (Z := ad (pt L s) (pt L t)) hL h (by decide) (by decide) (fun p q hp hq e => lvm_inj (bd p hp) (bd q hq) e) hwL hj o2 n1 n2
    have hx : -1000 ≤ pX L s + pX L t ∧ pX L s + pX L t ≤ 1000 := by omega
    have hn' : wI L 2 (pX L s + pX L t) (pY L s + pY L t) < 0 := hn
    have off : ∀ i, i < L.length → ¬ On (sc 2 (pt L i)) (sc 2 (pt L (nxt L.length i))) (pX L s + pX L t, pY L s + pY L t) := fun i hi o => by
      rw [wI_on2 hi o] at hn'
      omega
    have w2 := wI_2 hb hx off
    have lz : ∀ i, i < L.length → lv (-1) 100000 (pX L s + pX L t, pY L s + pY L t) ≠ lv (-1) 100000 (sc 2 (pt L i)) := fun i hi e => off i hi (by
      have b1 := hb i hi
      rw [lvm_inj (p := (pX L s + pX L t, pY L s + pY L t)) (q := sc 2 (pt L i)) hx (by show -1000 ≤ 2 * pX L i ∧ 2 * pX L i ≤ 1000; omega) e]
      exact On_2.mpr (On_l _ _))
    have sm := off_same (v := fun i => sc 2 (pt L i)) (A := -1) (B := 100000) lz off
    have va := wN_val (z := (pX L s + pX L t, pY L s + pY L t)) S.2.1.2 (by decide) (fun i hi e => absurd e (lz i hi))
    have ge : 1 ≤ w * om (-1) 100000 (fun i => sc 2 (pt L i)) L.length (pX L s + pX L t, pY L s + pY L t) := S.1
    have mL := S.2.1.1
    unfold om at ge
    rw [← sm] at ge
    generalize wN (-1) 100000 (fun i => sc 2 (pt L i)) L.length (pX L s + pX L t, pY L s + pY L t) = u at *
    have nu : ¬ u % 2 = 1 := fun g => by
      rw [w2.mpr g] at hn'
      omega
    have u0 : u = 0 := by
      rcases hw with g | g <;> omega
    rw [u0, Int.add_zero, Int.mul_zero] at ge
    omega
/-! the parting's steps -/
theorem Ear_sc (hD : 0 < D) (h : Ear v n w e) : Ear (fun i => sc D (v i)) n w e := by
  have ml : ∀ t : Int, w * (D * D * t) = D * D * (w * t) := fun t => Int.mul_left_comm _ _ _
  have nn : ∀ x y u : Pt, 0 ≤ w * T3 (sc D x) (sc D y) (sc D u) → 0 ≤ w * T3 x y u := fun x y u g => by
    rw [T3_sc, ml] at g
    exact nn_of (Int.mul_pos hD hD) g
  refine ⟨?_, fun j hj d1 d2 d3 g => h.2 j hj d1 d2 d3 ⟨nn _ _ _ g.1, nn _ _ _ g.2.1, nn _ _ _ g.2.2⟩⟩
  show 0 < w * T3 (sc D _) (sc D _) (sc D _)
  rw [T3_sc, ml]
  exact Int.mul_pos (Int.mul_pos hD hD) h.1
/-- the places of the corners that stay -/
theorem ers_at {m : Nat} (he : e < m) (hj : j < m) (n1 : j ≠ e) (n2 : j ≠ prv m e) : ∃ j', j' < m - 1 ∧ ers v e j' = v j ∧ ers v e (nxt (m - 1) j') = v (nxt m j) := by
  by_cases c : j < e
  · have hj1 : j + 1 ≠ e := fun g => n2 (by
      unfold prv
      rw [if_pos (by omega)]
      omega)
    refine ⟨j, by omega, if_pos c, ?_⟩
    rw [nxt_e (show j + 1 < m - 1 by omega), nxt_e (show j + 1 < m by omega)]
    exact if_pos (by omega)
  · refine ⟨j - 1, by omega, ?_, ?_⟩
    · unfold ers
      rw [if_neg (by omega), show j - 1 + 1 = j by omega]
    · by_cases g : j + 1 < m
      · rw [nxt_e (show j - 1 + 1 < m - 1 by omega), nxt_e g]
        unfold ers
        rw [if_neg (by omega), show j - 1 + 1 + 1 = j + 1 by omega]
      · rw [nxt_l (show j - 1 + 1 = m - 1 by omega), nxt_l (show j + 1 = m by omega)]
        unfold ers
        have : 0 < e := by
          refine Classical.byContradiction fun z => n2 ?_
          unfold prv
          rw [if_neg z]
          omega
        rw [if_pos this]
theorem ers_pn {m : Nat} (h4 : 3 < m) (he : e < m) : ∃ j', j' < m - 1 ∧ ers v e j' = v (prv m e) ∧ ers v e (nxt (m - 1) j') = v (nxt m e) := by
  by_cases c : 0 < e
  · refine ⟨e - 1, by omega, ?_, ?_⟩
    · unfold ers prv
      rw [if_pos (by omega), if_pos c]
    · by_cases g : e + 1 < m
      · rw [nxt_e (show e - 1 + 1 < m - 1 by omega), nxt_e g]
        unfold ers
        rw [if_neg (by omega), show e - 1 + 1 + 1 = e + 1 by omega]
      · rw [nxt_l (show e - 1 + 1 = m - 1 by omega), nxt_l (show e + 1 = m by omega)]
        exact if_pos c
  · have e0 : e = 0 := by omega
    subst e0
    refine ⟨m - 2, by omega, ?_, ?_⟩
    · unfold ers prv
      rw [if_neg (by omega), if_neg (by omega), show m - 2 + 1 = m - 1 by omega]
    · rw [nxt_l (show m - 2 + 1 = m - 1 by omega), nxt_e (show 0 + 1 < m by omega)]
      exact if_neg (by omega)
theorem J_step (h : Jp L M w Ts) (hw : w = 1 ∨ w = -1) (h4 : 3 < M.length) (he : e < M.length) (hE : Ear (pt M) M.length w e) : Jp L (M.eraseIdx e) w ((pt M (prv M.length e), pt M e, pt M (nxt M.length e)) :: Ts) := by
  have hl2 : (M.eraseIdx e).length = M.length - 1 := List.length_eraseIdx_of_lt he
  obtain ⟨q1, q2, q3⟩ := cutE h4 hw e (pt M) he h.1.1 hE
  refine ⟨⟨?_, ?_⟩, fun x hx => h.2.1 x (List.mem_of_mem_eraseIdx hx), fun T hT => ?_, fun D hD A B z => ?_, fun i hi => ?_⟩
  · rw [hl2]
    exact Smp_cg q1 fun k _ => pt_er M e k
  · rw [hl2, mu_cg (by omega) (fun k _ => pt_er M e k), q3]
    exact h.1.2
  · rcases List.mem_cons.mp hT with g | g
    · rw [g]
      exact ⟨hE.1, M_in h (prv_lt he), M_in h he, M_in h (nxt_lt he)⟩
    · exact h.2.2.1 T g
  · have c := (cutE h4 hw e (fun i => sc D (pt M i)) he (Smp_sc hD h.1.1) (Ear_sc hD hE)).2.1 A B z
    rw [h.2.2.2.1 D hD A B z, c, hl2]
    have e2 : wN A B (fun i => sc D (pt (M.eraseIdx e) i)) (M.length - 1) z = wN A B (ers (fun i => sc D (pt M i)) e) (M.length - 1) z := wN_cg (fun k _ => by
      show sc D (pt (M.eraseIdx e) k) = _
      rw [pt_er]
      unfold ers
      split <;> rfl) z
    rw [e2]
    show _ = _ + (tS A B (sc D (pt M (prv M.length e))) (sc D (pt M e)) (sc D (pt M (nxt M.length e))) z + tsum A B D Ts z)
    omega
  · rcases h.2.2.2.2 i hi with ⟨j, hj, e1, e2⟩ | ⟨T, hT, g⟩
    · by_cases c1 : j = e
      · subst c1
        exact Or.inr ⟨_, List.mem_cons_self, Or.inr ⟨e1, e2⟩⟩
      · by_cases c2 : j = prv M.length e
        · have en : nxt M.length j = e := by rw [c2]; exact nxt_prv he
          rw [en] at e2
          rw [c2] at e1
          exact Or.inr ⟨_, List.mem_cons_self, Or.inl ⟨e1, e2⟩⟩
        · obtain ⟨j', k1, k2, k3⟩ := ers_at (v := pt M) he hj c1 c2
          refine Or.inl ⟨j', by omega, ?_, ?_⟩
          · rw [pt_er, k2, e1]
          · rw [hl2, pt_er, k3, e2]
    · exact Or.inr ⟨T, List.mem_cons_of_mem _ hT, g⟩
end MOPEN
