/-! The mathematics of the law's checks: a polygon that touches itself -/
section MTOU
variable {L : PL} {o p q : Pt} {i j k n a : Nat}
theorem leN_at (L : PL) : ∀ n k, k < n → pt (leN L n) (2 * k) = pt L k ∧ pt (leN L n) (2 * k + 1) = pt L (nxt L.length k)
  | 0, k, h => absurd h (Nat.not_lt_zero k)
  | n + 1, k, h => by
    have ih := leN_at L n
    have l1 := leN_len L n
    have l2 : (leN L n ++ [(pX L n, pY L n, 0)]).length = 2 * n + 1 := by
      rw [List.length_append, l1]
      rfl
    have e : leN L (n + 1) = (leN L n ++ [(pX L n, pY L n, 0)]) ++ [(pX L (nxt L.length n), pY L (nxt L.length n), 0)] := rfl
    rw [e]
    by_cases c : k < n
    · rw [pt_app1 (by omega), pt_app1 (by omega), pt_app1 (by omega), pt_app1 (by omega)]
      exact ih k c
    · have ek : k = n := by omega
      subst ek
      constructor
      · rw [pt_app1 (by omega)]
        have t := pt_app2 (L := leN L k) (e := (pX L k, pY L k, 0))
        rw [l1] at t
        exact t
      · have t := pt_app2 (L := leN L k ++ [(pX L k, pY L k, 0)]) (e := (pX L (nxt L.length k), pY L (nxt L.length k), 0))
        rw [l2] at t
        exact t
theorem lm_Mt (hk : k < L.length) (hi : i < L.length) : lmE (leA L) k i ↔ Mt (pt L k) (pt L (nxt L.length k)) (pt L i) (pt L (nxt L.length i)) := by
  have a1 := leN_at L L.length k hk
  have a2 := leN_at L L.length i hi
  show meet3 (leA L) (2 * k) (2 * k + 1) (leA L) (2 * i) (2 * i + 1) ↔ _
  rw [meet_M]
  show Mt (pt (leN L L.length) (2 * k)) (pt (leN L L.length) (2 * k + 1)) (pt (leN L L.length) (2 * i)) (pt (leN L L.length) (2 * i + 1)) ↔ _
  rw [a1.1, a1.2, a2.1, a2.2]
def dt (o p q : Pt) : Int := (o.1 - p.1) * (q.1 - p.1) + (o.2 - p.2) * (q.2 - p.2)
theorem dt_pos (h : Fdb o p q) (h1 : o ≠ p) (h2 : q ≠ p) : T3 o p q = 0 ∧ 0 < dt o p q := by
  have n1 : ¬ (o.1 - p.1 = 0 ∧ o.2 - p.2 = 0) := fun w => h1 (pt_eq (by omega) (by omega))
  have n2 : ¬ (q.1 - p.1 = 0 ∧ q.2 - p.2 = 0) := fun w => h2 (pt_eq (by omega) (by omega))
  have s1 := sq_pos n1
  have s2 := sq_pos n2
  rcases h with h | h
  · have t := On_T h
    refine ⟨by rw [T3_rot]; exact t, ?_⟩
    obtain ⟨L, s, hL, h0, hs, e1, e2⟩ := on_lin h
    have e : L * dt o p q = s * ((q.1 - p.1) * (q.1 - p.1) + (q.2 - p.2) * (q.2 - p.2)) := by
      unfold dt
      grind
    have sp : 0 < s := by
      refine Classical.byContradiction fun w => n1 ?_
      have z : s = 0 := by omega
      rw [z, Int.zero_mul] at e1 e2
      exact ⟨zero_of hL e1, zero_of hL e2⟩
    exact pos_of hL (by rw [e]; exact Int.mul_pos sp s2)
  · refine ⟨On_T h, ?_⟩
    obtain ⟨L, s, hL, h0, hs, e1, e2⟩ := on_lin h
    have f1 : L * (q.1 - p.1) = (L - s) * (o.1 - p.1) := by grind
    have f2 : L * (q.2 - p.2) = (L - s) * (o.2 - p.2) := by grind
    have e : L * dt o p q = (L - s) * ((o.1 - p.1) * (o.1 - p.1) + (o.2 - p.2) * (o.2 - p.2)) := by
      unfold dt
      grind
    have sp : 0 < L - s := by
      refine Classical.byContradiction fun w => n2 ?_
      have z : L - s = 0 := by omega
      rw [z, Int.zero_mul] at f1 f2
      exact ⟨zero_of hL f1, zero_of hL f2⟩
    exact pos_of hL (by rw [e]; exact Int.mul_pos sp s1)
theorem fd_of (t : T3 o p q = 0) (h : 0 < dt o p q) : Fdb o p q := by
  have hne : p ≠ q := fun e => by
    subst e
    unfold dt at h
    rw [Int.sub_self, Int.sub_self, Int.mul_zero, Int.mul_zero] at h
    omega
  have hab := lv_sq p q hne
  have e : lv (q.1 - p.1) (q.2 - p.2) o - lv (q.1 - p.1) (q.2 - p.2) p = dt o p q := by
    simp only [lv, dt]
    grind
  by_cases c : lv (q.1 - p.1) (q.2 - p.2) o ≤ lv (q.1 - p.1) (q.2 - p.2) q
  · exact Or.inl (on_of hab (by omega) c (by rw [← T3_rot]; exact t))
  · refine Or.inr (On_sym (on_of (A := q.1 - p.1) (B := q.2 - p.2) (by omega) (by omega) (by omega) ?_))
    rw [T3_ba', t]
    rfl
theorem m_tou (h3 : 3 ≤ L.length) : touP L ↔ ¬ closes L := by
  have fd : ∀ a, fdP L a ↔ T3 (pt L a) (pt L (nxt L.length a)) (pt L (nxt L.length (nxt L.length a))) = 0 ∧ 0 < dt (pt L a) (pt L (nxt L.length a)) (pt L (nxt L.length (nxt L.length a))) := fun a => Iff.rfl
  constructor
  · rintro ⟨k, i, hki, hi, hT⟩ hc
    have hk : k < L.length := by omega
    have ek : nxt L.length k = k + 1 := nxt_e (by omega)
    have ni : nxt L.length i = k → k = 0 ∧ i + 1 = L.length := fun e => by
      by_cases g : i + 1 < L.length
      · rw [nxt_e g] at e
        omega
      · rw [nxt_l (by omega)] at e
        omega
    rcases hT with e | ⟨hb, m⟩ | ⟨hb, f⟩
    · have ep : pt L k = pt L i := pt_eq e.1 e.2
      by_cases c1 : nxt L.length k = i
      · have pv : prv L.length i = k := by rw [← c1]; exact prv_nxt hk
        refine (hc.2 i hi).1 (fold_F.mpr (Or.inl ?_))
        rw [pv, ep]
        exact On_l _ _
      · by_cases c2 : nxt L.length i = k
        · have pv : prv L.length k = i := by rw [← c2]; exact prv_nxt hi
          refine (hc.2 k hk).1 (fold_F.mpr (Or.inl ?_))
          rw [pv, ← ep]
          exact On_l _ _
        · refine (hc.2 k hk).2 i hki hi ⟨c1, c2, meet_M.mpr (Or.inr (Or.inl ?_))⟩
          rw [← ep]
          exact On_l _ _
    · refine (hc.2 k hk).2 i hki hi ⟨fun e => hb (Or.inl ?_), fun e => hb (Or.inr (ni e)), meet_M.mpr ((lm_Mt hk hi).mp m)⟩
      rw [ek] at e
      omega
    · have ha : (if i = k + 1 then k else i) < L.length := by
        split <;> omega
      generalize (if i = k + 1 then k else i) = a at f ha
      have f' := (fd a).mp f
      refine (hc.2 _ (nxt_lt ha)).1 (fold_F.mpr ?_)
      rw [prv_nxt ha]
      exact fd_of f'.1 f'.2
  · intro hn
    refine Classical.byContradiction fun nt => hn ⟨h3, fun i hi => ⟨fun hf => nt ?_, fun j hij hj hc => nt ?_⟩⟩
    · have F := fold_F.mp hf
      have hp := prv_lt hi
      have hnx := nxt_lt hi
      have np := nxt_prv hi
      have dif : ∀ x y, x < L.length → y < L.length → x ≠ y → pt L x = pt L y → touP L := fun x y hx hy hxy e => by
        have q := pt_inv e
        rcases Nat.lt_or_gt_of_ne hxy with g | g
        · exact ⟨x, y, g, hy, Or.inl q⟩
        · exact ⟨y, x, g, hx, Or.inl ⟨q.1.symm, q.2.symm⟩⟩
      by_cases c1 : pt L (prv L.length i) = pt L i
      · exact dif _ _ hp hi (prv_ne (by omega) hi) c1
      · by_cases c2 : pt L (nxt L.length i) = pt L i
        · exact dif _ _ hnx hi (nxt_ne (by omega) hi) c2
        · have D := dt_pos F c1 c2
          have D' : fdP L (prv L.length i) := (fd _).mpr (by rw [np]; exact D)
          by_cases c3 : 0 < i
          · have ep : prv L.length i = i - 1 := if_pos c3
            refine ⟨i - 1, i, by omega, hi, Or.inr (Or.inr ⟨Or.inl (by omega), ?_⟩)⟩
            rw [if_pos (by omega), ← ep]
            exact D'
          · have e0 : i = 0 := by omega
            have ep : prv L.length i = L.length - 1 := if_neg c3
            refine ⟨0, L.length - 1, by omega, by omega, Or.inr (Or.inr ⟨Or.inr ⟨rfl, by omega⟩, ?_⟩)⟩
            rw [if_neg (by omega), ← ep]
            exact D'
    · refine ⟨i, j, hij, hj, Or.inr (Or.inl ⟨fun b => ?_, (lm_Mt hi hj).mpr (meet_M.mp hc.2.2)⟩)⟩
      rcases b with e | ⟨e1, e2⟩
      · refine hc.1 ?_
        rw [nxt_e (by omega), e]
      · refine hc.2.1 ?_
        rw [nxt_l e2, e1]
end MTOU
