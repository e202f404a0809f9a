/-! What is seen -/
section SEES
variable {L : PL} {n i j k u q a c : Nat} {x y A B : Int} {p r M N e f g h' : Pt}
theorem nxN_spec (L : PL) (a c k : Nat) : ∀ n, (∀ q, nxN L a c k n = some q → on3 L a c L q ∧ offN L a k < offN L a q ∧ ∀ o, o < n → on3 L a c L o → offN L a k < offN L a o → offN L a q ≤ offN L a o) ∧ (nxN L a c k n = none → ∀ o, o < n → on3 L a c L o → ¬ offN L a k < offN L a o)
  | 0 => ⟨fun q w => (nomatch w), fun _ o ho => absurd ho (Nat.not_lt_zero _)⟩
  | n + 1 => by
    obtain ⟨h1, h2⟩ := nxN_spec L a c k n
    by_cases w : nxU L a c k n (nxN L a c k n)
    · have e : nxN L a c k (n + 1) = some n := cif_t w
      rw [e]
      refine ⟨fun q hq => ?_, fun hq => by cases hq⟩
      cases hq
      refine ⟨w.1, w.2.1, fun o ho o1 o2 => ?_⟩
      by_cases eo : o = n
      · rw [eo]
        exact Int.le_refl _
      · have w3 := w.2.2
        cases hn : nxN L a c k n with
        | none => exact absurd o2 (h2 hn o (by omega) o1)
        | some q =>
          rw [hn] at w3
          have w3 : offN L a n < offN L a q := w3
          have := (h1 q hn).2.2 o (by omega) o1 o2
          omega
    · have e : nxN L a c k (n + 1) = nxN L a c k n := cif_f w
      rw [e]
      refine ⟨fun q hq => ⟨(h1 q hq).1, (h1 q hq).2.1, fun o ho o1 o2 => ?_⟩, fun hq o ho o1 o2 => ?_⟩
      · by_cases eo : o = n
        · subst eo
          refine Int.not_lt.mp fun v => w ⟨o1, o2, ?_⟩
          rw [hq]
          exact v
        · exact (h1 q hq).2.2 o (by omega) o1 o2
      · by_cases eo : o = n
        · subst eo
          refine w ⟨o1, o2, ?_⟩
          rw [hq]
          trivial
        · exact h2 hq o (by omega) o1 o2
theorem lev_eq (hac : lv A B e < lv A B f) (t1 : T3 e f p = 0) (t2 : T3 e f r = 0) (l : lv A B p = lv A B r) : p = r := by
  have a1 := id_x A B e f p
  have a2 := id_x A B e f r
  have b1 := id_y A B e f p
  have b2 := id_y A B e f r
  rw [t1, Int.mul_zero] at a1 b1
  rw [t2, Int.mul_zero] at a2 b2
  rw [l] at a1 b1
  have hk : 0 < lv A B f - lv A B e := by omega
  have q1 : p.1 - e.1 = r.1 - e.1 := Int.eq_of_mul_eq_mul_left (a := lv A B f - lv A B e) (by omega) (by omega)
  have q2 : p.2 - e.2 = r.2 - e.2 := Int.eq_of_mul_eq_mul_left (a := lv A B f - lv A B e) (by omega) (by omega)
  exact pt_eq (by omega) (by omega)
theorem id_3 (A B : Int) (a b p q x : Pt) : (lv A B b - lv A B a) * T3 p q x = (lv A B q - lv A B p) * T3 a b x + (lv A B x - lv A B q) * T3 a b p + (lv A B p - lv A B x) * T3 a b q := by
  obtain ⟨ax, ay⟩ := a
  obtain ⟨bx, b2⟩ := b
  obtain ⟨px, py⟩ := p
  obtain ⟨qx, qy⟩ := q
  obtain ⟨xx, xy⟩ := x
  simp only [T3, tw, lv]
  grind
theorem T3_mid (a b p q : Pt) : T3 (sc 2 a) (sc 2 b) (ad p q) = 2 * (T3 a b p + T3 a b q) := by
  simp only [T3, tw, sc, ad]
  grind
/-- crossings at twice the size -/
theorem wI_2 (hb : ∀ i, i < L.length → -400 ≤ pX L i ∧ pX L i ≤ 400) (hx : -1000 ≤ x ∧ x ≤ 1000) (off : ∀ i, i < L.length → ¬ On (sc 2 (pt L i)) (sc 2 (pt L (nxt L.length i))) (x, y)) : wI L 2 x y = 1 ↔ wN (-1) 100000 (fun i => sc 2 (pt L i)) L.length (x, y) % 2 = 1 := by
  have hV : ∀ i, i < L.length → -1000 ≤ (sc 2 (pt L i)).1 ∧ (sc 2 (pt L i)).1 ≤ 1000 := fun i hi => by
    have := hb i hi
    show -1000 ≤ 2 * pX L i ∧ 2 * pX L i ≤ 1000
    omega
  have od : oddN (eTog L 2 x y) L.length ↔ wN (-1) 100000 (fun i => sc 2 (pt L i)) L.length (x, y) % 2 = 1 := odd_sum _ fun i hi => by
    rw [cS_std (hV i hi) (hV _ (nxt_lt hi)) hx]
    have z : (2 * pY L i ≤ y ∧ y < 2 * pY L (nxt L.length i)) ∨ (2 * pY L (nxt L.length i) ≤ y ∧ y < 2 * pY L i) → T3 (sc 2 (pt L i)) (sc 2 (pt L (nxt L.length i))) (x, y) ≠ 0 := fun g t => off i hi (by
      rcases g with ⟨g1, g2⟩ | ⟨g1, g2⟩
      · refine on_of (A := 0) (B := 1) ?_ ?_ ?_ t
        · rw [lv01, lv01]
          show 2 * pY L i < 2 * pY L (nxt L.length i)
          omega
        · rw [lv01, lv01]
          show 2 * pY L i ≤ y
          omega
        · rw [lv01, lv01]
          show y ≤ 2 * pY L (nxt L.length i)
          omega
      · refine On_sym (on_of (A := 0) (B := 1) ?_ ?_ ?_ (by rw [T3_ba', t]; rfl))
        · rw [lv01, lv01]
          show 2 * pY L (nxt L.length i) < 2 * pY L i
          omega
        · rw [lv01, lv01]
          show 2 * pY L (nxt L.length i) ≤ y
          omega
        · rw [lv01, lv01]
          show y ≤ 2 * pY L i
          omega)
    have et : eTog L 2 x y i ↔ ¬ (y < 2 * pY L i ↔ y < 2 * pY L (nxt L.length i)) ∧ (0 < T3 (sc 2 (pt L i)) (sc 2 (pt L (nxt L.length i))) (x, y) ↔ 2 * pY L i < 2 * pY L (nxt L.length i)) := Iff.rfl
    rw [et]
    unfold cS
    rw [lv01, lv01, lv01]
    show (¬ (y < 2 * pY L i ↔ y < 2 * pY L (nxt L.length i)) ∧ (0 < T3 (sc 2 (pt L i)) (sc 2 (pt L (nxt L.length i))) (x, y) ↔ 2 * pY L i < 2 * pY L (nxt L.length i)) ↔ (if 2 * pY L i ≤ y ∧ y < 2 * pY L (nxt L.length i) ∧ 0 < T3 (sc 2 (pt L i)) (sc 2 (pt L (nxt L.length i))) (x, y) then (1 : Int) else if 2 * pY L (nxt L.length i) ≤ y ∧ y < 2 * pY L i ∧ T3 (sc 2 (pt L i)) (sc 2 (pt L (nxt L.length i))) (x, y) < 0 then -1 else 0) ≠ 0) ∧ -1 ≤ (if 2 * pY L i ≤ y ∧ y < 2 * pY L (nxt L.length i) ∧ 0 < T3 (sc 2 (pt L i)) (sc 2 (pt L (nxt L.length i))) (x, y) then (1 : Int) else if 2 * pY L (nxt L.length i) ≤ y ∧ y < 2 * pY L i ∧ T3 (sc 2 (pt L i)) (sc 2 (pt L (nxt L.length i))) (x, y) < 0 then -1 else 0) ∧ (if 2 * pY L i ≤ y ∧ y < 2 * pY L (nxt L.length i) ∧ 0 < T3 (sc 2 (pt L i)) (sc 2 (pt L (nxt L.length i))) (x, y) then (1 : Int) else if 2 * pY L (nxt L.length i) ≤ y ∧ y < 2 * pY L i ∧ T3 (sc 2 (pt L i)) (sc 2 (pt L (nxt L.length i))) (x, y) < 0 then -1 else 0) ≤ 1
    generalize T3 (sc 2 (pt L i)) (sc 2 (pt L (nxt L.length i))) (x, y) = t at *
    clear et hV
    split
    · omega
    · split <;> omega
  have k := wI_e (L := L) (s := 2) (x := x) (y := y) (fun i hi w => off i hi w)
  rw [← od]
  constructor
  · intro w
    refine Classical.byContradiction fun c => ?_
    rw [k.2 c] at w
    exact absurd w (by decide)
  · exact k.1
/-- what a line through a place of an edge does -/
theorem on_line {e f g h' : Pt} (hef : lv A B e < lv A B f) {A' B' : Int} (hgh : lv A' B' g < lv A' B' h') (le : lv A B e < lv A B N) (lf : lv A B N < lv A B f) (tN : T3 e f N = 0) (on : On g h' N) (ng : N ≠ g) (nh : N ≠ h') : ((sg (T3 e f g) * sg (T3 e f h') < 0) ∧ sg (T3 g h' e) * sg (T3 g h' f) < 0) ∨ (T3 e f g = 0 ∧ T3 e f h' = 0) := by
  have lN := on_lv on hgh
  have t := On_T on
  have l1 : lv A' B' N ≠ lv A' B' g := fun w => ng (lev_eq hgh t (T3_ba _ _) w)
  have l2 : lv A' B' N ≠ lv A' B' h' := fun w => nh (lev_eq hgh t (T3_bb _ _) w)
  have k1 := id_af A' B' e f g h' N
  rw [tN, t, Int.mul_zero, Int.mul_zero, Int.add_zero] at k1
  have o1 := opp (show 0 < lv A' B' h' - lv A' B' N by omega) (show 0 < lv A' B' N - lv A' B' g by omega) k1.symm
  have k2 := id_af A B g h' e f N
  rw [tN, t, Int.mul_zero, Int.mul_zero, Int.add_zero] at k2
  have o2 := opp (show 0 < lv A B f - lv A B N by omega) (show 0 < lv A B N - lv A B e by omega) k2.symm
  have z2 : T3 g h' e = 0 → T3 g h' f = 0 → T3 e f g = 0 := fun w1 w2 => by
    have k3 := id_w2 A' B' g h' e f
    rw [w1, w2, Int.mul_zero, Int.mul_zero] at k3
    exact zero_of (Int.sub_pos_of_lt hgh) k3
  rw [sg_mul, sg_mul]
  omega
theorem q_see2 (hL : closes L) (hb : okP L) (ha : a < L.length) (hc : c < L.length) (h : dsM L a c) : opn L a c := by
  obtain ⟨S, -⟩ := Smp_P hL hb
  have h3 := S.1
  obtain ⟨d1, d2⟩ := h
  have pe : ∀ i, pas3 L a c i ↔ pass3 L a c L i (nxt L.length i) := fun i => Iff.rfl
  refine ⟨fun i hi w => d1 i hi ((pe i).mpr w), fun i hi oi j hij hj oj => ?_⟩
  have dist : ∀ i j, i < L.length → j < L.length → pt L i = pt L j → i = j := fun i j hi hj e => S.2.1 i j hi hj (by rw [e])
  have oi : On (pt L a) (pt L c) (pt L i) := oi
  have oj : On (pt L a) (pt L c) (pt L j) := oj
  by_cases eac : a = c
  · exfalso
    subst eac
    have same : ∀ k, On (pt L a) (pt L a) (pt L k) → pt L k = pt L a := fun k o => by
      obtain ⟨o1, o2, o3, o4, -⟩ := o
      exact pt_eq (by omega) (by omega)
    have := dist i j hi hj (by rw [same i oi, same j oj])
    omega
  have nac : pt L a ≠ pt L c := fun e => eac (dist a c ha hc e)
  obtain ⟨A, hA⟩ : ∃ A : Int, A = if pX L a ≤ pX L c then 1 else -1 := ⟨_, rfl⟩
  obtain ⟨B, hB⟩ : ∃ B : Int, B = if pY L a ≤ pY L c then 1 else -1 := ⟨_, rfl⟩
  have lvA : ∀ k : Nat, lv A B (pt L k) = A * pX L k + B * pY L k := fun k => rfl
  have hlac : lv A B (pt L a) < lv A B (pt L c) := by
    have : ¬ (pX L a = pX L c ∧ pY L a = pY L c) := fun w => nac (pt_eq w.1 w.2)
    rw [lvA, lvA, hA, hB]
    split <;> split <;> omega
  have ofl : ∀ k, On (pt L a) (pt L c) (pt L k) → offN L a k = lv A B (pt L k) - lv A B (pt L a) := fun k o => by
    obtain ⟨o1, o2, o3, o4, -⟩ := o
    have o1 : min (pX L a) (pX L c) ≤ pX L k := o1
    have o2 : pX L k ≤ max (pX L a) (pX L c) := o2
    have o3 : min (pY L a) (pY L c) ≤ pY L k := o3
    have o4 : pY L k ≤ max (pY L a) (pY L c) := o4
    rw [lvA, lvA, hA, hB]
    show ((pX L k - pX L a).natAbs : Int) + ((pY L k - pY L a).natAbs : Int) = _
    split <;> split <;> omega
  clear hA hB lvA
  have main : ∀ i j, i < L.length → j < L.length → On (pt L a) (pt L c) (pt L i) → On (pt L a) (pt L c) (pt L j) → lv A B (pt L i) < lv A B (pt L j) → ¬ wM L i j < 0 := fun i j hi hj oi oj lij => by
    obtain ⟨u, hu, ⟨ou, lu⟩, hmax⟩ := arg_minP (P := fun k => On (pt L a) (pt L c) (pt L k) ∧ 2 * lv A B (pt L k) ≤ lv A B (pt L i) + lv A B (pt L j)) (fun k => - lv A B (pt L k)) L.length ⟨i, hi, oi, by omega⟩
    have sp := nxN_spec L a c u L.length
    cases hq : nxN L a c u L.length with
    | none =>
      exfalso
      have := sp.2 hq j hj oj
      rw [ofl u ou, ofl j oj] at this
      omega
    | some q =>
      obtain ⟨oq, fq, mq⟩ := sp.1 q hq
      have hqn := nxN_lt hq
      have oq : On (pt L a) (pt L c) (pt L q) := oq
      rw [ofl u ou, ofl q oq] at fq
      have w := d2 u hu
      have w : ¬ wM L u q < 0 := fun v => w ⟨ou, q, hq, v⟩
      have lq : lv A B (pt L i) + lv A B (pt L j) < 2 * lv A B (pt L q) := Int.not_le.mp fun v => by
        have := hmax q hqn ⟨oq, v⟩
        omega
      have V1 : ∀ k, lv A B (sc 2 (pt L k)) = 2 * lv A B (pt L k) := fun k => lv_sc 2 A B _
      have hV : lv A B (sc 2 (pt L a)) < lv A B (sc 2 (pt L c)) := by
        rw [V1, V1]
        omega
      have lqc := on_lv oq hlac
      have lua := on_lv ou hlac
      have noV : ∀ k, k < L.length → T3 (sc 2 (pt L a)) (sc 2 (pt L c)) (sc 2 (pt L k)) = 0 → 2 * lv A B (pt L u) < lv A B (sc 2 (pt L k)) → lv A B (sc 2 (pt L k)) < 2 * lv A B (pt L q) → False := fun k hk t g1 g2 => by
        rw [V1] at g1 g2
        rw [T3_sc] at t
        have ok : On (pt L a) (pt L c) (pt L k) := on_of hlac (by omega) (by omega) (by omega)
        have := mq k hk ok (by rw [ofl u ou, ofl k ok]; omega)
        rw [ofl q oq, ofl k ok] at this
        omega
      generalize hM : ad (pt L i) (pt L j) = M
      generalize hN : ad (pt L u) (pt L q) = N
      have lM : lv A B M = lv A B (pt L i) + lv A B (pt L j) := by rw [← hM, lv_ad]
      have lN : lv A B N = lv A B (pt L u) + lv A B (pt L q) := by rw [← hN, lv_ad]
      have tM : T3 (sc 2 (pt L a)) (sc 2 (pt L c)) M = 0 := by rw [← hM, T3_mid, On_T oi, On_T oj]; rfl
      have tN : T3 (sc 2 (pt L a)) (sc 2 (pt L c)) N = 0 := by rw [← hN, T3_mid, On_T ou, On_T oq]; rfl
      have wij : wM L i j = wI L 2 M.1 M.2 := by rw [← hM]; rfl
      have wuq : wM L u q = wI L 2 N.1 N.2 := by rw [← hN]; rfl
      rw [wuq] at w
      rw [wij]
      have bM : (-1000 ≤ M.1 ∧ M.1 ≤ 1000) ∧ (-1000 ≤ N.1 ∧ N.1 ≤ 1000) := by
        rw [← hM, ← hN]
        have b1 := hb i hi
        have b2 := hb j hj
        have b3 := hb u hu
        have b4 := hb q hqn
        show (-1000 ≤ pX L i + pX L j ∧ pX L i + pX L j ≤ 1000) ∧ (-1000 ≤ pX L u + pX L q ∧ pX L u + pX L q ≤ 1000)
        omega
      by_cases oM : ∃ k, k < L.length ∧ On (sc 2 (pt L k)) (sc 2 (pt L (nxt L.length k))) M
      · obtain ⟨k, hk, o⟩ := oM
        rw [wI_0 hk (show eOn L 2 M.1 M.2 k from o)]
        decide
      have nM : ∀ k, k < L.length → ¬ On (sc 2 (pt L k)) (sc 2 (pt L (nxt L.length k))) M := fun k hk o => oM ⟨k, hk, o⟩
      have lMu : 2 * lv A B (pt L u) < lv A B M := by
        refine Classical.byContradiction fun v => ?_
        have e : M = sc 2 (pt L u) := lev_eq hV tM (by rw [T3_sc, On_T ou]; rfl) (by rw [V1]; omega)
        exact nM u hu (by rw [e]; exact On_l _ _)
      have lS : ∀ k, k < L.length → lv (-1) 100000 (sc 2 (pt L k)) ≠ lv (-1) 100000 (sc 2 (pt L (nxt L.length k))) := fun k hk => by
        rw [lv_sc, lv_sc]
        have := Smp_lv S hk (nxt_lt hk) (Ne.symm (nxt_ne (by omega) hk))
        omega
      have F1 : ∀ k, k < L.length → ¬ (sg (T3 (sc 2 (pt L a)) (sc 2 (pt L c)) (sc 2 (pt L k))) * sg (T3 (sc 2 (pt L a)) (sc 2 (pt L c)) (sc 2 (pt L (nxt L.length k)))) < 0 ∧ sg (T3 (sc 2 (pt L k)) (sc 2 (pt L (nxt L.length k))) (sc 2 (pt L a))) * sg (T3 (sc 2 (pt L k)) (sc 2 (pt L (nxt L.length k))) (sc 2 (pt L c))) < 0) := fun k hk v => d1 k hk (by
        rw [T3_sc, T3_sc, T3_sc, T3_sc, sg_sc (by decide), sg_sc (by decide), sg_sc (by decide), sg_sc (by decide)] at v
        exact v)
      have nN : ∀ k, k < L.length → ¬ On (sc 2 (pt L k)) (sc 2 (pt L (nxt L.length k))) N := fun k hk o => by
        have hkn := nxt_lt hk
        have n1 : N ≠ sc 2 (pt L k) := fun e => noV k hk (by rw [← e]; exact tN) (by rw [← e]; omega) (by rw [← e]; omega)
        have n2 : N ≠ sc 2 (pt L (nxt L.length k)) := fun e => noV _ hkn (by rw [← e]; exact tN) (by rw [← e]; omega) (by rw [← e]; omega)
        have zz : T3 (sc 2 (pt L a)) (sc 2 (pt L c)) (sc 2 (pt L k)) = 0 ∧ T3 (sc 2 (pt L a)) (sc 2 (pt L c)) (sc 2 (pt L (nxt L.length k))) = 0 := by
          rcases Int.lt_or_gt_of_ne (lS k hk) with g | g
          · rcases on_line hV g (by rw [V1]; omega) (by rw [V1]; omega) tN o n1 n2 with v | v
            · exact absurd v (F1 k hk)
            · exact v
          · rcases on_line hV g (by rw [V1]; omega) (by rw [V1]; omega) tN (On_sym o) n2 n1 with v | v
            · refine absurd ⟨?_, ?_⟩ (F1 k hk)
              · rw [Int.mul_comm]
                exact v.1
              · have v2 := v.2
                rw [T3_ba' (sc 2 (pt L k)), T3_ba' (sc 2 (pt L k)), sg_mul] at v2
                rw [sg_mul]
                omega
            · exact v.symm
        obtain ⟨z1, z2⟩ := zz
        have r1 : ¬ (2 * lv A B (pt L u) < lv A B (sc 2 (pt L k)) ∧ lv A B (sc 2 (pt L k)) < 2 * lv A B (pt L q)) := fun g => noV k hk z1 g.1 g.2
        have r2 : ¬ (2 * lv A B (pt L u) < lv A B (sc 2 (pt L (nxt L.length k))) ∧ lv A B (sc 2 (pt L (nxt L.length k))) < 2 * lv A B (pt L q)) := fun g => noV _ hkn z2 g.1 g.2
        have lne : lv A B (sc 2 (pt L k)) ≠ lv A B (sc 2 (pt L (nxt L.length k))) := fun g => lS k hk (by rw [lev_eq hV z1 z2 g])
        have y1 : T3 (sc 2 (pt L k)) (sc 2 (pt L (nxt L.length k))) M = 0 := by
          have k3 := id_3 A B (sc 2 (pt L a)) (sc 2 (pt L c)) (sc 2 (pt L k)) (sc 2 (pt L (nxt L.length k))) M
          rw [tM, z1, z2, Int.mul_zero, Int.mul_zero, Int.mul_zero] at k3
          exact zero_of (Int.sub_pos_of_lt hV) k3
        rcases Int.lt_or_gt_of_ne lne with g | g
        · have l := on_lv o g
          exact nM k hk (on_of g (by omega) (by omega) y1)
        · have l := on_lv (On_sym o) g
          exact nM k hk (On_sym (on_of g (by omega) (by omega) (by rw [T3_ba', y1]; rfl)))
      have p1 := wI_2 (L := L) (x := M.1) (y := M.2) (fun k hk => by have := hb k hk; omega) bM.1 nM
      have p2 := wI_2 (L := L) (x := N.1) (y := N.2) (fun k hk => by have := hb k hk; omega) bM.2 nN
      have bd1 := wI_bd L 2 M.1 M.2
      have bd2 := wI_bd L 2 N.1 N.2
      have w2 : wI L 2 N.1 N.2 = 1 := by
        have k := wI_e (L := L) (s := 2) (x := N.1) (y := N.2) (fun i hi w => nN i hi w)
        by_cases o : oddN (eTog L 2 N.1 N.2) L.length
        · exact k.1 o
        · rw [k.2 o] at w
          exact absurd (by decide) w
      by_cases eMN : M = N
      · rw [eMN, w2]
        decide
      have lMN : lv A B M ≠ lv A B N := fun g => eMN (lev_eq hV tM tN g)
      have same : wN (-1) 100000 (fun i => sc 2 (pt L i)) L.length M = wN (-1) 100000 (fun i => sc 2 (pt L i)) L.length N := by
        refine wN_same lS (fun g => eMN (lvm_inj bM.1 bM.2 g)) fun k hk m => ?_
        have hkn := nxt_lt hk
        have k1 := id_3 A B (sc 2 (pt L a)) (sc 2 (pt L c)) M N (sc 2 (pt L k))
        have k2 := id_3 A B (sc 2 (pt L a)) (sc 2 (pt L c)) M N (sc 2 (pt L (nxt L.length k)))
        rw [tM, tN, Int.mul_zero, Int.mul_zero, Int.add_zero, Int.add_zero] at k1 k2
        have hd : 0 < lv A B (sc 2 (pt L c)) - lv A B (sc 2 (pt L a)) := by omega
        have lev : ∀ z, On M N z → (lv A B M ≤ lv A B z ∧ lv A B z ≤ lv A B N) ∨ (lv A B N ≤ lv A B z ∧ lv A B z ≤ lv A B M) := fun z o => by
          rcases Int.lt_or_gt_of_ne lMN with g | g
          · exact Or.inl (on_lv o g)
          · exact Or.inr (on_lv (On_sym o) g)
        rcases m with ⟨m1, m2⟩ | m | m | m | m
        · refine F1 k hk ⟨?_, ?_⟩
          · rw [sg_mul] at m2 ⊢
            generalize T3 M N (sc 2 (pt L k)) = s1 at *
            generalize T3 M N (sc 2 (pt L (nxt L.length k))) = s2 at *
            generalize T3 (sc 2 (pt L a)) (sc 2 (pt L c)) (sc 2 (pt L k)) = r1 at *
            generalize T3 (sc 2 (pt L a)) (sc 2 (pt L c)) (sc 2 (pt L (nxt L.length k))) = r2 at *
            generalize lv A B (sc 2 (pt L c)) - lv A B (sc 2 (pt L a)) = D at *
            generalize lv A B N - lv A B M = G at *
            have q1 : 0 < s1 → (0 < G * r1) := fun v => by rw [← k1]; exact Int.mul_pos hd v
            have q2 : s1 < 0 → (G * r1 < 0) := fun v => by rw [← k1]; exact Int.mul_neg_of_pos_of_neg hd v
            have q3 : 0 < s2 → (0 < G * r2) := fun v => by rw [← k2]; exact Int.mul_pos hd v
            have q4 : s2 < 0 → (G * r2 < 0) := fun v => by rw [← k2]; exact Int.mul_neg_of_pos_of_neg hd v
            rcases Int.lt_trichotomy G 0 with gg | gg | gg
            · have ps : ∀ {t : Int}, G * t < 0 → 0 < t := fun {t} v => Classical.byContradiction fun c => by
                have := Int.mul_nonneg_of_nonpos_of_nonpos (Int.le_of_lt gg) (show t ≤ 0 by omega)
                omega
              have ng : ∀ {t : Int}, 0 < G * t → t < 0 := fun {t} v => Classical.byContradiction fun c => by
                have := Int.mul_nonpos_of_nonpos_of_nonneg (Int.le_of_lt gg) (show 0 ≤ t by omega)
                omega
              rcases m2 with ⟨v1, v2⟩ | ⟨v1, v2⟩
              · exact Or.inr ⟨ps (q2 v1), ng (q3 v2)⟩
              · exact Or.inl ⟨ng (q1 v1), ps (q4 v2)⟩
            · rw [gg, Int.zero_mul] at q1 q2
              omega
            · rcases m2 with ⟨v1, v2⟩ | ⟨v1, v2⟩
              · exact Or.inl ⟨ng_of (Int.le_of_lt gg) (q2 v1), ps_of (Int.le_of_lt gg) (q3 v2)⟩
              · exact Or.inr ⟨ps_of (Int.le_of_lt gg) (q1 v1), ng_of (Int.le_of_lt gg) (q4 v2)⟩
          · rw [sg_mul] at m1 ⊢
            have e1 := id_af A B (sc 2 (pt L k)) (sc 2 (pt L (nxt L.length k))) (sc 2 (pt L a)) (sc 2 (pt L c)) M
            have e2 := id_af A B (sc 2 (pt L k)) (sc 2 (pt L (nxt L.length k))) (sc 2 (pt L a)) (sc 2 (pt L c)) N
            rw [tM, Int.mul_zero, Int.add_zero] at e1
            rw [tN, Int.mul_zero, Int.add_zero] at e2
            have va := V1 a
            have vc := V1 c
            have c1 : 0 ≤ lv A B (sc 2 (pt L c)) - lv A B M := by omega
            have c2 : 0 ≤ lv A B M - lv A B (sc 2 (pt L a)) := by omega
            have c3 : 0 ≤ lv A B (sc 2 (pt L c)) - lv A B N := by omega
            have c4 : 0 ≤ lv A B N - lv A B (sc 2 (pt L a)) := by omega
            generalize T3 (sc 2 (pt L k)) (sc 2 (pt L (nxt L.length k))) (sc 2 (pt L a)) = r1 at *
            generalize T3 (sc 2 (pt L k)) (sc 2 (pt L (nxt L.length k))) (sc 2 (pt L c)) = r2 at *
            generalize T3 (sc 2 (pt L k)) (sc 2 (pt L (nxt L.length k))) M = s1 at *
            generalize T3 (sc 2 (pt L k)) (sc 2 (pt L (nxt L.length k))) N = s2 at *
            refine Classical.byContradiction fun nn => ?_
            rcases (show (0 ≤ r1 ∧ 0 ≤ r2) ∨ (r1 ≤ 0 ∧ r2 ≤ 0) by omega) with ⟨v1, v2⟩ | ⟨v1, v2⟩
            · have f1 := Int.mul_nonneg c1 v1
              have f2 := Int.mul_nonneg c2 v2
              have f3 := Int.mul_nonneg c3 v1
              have f4 := Int.mul_nonneg c4 v2
              have f5 := nn_of hd (show 0 ≤ (lv A B (sc 2 (pt L c)) - lv A B (sc 2 (pt L a))) * s1 by omega)
              have f6 := nn_of hd (show 0 ≤ (lv A B (sc 2 (pt L c)) - lv A B (sc 2 (pt L a))) * s2 by omega)
              omega
            · have f1 := Int.mul_nonpos_of_nonneg_of_nonpos c1 v1
              have f2 := Int.mul_nonpos_of_nonneg_of_nonpos c2 v2
              have f3 := Int.mul_nonpos_of_nonneg_of_nonpos c3 v1
              have f4 := Int.mul_nonpos_of_nonneg_of_nonpos c4 v2
              have f5 : ¬ 0 < s1 := fun v => by
                have := Int.mul_pos hd v
                omega
              have f6 : ¬ 0 < s2 := fun v => by
                have := Int.mul_pos hd v
                omega
              omega
        · exact nM k hk m
        · exact nN k hk m
        · have l := lev _ m
          rw [On_T m, Int.mul_zero] at k1
          have z := (Int.mul_eq_zero.mp k1.symm).resolve_left (by omega)
          exact noV k hk z (by omega) (by omega)
        · have l := lev _ m
          rw [On_T m, Int.mul_zero] at k2
          have z := (Int.mul_eq_zero.mp k2.symm).resolve_left (by omega)
          exact noV _ hkn z (by omega) (by omega)
      have w1 : wI L 2 M.1 M.2 = 1 := p1.mpr (by
        show wN (-1) 100000 (fun i => sc 2 (pt L i)) L.length M % 2 = 1
        rw [same]
        exact p2.mp w2)
      rw [w1]
      decide
  have lij : lv A B (pt L i) ≠ lv A B (pt L j) := fun g => by
    have := dist i j hi hj (lev_eq hlac (On_T oi) (On_T oj) g)
    omega
  rcases Int.lt_or_gt_of_ne lij with g | g
  · exact main i j hi hj oi oj g
  · have m := main j i hj hi oj oi g
    have e : wM L i j = wM L j i := by
      show wI L 2 (pX L i + pX L j) (pY L i + pY L j) = wI L 2 (pX L j + pX L i) (pY L j + pY L i)
      rw [Int.add_comm (pX L i), Int.add_comm (pY L i)]
    rw [e]
    exact m
theorem q_see1 (h : opn L a c) : dsM L a c := by
  obtain ⟨h1, h2⟩ := h
  have pe : ∀ i, pas3 L a c i ↔ pass3 L a c L i (nxt L.length i) := fun i => Iff.rfl
  refine ⟨fun k hk w => h1 k hk ((pe k).mp w), fun k hk ⟨ok, q, hq, w⟩ => ?_⟩
  have s := (nxN_spec L a c k L.length).1 q hq
  have hqn := nxN_lt hq
  have ne : k ≠ q := fun e => by
    have := s.2.1
    rw [e] at this
    exact Int.lt_irrefl _ this
  rcases Nat.lt_or_gt_of_ne ne with g | g
  · exact h2 k hk ok q g hqn s.1 w
  · refine h2 q hqn s.1 k g hk ok ?_
    have e : wM L q k = wM L k q := by
      show wI L 2 (pX L q + pX L k) (pY L q + pY L k) = wI L 2 (pX L k + pX L q) (pY L k + pY L q)
      rw [Int.add_comm (pX L q), Int.add_comm (pY L q)]
    rw [e]
    exact w
theorem q_sees (hL : closes L) (hb : okP L) (ha : a < L.length) (hc : c < L.length) : dsM L a c ↔ opn L a c := ⟨q_see2 hL hb ha hc, q_see1⟩
end SEES

