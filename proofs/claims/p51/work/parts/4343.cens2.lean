/-! The census counts what is inside -/
section CENS2
variable {L A B : PL} {R n i j k s t : Nat} {x y : Int} {u : Prop}
theorem v_cmp {S r x : Int} (hr : 0 < r) : (S / r - (-S) / r < 2 * x ↔ S - r * x < 0) ∧ (S / r - (-S) / r = 2 * x ↔ S - r * x = 0) := by
  have f1 := Int.ediv_lt_iff_lt_mul (a := S) (b := x) hr
  have f2 := Int.ediv_lt_iff_lt_mul (a := S) (b := x + 1) hr
  have f3 := Int.ediv_lt_iff_lt_mul (a := -S) (b := -x) hr
  have f4 := Int.ediv_lt_iff_lt_mul (a := -S) (b := -x + 1) hr
  rw [Int.add_mul, Int.one_mul] at f2
  rw [Int.neg_mul] at f3
  rw [Int.add_mul, Int.one_mul, Int.neg_mul] at f4
  rw [Int.mul_comm r x]
  generalize S / r = f at *
  generalize (-S) / r = m at *
  generalize x * r = p at *
  omega
theorem ct_S (L : PL) (x y : Int) (i : Nat) : ctS L y i - ctR L i * x = T3 (pt L (ctL L i)) (pt L (ctH L i)) (x, y) := by
  rw [T3_lin]
  show pX L (ctL L i) * ctR L i + ctU L y i * (pX L (ctH L i) - pX L (ctL L i)) - ctR L i * x = ((pX L (ctH L i) - pX L (ctL L i)) * ctU L y i + ctR L i * pX L (ctL L i)) - ctR L i * x
  rw [Int.mul_comm (ctU L y i), Int.mul_comm (ctR L i) (pX L (ctL L i)), Int.add_comm]
theorem ct_up (h : 0 < rsE L i) : ctL L i = i ∧ ctH L i = nxt L.length i := ⟨if_pos h, if_pos h⟩
theorem ct_dn (h : ¬ 0 < rsE L i) : ctL L i = nxt L.length i ∧ ctH L i = i := ⟨if_neg h, if_neg h⟩
/-- an edge over a row, in other words -/
theorem ct_edge (L : PL) (x y : Int) (i : Nat) : (ctG L y True i ↔ upE L y i ∨ dnE L y i) ∧ (ctG L y False i ↔ (pY L i < y ∧ y ≤ pY L (nxt L.length i)) ∨ (pY L (nxt L.length i) < y ∧ y ≤ pY L i)) ∧ (cS 0 1 (pt L i) (pt L (nxt L.length i)) (x, y) ≠ 0 ↔ ctG L y True i ∧ 2 * x < ctV L y i) ∧ (cS (-0) (-1) (pt L i) (pt L (nxt L.length i)) (x, y) ≠ 0 ↔ ctG L y False i ∧ ctV L y i < 2 * x) ∧ (ctG L y True i ∨ ctG L y False i → (ctV L y i = 2 * x ↔ T3 (pt L i) (pt L (nxt L.length i)) (x, y) = 0)) := by
  have hS := ct_S L x y i
  have vc := fun hr => v_cmp (S := ctS L y i) (r := ctR L i) (x := x) hr
  have vV : ctV L y i = ctS L y i / ctR L i - (-ctS L y i) / ctR L i := rfl
  rw [← vV, hS] at vc
  have rs : rsE L i = pY L (nxt L.length i) - pY L i := rfl
  have c1 : cS 0 1 (pt L i) (pt L (nxt L.length i)) (x, y) ≠ 0 ↔ (upE L y i ∧ 0 < T3 (pt L i) (pt L (nxt L.length i)) (x, y)) ∨ (dnE L y i ∧ T3 (pt L i) (pt L (nxt L.length i)) (x, y) < 0) := by
    unfold cS upE dnE
    rw [lv01, lv01, lv01]
    show (if pY L i ≤ y ∧ y < pY L (nxt L.length i) ∧ 0 < T3 (pt L i) (pt L (nxt L.length i)) (x, y) then (1 : Int) else if pY L (nxt L.length i) ≤ y ∧ y < pY L i ∧ T3 (pt L i) (pt L (nxt L.length i)) (x, y) < 0 then -1 else 0) ≠ 0 ↔ _
    generalize T3 (pt L i) (pt L (nxt L.length i)) (x, y) = t
    clear vc hS vV
    split
    · omega
    · split <;> omega
  have c2 : cS (-0) (-1) (pt L i) (pt L (nxt L.length i)) (x, y) ≠ 0 ↔ ((pY L (nxt L.length i) < y ∧ y ≤ pY L i) ∧ 0 < T3 (pt L i) (pt L (nxt L.length i)) (x, y)) ∨ ((pY L i < y ∧ y ≤ pY L (nxt L.length i)) ∧ T3 (pt L i) (pt L (nxt L.length i)) (x, y) < 0) := by
    unfold cS
    rw [lv_neg, lv_neg, lv_neg, lv01, lv01, lv01]
    show (if -pY L i ≤ -y ∧ -y < -pY L (nxt L.length i) ∧ 0 < T3 (pt L i) (pt L (nxt L.length i)) (x, y) then (1 : Int) else if -pY L (nxt L.length i) ≤ -y ∧ -y < -pY L i ∧ T3 (pt L i) (pt L (nxt L.length i)) (x, y) < 0 then -1 else 0) ≠ 0 ↔ _
    generalize T3 (pt L i) (pt L (nxt L.length i)) (x, y) = t
    clear vc hS vV c1
    split
    · omega
    · split <;> omega
  rw [c1, c2]
  clear c1 c2 hS
  have eG : ∀ u : Prop, ctG L y u i ↔ (u → 0 ≤ ctU L y i ∧ ctU L y i < ctR L i) ∧ (¬ u → 0 < ctU L y i ∧ ctU L y i ≤ ctR L i) ∧ 0 < ctR L i := fun u => Iff.rfl
  have g1 : ctG L y True i ↔ (0 ≤ ctU L y i ∧ ctU L y i < ctR L i) := by
    rw [eG]
    exact ⟨fun g => g.1 trivial, fun g => ⟨fun _ => g, fun n => absurd trivial n, by omega⟩⟩
  have g2 : ctG L y False i ↔ (0 < ctU L y i ∧ ctU L y i ≤ ctR L i) := by
    rw [eG]
    exact ⟨fun g => g.2.1 id, fun g => ⟨fun n => n.elim, fun _ => g, by omega⟩⟩
  rw [g1, g2]
  clear g1 g2 eG
  unfold upE dnE
  by_cases h : 0 < rsE L i
  · obtain ⟨e1, e2⟩ := ct_up h
    have eU : ctU L y i = y - pY L i := by
      show y - pY L (ctL L i) = _
      rw [e1]
    have eR : ctR L i = pY L (nxt L.length i) - pY L i := by
      show pY L (ctH L i) - pY L (ctL L i) = _
      rw [e1, e2]
    rw [e1, e2] at vc
    have v := vc (by omega)
    rw [eU, eR]
    generalize T3 (pt L i) (pt L (nxt L.length i)) (x, y) = t at *
    generalize ctV L y i = V at *
    clear vc vV eU eR e1 e2
    omega
  · obtain ⟨e1, e2⟩ := ct_dn h
    have eU : ctU L y i = y - pY L (nxt L.length i) := by
      show y - pY L (ctL L i) = _
      rw [e1]
    have eR : ctR L i = pY L i - pY L (nxt L.length i) := by
      show pY L (ctH L i) - pY L (ctL L i) = _
      rw [e1, e2]
    rw [e1, e2, T3_ba' (pt L i)] at vc
    rw [eU, eR]
    by_cases c : 0 < ctR L i
    · have v := vc c
      generalize T3 (pt L i) (pt L (nxt L.length i)) (x, y) = t at *
      generalize ctV L y i = V at *
      rw [eR] at c
      clear vc vV eU eR e1 e2
      omega
    · rw [eR] at c
      generalize T3 (pt L i) (pt L (nxt L.length i)) (x, y) = t at *
      generalize ctV L y i = V at *
      clear vc vV eU eR e1 e2
      omega
theorem ct_eq0 (A : PL) (m : Int) (P : Nat → Prop) (V : Nat → Int) (hm : ∀ e, e ∈ A ↔ ∃ i, i < n ∧ P i ∧ e = (V i, 0, 0)) : (∀ i, i < A.length → pX A i ≠ m) ↔ ∀ i, i < n → P i → V i ≠ m := by
  constructor
  · intro h i hi hp e
    obtain ⟨k, hk, ek⟩ := List.getElem_of_mem ((hm (V i, 0, 0)).mpr ⟨i, hi, hp, rfl⟩)
    refine h k hk ?_
    unfold pX
    rw [List.getD_eq_getElem?_getD, List.getElem?_eq_getElem hk, Option.getD_some, ek]
    exact e
  · intro h k hk e
    obtain ⟨i, hi, hp, ee⟩ := (hm _).mp (getD_mem hk)
    have e : (A.getD k d3).1 = m := e
    rw [ee] at e
    exact h i hi hp e
theorem ic_01 (p : Prop) : -1 ≤ ic p ∧ ic p ≤ 1 := by
  by_cases c : p
  · rw [ic_t c]
    decide
  · rw [ic_f c]
    decide
theorem ic_ne (p : Prop) : p ↔ ic p ≠ 0 := by
  by_cases c : p
  · rw [ic_t c]
    exact ⟨fun _ => by decide, fun _ => c⟩
  · rw [ic_f c]
    exact ⟨fun g => absurd g c, fun g => absurd rfl g⟩
theorem odd_ic (f : Nat → Prop) (n : Nat) : oddN f n ↔ sumN (fun i => ic (f i)) n % 2 = 1 := odd_sum n fun i _ => ⟨ic_ne _, ic_01 _⟩
theorem cS_01 (A B : Int) (a b z : Pt) : -1 ≤ cS A B a b z ∧ cS A B a b z ≤ 1 := by
  unfold cS
  split
  · omega
  · split <;> omega
theorem even_T (L : PL) (y : Int) : (cutN L y True L.length).length % 2 = 0 := by
  have o := odd_ring (fun i => pY L i ≤ y) L.length
  have e := odd_ic (fun i => ctG L y True i) L.length
  rw [odd_cg (g := fun i => ¬ (pY L i ≤ y ↔ pY L (nxt L.length i) ≤ y)) _ fun i _ => by
    rw [(ct_edge L 0 y i).1]
    unfold upE dnE
    omega] at e
  have l := len_cut L y True L.length
  have : ¬ sumN (fun i => ic (ctG L y True i)) L.length % 2 = 1 := fun w => o (e.mpr w)
  omega
theorem even_F (L : PL) (y : Int) : (cutN L y False L.length).length % 2 = 0 := by
  have o := odd_ring (fun i => pY L i < y) L.length
  have e := odd_ic (fun i => ctG L y False i) L.length
  rw [odd_cg (g := fun i => ¬ (pY L i < y ↔ pY L (nxt L.length i) < y)) _ fun i _ => by
    rw [(ct_edge L 0 y i).2.1]
    omega] at e
  have l := len_cut L y False L.length
  have : ¬ sumN (fun i => ic (ctG L y False i)) L.length % 2 = 1 := fun w => o (e.mpr w)
  omega
/-- what the cuts of a row tell -/
theorem QA_T (hb : ∀ i, i < L.length → -1000 ≤ pX L i ∧ pX L i ≤ 1000) (hx : -1000 ≤ x ∧ x ≤ 1000) : QA (cutN L y True L.length) x ↔ (∀ i, i < L.length → ctG L y True i → ctV L y i ≠ 2 * x) ∧ wN (-1) 100000 (pt L) L.length (x, y) % 2 = 1 := by
  rw [QA_iff (srtw_cut L y True L.length) (even_T L y), ct_eq0 _ (2 * x) (ctG L y True) (ctV L y) (fun e => mem_cut L.length)]
  refine and_congr_right fun ne => ?_
  have c := ct_cut (fun f => f.1 < 2 * x) L y True L.length
  have l := len_cut L y True L.length
  have ev := even_T L y
  have sp : sumN (fun i => ic (ctG L y True i)) L.length = sumN (fun i => ic (ctG L y True i ∧ ctV L y i < 2 * x)) L.length + sumN (fun i => ic (ctG L y True i ∧ 2 * x < ctV L y i)) L.length := by
    rw [← sumN_ad]
    refine sumN_cg _ fun i hi => ?_
    by_cases g : ctG L y True i
    · have := ne i hi g
      rcases Int.lt_or_gt_of_ne this with w | w
      · rw [ic_t g, ic_t ⟨g, w⟩, ic_f (fun q => by omega)]
        rfl
      · rw [ic_t g, ic_t (p := _ ∧ 2 * x < _) ⟨g, w⟩, ic_f (fun q => by omega)]
        rfl
    · rw [ic_f g, ic_f (fun q => g q.1), ic_f (fun q => g q.1)]
      rfl
  have o1 := odd_ic (fun i => ctG L y True i ∧ 2 * x < ctV L y i) L.length
  have o2 : oddN (fun i => ctG L y True i ∧ 2 * x < ctV L y i) L.length ↔ wN (-1) 100000 (pt L) L.length (x, y) % 2 = 1 := odd_sum _ fun i hi => by
    rw [cS_std (hb i hi) (hb _ (nxt_lt hi)) hx]
    exact ⟨(ct_edge L x y i).2.2.1.symm, cS_01 _ _ _ _ _⟩
  have c' : ((ct (fun f => f.1 < 2 * x) (cutN L y True L.length) : Nat) : Int) = sumN (fun i => ic (ctG L y True i ∧ ctV L y i < 2 * x)) L.length := c
  rw [← o2, o1]
  omega
theorem QA_F (hb : ∀ i, i < L.length → -1000 ≤ pX L i ∧ pX L i ≤ 1000) (hx : -1000 ≤ x ∧ x ≤ 1000) : QA (cutN L y False L.length) x ↔ (∀ i, i < L.length → ctG L y False i → ctV L y i ≠ 2 * x) ∧ wN (-(-1)) (-100000) (pt L) L.length (x, y) % 2 = 1 := by
  rw [QA_iff (srtw_cut L y False L.length) (even_F L y), ct_eq0 _ (2 * x) (ctG L y False) (ctV L y) (fun e => mem_cut L.length)]
  refine and_congr_right fun ne => ?_
  have c := ct_cut (fun f => f.1 < 2 * x) L y False L.length
  have o1 := odd_ic (fun i => ctG L y False i ∧ ctV L y i < 2 * x) L.length
  have o2 : oddN (fun i => ctG L y False i ∧ ctV L y i < 2 * x) L.length ↔ wN (-(-1)) (-100000) (pt L) L.length (x, y) % 2 = 1 := odd_sum _ fun i hi => by
    rw [cS_std2 (hb i hi) (hb _ (nxt_lt hi)) hx]
    exact ⟨(ct_edge L x y i).2.2.2.1.symm, cS_01 _ _ _ _ _⟩
  have c' : ((ct (fun f => f.1 < 2 * x) (cutN L y False L.length) : Nat) : Int) = sumN (fun i => ic (ctG L y False i ∧ ctV L y i < 2 * x)) L.length := c
  rw [← o2, o1]
  omega
/-- a place of a row is counted where it is inside -/
theorem row_in (h : Smp (-1) 100000 (pt L) L.length) (hb : ∀ i, i < L.length → (-1000 ≤ pX L i ∧ pX L i ≤ 1000) ∧ (-1000 ≤ pY L i ∧ pY L i ≤ 1000)) (hx : -1000 ≤ x ∧ x ≤ 1000) : (QA (cutN L y True L.length) x ∧ QA (cutN L y False L.length) x) ↔ wI L 1 x y = 1 := by
  have h3 := h.1
  have m01 := mu_01 h
  have hbx := fun i hi => (hb i hi).1
  rw [QA_T hbx hx, QA_F hbx hx]
  have hz : ∀ k, k < L.length → lv (-1) 100000 (x, y) = lv (-1) 100000 (pt L k) → (x, y) = pt L k := fun k hk g => lvm_inj (p := (x, y)) hx (hb k hk).1 g
  constructor
  · rintro ⟨⟨n1, o1⟩, n2, o2⟩
    have flat : ∀ i, i < L.length → On (pt L i) (pt L (nxt L.length i)) (x, y) → pY L i = y ∧ pY L (nxt L.length i) = y := fun i hi on => by
      have t := On_T on
      obtain ⟨-, -, b1, b2, -⟩ := on
      have b1 : min (pY L i) (pY L (nxt L.length i)) ≤ y := b1
      have b2 : y ≤ max (pY L i) (pY L (nxt L.length i)) := b2
      have ce := ct_edge L x y i
      have q1 := n1 i hi
      have q2 := n2 i hi
      have k1 : ¬ ctG L y True i := fun g => q1 g ((ce.2.2.2.2 (Or.inl g)).mpr t)
      have k2 : ¬ ctG L y False i := fun g => q2 g ((ce.2.2.2.2 (Or.inr g)).mpr t)
      rw [ce.1] at k1
      rw [ce.2.1] at k2
      unfold upE dnE at k1
      omega
    by_cases cv : ∃ i, i < L.length ∧ (x, y) = pt L i
    · exfalso
      obtain ⟨i, hi, e⟩ := cv
      have f1 := flat i hi (by rw [e]; exact On_l _ _)
      have f2 := flat _ (prv_lt hi) (by rw [nxt_prv hi, e]; exact On_sym (On_l _ _))
      rw [nxt_prv hi] at f2
      rw [e] at o1 o2
      have a1 := Smp_at h hi
      have a2 := Smp_at (Smp_neg h) hi
      rw [mu_neg h] at a2
      have l1 := Smp_lv h (prv_lt hi) hi (prv_ne (by omega) hi)
      have l2 := Smp_lv h (nxt_lt hi) hi (nxt_ne (by omega) hi)
      have fo := Fdb_T (A := -1) (B := 100000) (h.2.2.1 i hi)
      have t0 : T3 (pt L (prv L.length i)) (pt L i) (pt L (nxt L.length i)) = 0 := by
        show (pX L i - pX L (prv L.length i)) * (pY L (nxt L.length i) - pY L (prv L.length i)) - (pY L i - pY L (prv L.length i)) * (pX L (nxt L.length i) - pX L (prv L.length i)) = 0
        rw [f1.1, f1.2, f2.1, Int.sub_self, Int.mul_zero, Int.zero_mul]
        rfl
      have fo := fun g => fo g t0
      unfold sS at a1 a2
      rw [t0] at a1 a2
      rw [lv_neg, lv_neg, lv_neg] at a2
      generalize lv (-1) 100000 (pt L (prv L.length i)) = v1 at *
      generalize lv (-1) 100000 (pt L i) = v2 at *
      generalize lv (-1) 100000 (pt L (nxt L.length i)) = v3 at *
      clear flat n1 n2 f1 f2 hz
      split at a1 <;> split at a2 <;> omega
    · have lz : ∀ i, i < L.length → lv (-1) 100000 (x, y) ≠ lv (-1) 100000 (pt L i) := fun i hi g => cv ⟨i, hi, hz i hi g⟩
      by_cases co : ∃ i, i < L.length ∧ On (pt L i) (pt L (nxt L.length i)) (x, y)
      · exfalso
        obtain ⟨i, hi, on⟩ := co
        have oe := om_edge h hi lz on
        unfold om at oe
        omega
      · have off : ∀ i, i < L.length → ¬ On (pt L i) (pt L (nxt L.length i)) (x, y) := fun i hi w => co ⟨i, hi, w⟩
        have w := wI_om h hb hx off
        refine Classical.byContradiction fun c => ?_
        rw [ic_f c, Int.mul_zero] at w
        have same := off_same lz off
        unfold om at w
        omega
  · intro g
    have off : ∀ i, i < L.length → ¬ On (pt L i) (pt L (nxt L.length i)) (x, y) := fun i hi w => by
      rw [wI_0 hi (eOn_1.mpr w)] at g
      exact absurd g (by decide)
    have lz : ∀ i, i < L.length → lv (-1) 100000 (x, y) ≠ lv (-1) 100000 (pt L i) := fun i hi e => off i hi (by
      rw [hz i hi e]
      exact On_l _ _)
    have w := wI_om h hb hx off
    have same := off_same lz off
    rw [ic_t g] at w
    unfold om at w
    have ne : ∀ i, i < L.length → (ctG L y True i ∨ ctG L y False i) → ctV L y i ≠ 2 * x := fun i hi q e => off i hi (by
      have ce := ct_edge L x y i
      have t := (ce.2.2.2.2 q).mp e
      rw [ce.1, ce.2.1] at q
      unfold upE dnE at q
      by_cases c : pY L i < pY L (nxt L.length i)
      · refine on_of (A := 0) (B := 1) ?_ ?_ ?_ t
        · rw [lv01, lv01]
          exact c
        · rw [lv01, lv01]
          show pY L i ≤ y
          omega
        · rw [lv01, lv01]
          show y ≤ pY L (nxt L.length i)
          omega
      · refine On_sym (on_of (A := 0) (B := 1) ?_ ?_ ?_ (by rw [T3_ba', t]; rfl))
        · rw [lv01, lv01]
          show pY L (nxt L.length i) < pY L i
          omega
        · rw [lv01, lv01]
          show pY L (nxt L.length i) ≤ y
          omega
        · rw [lv01, lv01]
          show y ≤ pY L i
          omega)
    exact ⟨⟨fun i hi q => ne i hi (Or.inl q), by omega⟩, fun i hi q => ne i hi (Or.inr q), by omega⟩
end CENS2

