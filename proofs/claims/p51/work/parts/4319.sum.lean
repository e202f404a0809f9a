/-! The sum of two chains: the steps in the order of their turns -/
def cr (u v : Pt) : Int := u.1 * v.2 - u.2 * v.1
def ad (p q : Pt) : Pt := (p.1 + q.1, p.2 + q.2)
def sb (p q : Pt) : Pt := (p.1 - q.1, p.2 - q.2)
def ve (H : PL) (i : Nat) : Pt := sb (pt H (i + 1)) (pt H i)
theorem ad_comm (p q : Pt) : ad p q = ad q p := pt_eq (Int.add_comm _ _) (Int.add_comm _ _)
theorem ad_sb (p q : Pt) : ad q (sb p q) = p := pt_eq (by show q.1 + (p.1 - q.1) = p.1; omega) (by show q.2 + (p.2 - q.2) = p.2; omega)
theorem sb_ad (x d : Pt) : sb (ad x d) x = d := pt_eq (by show x.1 + d.1 - x.1 = d.1; omega) (by show x.2 + d.2 - x.2 = d.2; omega)
theorem T3_cr (a b c : Pt) : T3 a b c = cr (sb b a) (sb c a) := rfl
theorem lv_sb (A B : Int) (a b : Pt) : lv A B (sb b a) = lv A B b - lv A B a := by
  unfold lv sb
  grind
theorem lv_ad (A B : Int) (a b : Pt) : lv A B (ad a b) = lv A B a + lv A B b := by
  unfold lv ad
  grind
theorem cr_ad (u v w : Pt) : cr u (ad v w) = cr u v + cr u w := by
  unfold cr ad
  grind
theorem cr_ad' (u v w : Pt) : cr (ad u v) w = cr u w + cr v w := by
  unfold cr ad
  grind
theorem cr_sym (u v : Pt) : cr v u = - cr u v := by
  unfold cr
  grind
theorem cr_self (u : Pt) : cr u u = 0 := by
  unfold cr
  grind
theorem cr_zz (d q : Pt) : cr d (sb q q) = 0 := by
  unfold cr sb
  grind
theorem T3_ad (x d p q a b : Pt) (e : x = ad a b) : T3 x (ad x d) (ad p q) = cr d (sb p a) + cr d (sb q b) := by
  subst e
  simp only [T3, tw, ad, cr, sb]
  grind
theorem T3_ad2 (x y d : Pt) : T3 x y (ad y d) = cr (sb y x) d := by
  simp only [T3, tw, ad, cr, sb]
  grind
theorem pl3 (A B : Int) (d e w : Pt) : lv A B e * cr d w = lv A B d * cr e w + lv A B w * cr d e := by
  unfold lv cr
  grind
section SUMS
variable {A B : Int} {t tA tB t0 i j : Nat} {DA DB : Pt → Prop} {H HA HB T : PL} {u v w d q : Pt} {e : Int × Int × Int}
theorem cr_trans (hu : 0 < lv A B u) (hv : 0 < lv A B v) (hw : 0 < lv A B w) (h1 : 0 ≤ cr u v) (h2 : 0 ≤ cr v w) : 0 ≤ cr u w := by
  refine nn_of hv ?_
  rw [pl3]
  exact Int.add_nonneg (Int.mul_nonneg (Int.le_of_lt hu) h2) (Int.mul_nonneg (Int.le_of_lt hw) h1)
theorem chn_ve (h : chn A B t DA H) (h1 : t ≤ i) (h2 : i + 1 < H.length) : 0 < lv A B (ve H i) := by
  have := h.2.1 i h1 h2
  unfold ve
  rw [lv_sb]
  omega
theorem chn_tn (h : chn A B t DA H) (h1 : t ≤ i) (h2 : i + 2 < H.length) : 0 < cr (ve H i) (ve H (i + 1)) := by
  have := h.2.2.1 i h1 h2
  have e : pt H (i + 2) = ad (pt H (i + 1)) (ve H (i + 1)) := (ad_sb _ _).symm
  rw [e, T3_ad2] at this
  exact this
/-- a corner between whose edges a direction lies is the farthest to its right -/
theorem sup (h : chn A B t DA H) (inj : ∀ q r, DA q → DA r → lv A B q = lv A B r → q = r) (h1 : t ≤ i) (h2 : i < H.length) (hd : 0 < lv A B d) (p1 : t < i → 0 ≤ cr (ve H (i - 1)) d) (p2 : i + 1 < H.length → 0 ≤ cr d (ve H i)) (hq : DA q) : 0 ≤ cr d (sb q (pt H i)) := by
  have hi := h.2.2.2.2.2 i h1 h2
  have hr := h.2.2.2.2.1 q hq
  have zz : lv A B q = lv A B (pt H i) → 0 ≤ cr d (sb q (pt H i)) := fun g => by
    rw [inj _ _ hq hi g, cr_zz]
    exact Int.le_refl _
  by_cases c : lv A B (pt H i) ≤ lv A B q
  · by_cases ee : i + 1 < H.length
    · refine nn_of (chn_ve h h1 ee) ?_
      rw [pl3, lv_sb]
      have k := h.2.2.2.1 i h1 ee q hq
      exact Int.add_nonneg (Int.mul_nonneg (Int.le_of_lt hd) k) (Int.mul_nonneg (by omega) (p2 ee))
    · rw [show H.length - 1 = i by omega] at hr
      exact zz (Int.le_antisymm hr.2 c)
  · by_cases ee : t < i
    · have h3 : i - 1 + 1 = i := by omega
      have k := h.2.2.2.1 (i - 1) (by omega) (by omega) q hq
      have ke : T3 (pt H (i - 1)) (pt H (i - 1 + 1)) q = cr (ve H (i - 1)) (sb q (pt H i)) := by
        unfold ve
        rw [h3]
        simp only [T3, tw, cr, sb]
        grind
      rw [ke] at k
      have p1 := p1 ee
      refine nn_of (chn_ve h (i := i - 1) (by omega) (by omega)) ?_
      rw [pl3, lv_sb, cr_sym (ve H (i - 1)) d]
      exact Int.add_nonneg (Int.mul_nonneg (Int.le_of_lt hd) k) (Int.mul_nonneg_of_nonpos_of_nonpos (by omega) (by omega))
    · rw [show i = t by omega] at c
      exact absurd hr.1 c
/-- the sum's chain on its way, at corner i of the one and j of the other -/
def mg (A B : Int) (HA HB T : PL) (DA DB : Pt → Prop) (t0 tA tB i j : Nat) : Prop :=
  t0 < T.length ∧ pt T (T.length - 1) = ad (pt HA i) (pt HB j) ∧
  (∀ t, t0 ≤ t → t + 1 < T.length → lv A B (pt T t) < lv A B (pt T (t + 1))) ∧
  (∀ t, t0 ≤ t → t + 2 < T.length → 0 < T3 (pt T t) (pt T (t + 1)) (pt T (t + 2))) ∧
  (∀ t, t0 ≤ t → t + 1 < T.length → ∀ p q, DA p → DB q → 0 ≤ T3 (pt T t) (pt T (t + 1)) (ad p q)) ∧
  (∀ t, t0 ≤ t → t < T.length → ∃ p q, DA p ∧ DB q ∧ pt T t = ad p q) ∧
  (tA < i → j + 1 < HB.length → 0 ≤ cr (ve HA (i - 1)) (ve HB j)) ∧
  (tB < j → i + 1 < HA.length → 0 ≤ cr (ve HB (j - 1)) (ve HA i)) ∧
  (t0 + 1 < T.length → (i + 1 < HA.length → 0 < cr (ve T (T.length - 2)) (ve HA i)) ∧ (j + 1 < HB.length → 0 < cr (ve T (T.length - 2)) (ve HB j)))
theorem mg_swap (h : mg A B HA HB T DA DB t0 tA tB i j) : mg A B HB HA T DB DA t0 tB tA j i := by
  obtain ⟨q1, q2, q3, q4, q5, q6, q7, q8, q9⟩ := h
  refine ⟨q1, by rw [q2, ad_comm], q3, q4, fun t a b p q hp hq => ?_, fun t a b => ?_, q8, q7, fun a => ⟨(q9 a).2, (q9 a).1⟩⟩
  · rw [ad_comm]
    exact q5 t a b q p hq hp
  · obtain ⟨p, q, hp, hq, e⟩ := q6 t a b
    exact ⟨q, p, hq, hp, by rw [e, ad_comm]⟩
theorem mg_put {i' j' : Nat} (h : mg A B HA HB T DA DB t0 tA tB i j) (he : (e.1, e.2.1) = ad (pt HA i') (pt HB j')) (hd : 0 < lv A B d) (hs : ad (pt HA i') (pt HB j') = ad (ad (pt HA i) (pt HB j)) d) (sA : ∀ p, DA p → 0 ≤ cr d (sb p (pt HA i))) (sB : ∀ p, DB p → 0 ≤ cr d (sb p (pt HB j))) (tn : t0 + 1 < T.length → 0 < cr (ve T (T.length - 2)) d) (dA : DA (pt HA i')) (dB : DB (pt HB j')) (n1 : tA < i' → j' + 1 < HB.length → 0 ≤ cr (ve HA (i' - 1)) (ve HB j')) (n2 : tB < j' → i' + 1 < HA.length → 0 ≤ cr (ve HB (j' - 1)) (ve HA i')) (n3 : (i' + 1 < HA.length → 0 < cr d (ve HA i')) ∧ (j' + 1 < HB.length → 0 < cr d (ve HB j'))) : mg A B HA HB (T ++ [e]) DA DB t0 tA tB i' j' := by
  obtain ⟨q1, q2, q3, q4, q5, q6, q7, q8, q9⟩ := h
  have hl : (T ++ [e]).length = T.length + 1 := by rw [List.length_append, List.length_singleton]
  have e1 : ∀ t, t < T.length → pt (T ++ [e]) t = pt T t := fun t ht => pt_app1 ht
  have e2 : pt (T ++ [e]) T.length = ad (pt T (T.length - 1)) d := by
    rw [pt_app2, he, hs, q2]
  have e3 : pt (T ++ [e]) T.length = ad (pt HA i') (pt HB j') := by
    rw [pt_app2, he]
  unfold mg
  rw [hl]
  refine ⟨by omega, by rw [Nat.add_sub_cancel, e3], fun t a b => ?_, fun t a b => ?_, fun t a b p q hp hq => ?_, fun t a b => ?_, n1, n2, fun _ => ?_⟩
  · by_cases c : t + 1 < T.length
    · rw [e1 _ c, e1 t (by omega)]
      exact q3 t a c
    · rw [show t + 1 = T.length by omega, e2, e1 t (by omega), show T.length - 1 = t by omega, lv_ad]
      omega
  · by_cases c : t + 2 < T.length
    · rw [e1 _ c, e1 t (by omega), e1 (t + 1) (by omega)]
      exact q4 t a c
    · rw [show t + 2 = T.length by omega, e2, e1 t (by omega), e1 (t + 1) (by omega), show T.length - 1 = t + 1 by omega, T3_ad2]
      have := tn (by omega)
      rw [show T.length - 2 = t by omega] at this
      exact this
  · by_cases c : t + 1 < T.length
    · rw [e1 _ c, e1 t (by omega)]
      exact q5 t a c p q hp hq
    · rw [show t + 1 = T.length by omega, e2, e1 t (by omega), show T.length - 1 = t by omega, T3_ad (pt T t) d p q (pt HA i) (pt HB j) (by rw [← q2, show T.length - 1 = t by omega])]
      exact Int.add_nonneg (sA p hp) (sB q hq)
  · by_cases c : t < T.length
    · rw [e1 t c]
      exact q6 t a c
    · rw [show t = T.length by omega, e3]
      exact ⟨_, _, dA, dB, rfl⟩
  · have : ve (T ++ [e]) (T.length + 1 - 2) = d := by
      unfold ve
      rw [show T.length + 1 - 2 + 1 = T.length by omega, e2, e1 _ (by omega), show T.length + 1 - 2 = T.length - 1 by omega, sb_ad]
    rw [this]
    exact n3
theorem ve_in (H : PL) (i : Nat) : pt H (i + 1) = ad (pt H i) (ve H i) := (ad_sb _ _).symm
theorem ad_ab (a d b : Pt) : ad (ad a d) b = ad (ad a b) d := pt_eq (by show a.1 + d.1 + b.1 = a.1 + b.1 + d.1; omega) (by show a.2 + d.2 + b.2 = a.2 + b.2 + d.2; omega)
theorem ad_abab (a d b f : Pt) : ad (ad a d) (ad b f) = ad (ad a b) (ad d f) := pt_eq (by show a.1 + d.1 + (b.1 + f.1) = a.1 + b.1 + (d.1 + f.1); omega) (by show a.2 + d.2 + (b.2 + f.2) = a.2 + b.2 + (d.2 + f.2); omega)
theorem mg_A (hA : chn A B tA DA HA) (hB : chn A B tB DB HB) (ijA : ∀ q r, DA q → DA r → lv A B q = lv A B r → q = r) (ijB : ∀ q r, DB q → DB r → lv A B q = lv A B r → q = r) (h : mg A B HA HB T DA DB t0 tA tB i j) (hi1 : tA ≤ i) (hj1 : tB ≤ j) (hi : i + 1 < HA.length) (hj : j < HB.length) (c : j + 1 < HB.length → 0 < cr (ve HA i) (ve HB j)) (he : (e.1, e.2.1) = ad (pt HA (i + 1)) (pt HB j)) : mg A B HA HB (T ++ [e]) DA DB t0 tA tB (i + 1) j := by
  have q7 := h.2.2.2.2.2.2.1
  have q8 := h.2.2.2.2.2.2.2.1
  have q9 := h.2.2.2.2.2.2.2.2
  have l := chn_ve hA hi1 hi
  refine mg_put (d := ve HA i) h he l (by rw [ve_in, ad_ab]) (fun p hp => ?_) (fun p hp => ?_) (fun g => (q9 g).1 hi) (hA.2.2.2.2.2 _ (by omega) hi) (hB.2.2.2.2.2 _ hj1 hj) (fun _ g => ?_) (fun g g2 => ?_) ⟨fun g => ?_, c⟩
  · refine sup hA ijA hi1 (by omega) l (fun g => ?_) (fun g => by rw [cr_self]; exact Int.le_refl _) hp
    have := chn_tn hA (i := i - 1) (by omega) (by omega)
    rw [show i - 1 + 1 = i by omega] at this
    exact Int.le_of_lt this
  · exact sup hB ijB hj1 hj l (fun g => q8 g hi) (fun g => Int.le_of_lt (c g)) hp
  · rw [Nat.add_sub_cancel]
    exact Int.le_of_lt (c g)
  · exact cr_trans (chn_ve hB (i := j - 1) (by omega) (by omega)) l (chn_ve hA (i := i + 1) (by omega) g2) (q8 g hi) (Int.le_of_lt (chn_tn hA hi1 g2))
  · exact chn_tn hA hi1 g
theorem mg_AB (hA : chn A B tA DA HA) (hB : chn A B tB DB HB) (ijA : ∀ q r, DA q → DA r → lv A B q = lv A B r → q = r) (ijB : ∀ q r, DB q → DB r → lv A B q = lv A B r → q = r) (h : mg A B HA HB T DA DB t0 tA tB i j) (hi1 : tA ≤ i) (hj1 : tB ≤ j) (hi : i + 1 < HA.length) (hj : j + 1 < HB.length) (c : cr (ve HA i) (ve HB j) = 0) (he : (e.1, e.2.1) = ad (pt HA (i + 1)) (pt HB (j + 1))) : mg A B HA HB (T ++ [e]) DA DB t0 tA tB (i + 1) (j + 1) := by
  have q7 := h.2.2.2.2.2.2.1
  have q8 := h.2.2.2.2.2.2.2.1
  have q9 := h.2.2.2.2.2.2.2.2
  have l := chn_ve hA hi1 hi
  have l2 := chn_ve hB hj1 hj
  have c' : cr (ve HB j) (ve HA i) = 0 := by
    rw [cr_sym, c]
    rfl
  have k1 : i + 2 < HA.length → 0 ≤ cr (ve HB j) (ve HA (i + 1)) := fun g => cr_trans l2 l (chn_ve hA (by omega) g) (by omega) (Int.le_of_lt (chn_tn hA hi1 g))
  have k2 : j + 2 < HB.length → 0 ≤ cr (ve HA i) (ve HB (j + 1)) := fun g => cr_trans l l2 (chn_ve hB (by omega) g) (by omega) (Int.le_of_lt (chn_tn hB hj1 g))
  have lt : 0 < lv A B (ad (ve HA i) (ve HB j)) := by
    rw [lv_ad]
    omega
  refine mg_put (d := ad (ve HA i) (ve HB j)) h he lt (by rw [ve_in, ve_in, ad_abab]) (fun p hp => ?_) (fun p hp => ?_) (fun g => ?_) (hA.2.2.2.2.2 _ (by omega) hi) (hB.2.2.2.2.2 _ (by omega) hj) (fun _ g => ?_) (fun _ g => ?_) ⟨fun g => ?_, fun g => ?_⟩
  · refine sup hA ijA hi1 (by omega) lt (fun g => ?_) (fun g => ?_) hp
    · rw [cr_ad]
      have := chn_tn hA (i := i - 1) (by omega) (by omega)
      rw [show i - 1 + 1 = i by omega] at this
      exact Int.add_nonneg (Int.le_of_lt this) (q7 g hj)
    · rw [cr_ad', cr_self, c']
      exact Int.le_refl _
  · refine sup hB ijB hj1 (by omega) lt (fun g => ?_) (fun g => ?_) hp
    · rw [cr_ad]
      have := chn_tn hB (i := j - 1) (by omega) (by omega)
      rw [show j - 1 + 1 = j by omega] at this
      exact Int.add_nonneg (q8 g hi) (Int.le_of_lt this)
    · rw [cr_ad', cr_self, c]
      exact Int.le_refl _
  · rw [cr_ad]
    have := (q9 g).1 hi
    have := (q9 g).2 hj
    omega
  · rw [Nat.add_sub_cancel]
    exact k2 g
  · rw [Nat.add_sub_cancel]
    exact k1 g
  · rw [cr_ad']
    have := chn_tn hA hi1 g
    have := k1 g
    omega
  · rw [cr_ad']
    have := chn_tn hB hj1 g
    have := k2 g
    omega
end SUMS

