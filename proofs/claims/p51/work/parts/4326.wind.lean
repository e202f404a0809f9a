/-! Winding numbers: how often a row of corners goes round a place -/
def Mt (a b c d : Pt) : Prop := (sg (T3 a b c) * sg (T3 a b d) < 0 ∧ sg (T3 c d a) * sg (T3 c d b) < 0) ∨ On a b c ∨ On a b d ∨ On c d a ∨ On c d b
def Fdb (o p q : Pt) : Prop := On p q o ∨ On o p q
/-- an edge's share, seen to one side along the level of a place -/
def cS (A B : Int) (a b z : Pt) : Int := if lv A B a ≤ lv A B z ∧ lv A B z < lv A B b ∧ 0 < T3 a b z then 1 else if lv A B b ≤ lv A B z ∧ lv A B z < lv A B a ∧ T3 a b z < 0 then -1 else 0
def fS (A B : Int) (p q v : Pt) : Int := if lv A B p < lv A B v ∧ lv A B v ≤ lv A B q ∧ T3 p q v < 0 then 1 else 0
def sS (A B : Int) (o v w : Pt) : Int := if (lv A B w < lv A B v ∧ lv A B v < lv A B o) ∨ (((lv A B v < lv A B w ∧ lv A B v < lv A B o) ∨ (lv A B w < lv A B v ∧ lv A B o < lv A B v)) ∧ T3 o v w < 0) then 1 else 0
def wN (A B : Int) (v : Nat → Pt) (n : Nat) (z : Pt) : Int := sumN (fun i => cS A B (v i) (v (nxt n i)) z) n
theorem sg_mul {x y : Int} : sg x * sg y < 0 ↔ (x < 0 ∧ 0 < y) ∨ (0 < x ∧ y < 0) := by
  unfold sg
  split <;> split <;> (try split) <;> (try split) <;> omega
theorem Mt_sw {a b c d : Pt} (h : Mt b a c d) : Mt a b c d := by
  unfold Mt at h ⊢
  rw [sg_mul, sg_mul, T3_ba' a b c, T3_ba' a b d] at h
  rw [sg_mul, sg_mul]
  rcases h with h | h | h | h | h
  · left
    omega
  · exact Or.inr (Or.inl (On_sym h))
  · exact Or.inr (Or.inr (Or.inl (On_sym h)))
  · exact Or.inr (Or.inr (Or.inr (Or.inr h)))
  · exact Or.inr (Or.inr (Or.inr (Or.inl h)))
theorem Mt_tw {a b c d : Pt} (h : Mt c d a b) : Mt a b c d := by
  rcases h with h | h | h | h | h
  · exact Or.inl ⟨h.2, h.1⟩
  · exact Or.inr (Or.inr (Or.inr (Or.inl h)))
  · exact Or.inr (Or.inr (Or.inr (Or.inr h)))
  · exact Or.inr (Or.inl h)
  · exact Or.inr (Or.inr (Or.inl h))
theorem cS_rev (A B : Int) (a b z : Pt) : cS A B b a z = - cS A B a b z := by
  unfold cS
  rw [T3_ba' a b z]
  generalize T3 a b z = t
  split <;> split <;> (try split) <;> (try split) <;> omega
theorem id_w1 (A B : Int) (a b p q : Pt) : (lv A B b - lv A B a) * T3 p q b = -((lv A B b - lv A B p) * T3 a b q + (lv A B q - lv A B b) * T3 a b p) := by
  obtain ⟨ax, ay⟩ := a
  obtain ⟨bx, b2⟩ := b
  obtain ⟨px, py⟩ := p
  obtain ⟨qx, qy⟩ := q
  simp only [T3, tw, lv]
  grind
theorem id_w2 (A B : Int) (a b p q : Pt) : (lv A B b - lv A B a) * T3 p q a = -((lv A B a - lv A B p) * T3 a b q + (lv A B q - lv A B a) * T3 a b p) := by
  obtain ⟨ax, ay⟩ := a
  obtain ⟨bx, b2⟩ := b
  obtain ⟨px, py⟩ := p
  obtain ⟨qx, qy⟩ := q
  simp only [T3, tw, lv]
  grind
section WIND
variable {A B : Int} {a b c o p q r z : Pt}
theorem ng_of {k z : Int} (hk : 0 ≤ k) (h : k * z < 0) : z < 0 := by
  refine Classical.byContradiction fun c => ?_
  have := Int.mul_nonneg hk (show 0 ≤ z by omega)
  omega
theorem ps_of {k z : Int} (hk : 0 ≤ k) (h : 0 < k * z) : 0 < z := by
  refine Classical.byContradiction fun c => ?_
  have := Int.mul_nonpos_of_nonneg_of_nonpos hk (show z ≤ 0 by omega)
  omega
theorem band1 {d be al P Q s t m n : Int} (hd : 0 < d) (hs : 0 ≤ s) (ht : 0 ≤ t) (hm : m ≤ 0) (hn : 0 < n) (h1 : d * be = -(s * Q + t * P)) (h2 : d * al = -(m * Q + n * P)) (hP : P ≠ 0) (hb : be ≠ 0) (np : ¬ (((P < 0 ∧ 0 < Q) ∨ (0 < P ∧ Q < 0)) ∧ ((al < 0 ∧ 0 < be) ∨ (0 < al ∧ be < 0)))) : 0 < P ↔ be < 0 := by
  constructor
  · intro w
    refine Classical.byContradiction fun c => ?_
    have e1 := Int.mul_pos hd (show 0 < be by omega)
    have e2 := Int.mul_nonneg ht (Int.le_of_lt w)
    have e3 := ng_of hs (show s * Q < 0 by omega)
    have e4 := Int.mul_nonneg_of_nonpos_of_nonpos hm (Int.le_of_lt e3)
    have e5 := Int.mul_pos hn w
    have e6 := ng_of (Int.le_of_lt hd) (show d * al < 0 by omega)
    exact np ⟨Or.inr ⟨w, e3⟩, Or.inl ⟨e6, by omega⟩⟩
  · intro w
    refine Classical.byContradiction fun c => ?_
    have hP' : P < 0 := by omega
    have e1 := Int.mul_neg_of_pos_of_neg hd w
    have e2 := Int.mul_nonpos_of_nonneg_of_nonpos ht (Int.le_of_lt hP')
    have e3 := ps_of hs (show 0 < s * Q by omega)
    have e4 := Int.mul_nonpos_of_nonneg_of_nonpos (show 0 ≤ Q by omega) hm
    rw [Int.mul_comm] at e4
    have e5 := Int.mul_neg_of_pos_of_neg hn hP'
    have e6 := ps_of (Int.le_of_lt hd) (show 0 < d * al by omega)
    exact np ⟨Or.inl ⟨hP', e3⟩, Or.inr ⟨e6, w⟩⟩
theorem band2 {d be al P Q s t m n : Int} (hd : 0 < d) (hs : 0 < s) (ht : t < 0) (hm : m ≤ 0) (hn : 0 < n) (h1 : d * be = -(s * Q + t * P)) (h2 : d * al = -(m * Q + n * P)) (hP : P ≠ 0) (hQ : Q ≠ 0) (np : ¬ (((P < 0 ∧ 0 < Q) ∨ (0 < P ∧ Q < 0)) ∧ ((al < 0 ∧ 0 < be) ∨ (0 < al ∧ be < 0)))) : 0 < P ↔ 0 < Q := by
  constructor
  · intro w
    refine Classical.byContradiction fun c => ?_
    have hQ' : Q < 0 := by omega
    have e1 := Int.mul_neg_of_pos_of_neg hs hQ'
    have e2 := Int.mul_neg_of_neg_of_pos ht w
    have e3 := ps_of (Int.le_of_lt hd) (show 0 < d * be by omega)
    have e4 := Int.mul_nonneg_of_nonpos_of_nonpos hm (Int.le_of_lt hQ')
    have e5 := Int.mul_pos hn w
    have e6 := ng_of (Int.le_of_lt hd) (show d * al < 0 by omega)
    exact np ⟨Or.inr ⟨w, hQ'⟩, Or.inl ⟨e6, e3⟩⟩
  · intro w
    refine Classical.byContradiction fun c => ?_
    have hP' : P < 0 := by omega
    have e1 := Int.mul_pos hs w
    have e2 := Int.mul_pos_of_neg_of_neg ht hP'
    have e3 := ng_of (Int.le_of_lt hd) (show d * be < 0 by omega)
    have e4 := Int.mul_nonpos_of_nonneg_of_nonpos (Int.le_of_lt w) hm
    rw [Int.mul_comm] at e4
    have e5 := Int.mul_neg_of_pos_of_neg hn hP'
    have e6 := ps_of (Int.le_of_lt hd) (show 0 < d * al by omega)
    exact np ⟨Or.inl ⟨hP', w⟩, Or.inr ⟨e6, e3⟩⟩
/-- an edge that a stretch doesn't meet shares alike at both its ends, but for what goes into the room between -/
theorem sh_up (hpq : lv A B p < lv A B q) (hab : lv A B a < lv A B b) (hm : ¬ Mt a b p q) : cS A B a b p - cS A B a b q = fS A B p q b - fS A B p q a := by
  have n1 : ¬ (lv A B a ≤ lv A B p ∧ lv A B p ≤ lv A B b ∧ T3 a b p = 0) := fun w => hm (Or.inr (Or.inl (on_of hab w.1 w.2.1 w.2.2)))
  have n2 : ¬ (lv A B a ≤ lv A B q ∧ lv A B q ≤ lv A B b ∧ T3 a b q = 0) := fun w => hm (Or.inr (Or.inr (Or.inl (on_of hab w.1 w.2.1 w.2.2))))
  have n3 : ¬ (lv A B p ≤ lv A B a ∧ lv A B a ≤ lv A B q ∧ T3 p q a = 0) := fun w => hm (Or.inr (Or.inr (Or.inr (Or.inl (on_of hpq w.1 w.2.1 w.2.2)))))
  have n4 : ¬ (lv A B p ≤ lv A B b ∧ lv A B b ≤ lv A B q ∧ T3 p q b = 0) := fun w => hm (Or.inr (Or.inr (Or.inr (Or.inr (on_of hpq w.1 w.2.1 w.2.2)))))
  have np : ¬ (((T3 a b p < 0 ∧ 0 < T3 a b q) ∨ (0 < T3 a b p ∧ T3 a b q < 0)) ∧ ((T3 p q a < 0 ∧ 0 < T3 p q b) ∨ (0 < T3 p q a ∧ T3 p q b < 0))) := fun w => hm (Or.inl ⟨sg_mul.mpr w.1, sg_mul.mpr w.2⟩)
  have i1 := id_w1 A B a b p q
  have i2 := id_w2 A B a b p q
  have i3 := id_w1 A B p q a b
  have i4 := id_w2 A B p q a b
  clear hm
  unfold cS fS
  generalize lv A B a = la at *
  generalize lv A B b = lb at *
  generalize lv A B p = lp at *
  generalize lv A B q = lq at *
  generalize T3 a b p = P at *
  generalize T3 a b q = Q at *
  generalize T3 p q a = al at *
  generalize T3 p q b = be at *
  have key : (la ≤ lp → lp < lb → lb ≤ lq → (0 < P ↔ be < 0)) ∧ (la ≤ lp → lq < lb → (0 < P ↔ 0 < Q)) ∧ (lp < la → lb ≤ lq → (al < 0 ↔ be < 0)) ∧ (lp < la → la ≤ lq → lq < lb → (0 < Q ↔ al < 0)) := by
    refine ⟨fun g1 g2 g3 => ?_, fun g1 g2 => ?_, fun g1 g2 => ?_, fun g1 g2 g3 => ?_⟩
    · exact band1 (d := lb - la) (by omega) (by omega) (by omega) (by omega) (by omega) i1 i2 (by omega) (by omega) np
    · exact band2 (d := lb - la) (by omega) (by omega) (by omega) (by omega) (by omega) i1 i2 (by omega) (by omega) np
    · have hal : al ≠ 0 := by omega
      have hbe : be ≠ 0 := by omega
      have e3 : (lq - lp) * P = -((lb - lp) * al + (lp - la) * be) := by
        rw [i4, Int.add_comm]
      have e4 : (lq - lp) * Q = -((lb - lq) * al + (lq - la) * be) := by
        rw [i3, Int.add_comm]
      have := band2 (d := lq - lp) (be := P) (al := Q) (P := be) (Q := al) (by omega) (by omega) (by omega) (by omega) (by omega) e3 e4 hbe hal (by omega)
      omega
    · have e1 : (lb - la) * al = -((lq - la) * P + (la - lp) * Q) := by
        rw [i2, Int.add_comm]
      have e2 : (lb - la) * be = -((lq - lb) * P + (lb - lp) * Q) := by
        rw [i1, Int.add_comm]
      exact band1 (d := lb - la) (be := al) (al := be) (P := Q) (Q := P) (by omega) (by omega) (by omega) (by omega) (by omega) e1 e2 (by omega) (by omega) (by omega)
  clear i1 i2 i3 i4 np
  obtain ⟨k1, k2, k3, k4⟩ := key
  split <;> split <;> (try split) <;> (try split) <;> (try split) <;> (try split) <;> omega
theorem sh_gen (hpq : lv A B p < lv A B q) (hab : lv A B a ≠ lv A B b) (hm : ¬ Mt a b p q) : cS A B a b p - cS A B a b q = fS A B p q b - fS A B p q a := by
  rcases Int.lt_or_gt_of_ne hab with g | g
  · exact sh_up hpq g hm
  · have := sh_up hpq g (fun w => hm (Mt_sw w))
    rw [cS_rev A B a b p, cS_rev A B a b q] at this
    omega
theorem sumN_cg {f g : Nat → Int} : ∀ n, (∀ i, i < n → f i = g i) → sumN f n = sumN g n
  | 0, _ => rfl
  | n + 1, h => by
    unfold sumN
    rw [sumN_cg n fun i hi => h i (by omega), h n (by omega)]
theorem sumN_ad (f g : Nat → Int) : ∀ n, sumN (fun i => f i + g i) n = sumN f n + sumN g n
  | 0 => rfl
  | n + 1 => by
    have := sumN_ad f g n
    unfold sumN
    omega
theorem sumN_sb (f g : Nat → Int) : ∀ n, sumN (fun i => f i - g i) n = sumN f n - sumN g n
  | 0 => rfl
  | n + 1 => by
    have := sumN_sb f g n
    unfold sumN
    omega
theorem sumN_z {f : Nat → Int} : ∀ n, (∀ i, i < n → f i = 0) → sumN f n = 0
  | 0, _ => rfl
  | n + 1, h => by
    have := sumN_z n fun i hi => h i (by omega)
    have := h n (by omega)
    unfold sumN
    omega
theorem sumN_sp (f : Nat → Int) {u : Nat} : ∀ n, u < n → sumN f n = f u + sumN (fun i => if i = u then 0 else f i) n
  | 0, h => absurd h (Nat.not_lt_zero _)
  | n + 1, h => by
    unfold sumN
    by_cases c : u = n
    · subst c
      have : sumN f u = sumN (fun i => if i = u then 0 else f i) u := sumN_cg u fun i hi => (if_neg (by omega)).symm
      rw [← this]
      simp only [if_true]
      omega
    · have := sumN_sp f n (show u < n by omega)
      simp only [if_neg (show ¬ n = u from fun e => c e.symm)]
      omega
theorem ring_sum (g : Nat → Int) (n : Nat) : sumN (fun i => g (nxt n i) - g i) n = 0 := by
  have tel : ∀ m, sumN (fun i => g (i + 1) - g i) m = g m - g 0 := fun m => by
    induction m with
    | zero =>
      show (0 : Int) = _
      omega
    | succ m ih =>
      show sumN _ m + (g (m + 1) - g m) = _
      omega
  cases n with
  | zero => rfl
  | succ m =>
    show sumN _ m + (g (nxt (m + 1) m) - g m) = 0
    have e : sumN (fun i => g (nxt (m + 1) i) - g i) m = sumN (fun i => g (i + 1) - g i) m := sumN_cg m fun i hi => by
      unfold nxt
      rw [if_pos (by omega)]
    have e2 : nxt (m + 1) m = 0 := by
      unfold nxt
      rw [if_neg (by omega)]
    rw [e, tel, e2]
    omega
/-- the whole difference of two places is made where a stretch between them meets edges -/
theorem wN_dif {v : Nat → Pt} {n : Nat} (p q : Pt) : wN A B v n p - wN A B v n q = sumN (fun i => cS A B (v i) (v (nxt n i)) p - cS A B (v i) (v (nxt n i)) q - (fS A B p q (v (nxt n i)) - fS A B p q (v i))) n := by
  rw [sumN_sb (fun i => cS A B (v i) (v (nxt n i)) p - cS A B (v i) (v (nxt n i)) q), ring_sum (fun i => fS A B p q (v i)), sumN_sb]
  unfold wN
  omega
theorem wN_same {v : Nat → Pt} {n : Nat} (hv : ∀ i, i < n → lv A B (v i) ≠ lv A B (v (nxt n i))) (hpq : lv A B p ≠ lv A B q) (hm : ∀ i, i < n → ¬ Mt (v i) (v (nxt n i)) p q) : wN A B v n p = wN A B v n q := by
  have go : ∀ p q, lv A B p < lv A B q → (∀ i, i < n → ¬ Mt (v i) (v (nxt n i)) p q) → wN A B v n p = wN A B v n q := fun p q h hm => by
    have := wN_dif (A := A) (B := B) (v := v) (n := n) p q
    rw [sumN_z n fun i hi => by rw [sh_gen h (hv i hi) (hm i hi)]; exact Int.sub_self _] at this
    omega
  rcases Int.lt_or_gt_of_ne hpq with g | g
  · exact go p q g hm
  · exact (go q p g fun i hi w => hm i hi (Mt_tw (Mt_sw (Mt_tw w)))).symm
end WIND

