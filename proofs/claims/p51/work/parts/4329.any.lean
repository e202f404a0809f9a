/-! Any place: one of two numbers -/
def sc (K : Int) (p : Pt) : Pt := (K * p.1, K * p.2)
section ANYP
variable {A B : Int} {a b c d o p q r x z W X : Pt} {v : Nat → Pt} {n i j : Nat} {K m : Int}
theorem T3_sc (K : Int) (a b c : Pt) : T3 (sc K a) (sc K b) (sc K c) = K * K * T3 a b c := by
  simp only [T3, tw, sc]
  grind
theorem lv_sc (K A B : Int) (p : Pt) : lv A B (sc K p) = K * lv A B p := by
  simp only [lv, sc]
  grind
theorem kle (hK : 0 < K) {x y : Int} : K * x ≤ K * y ↔ x ≤ y := by
  constructor
  · intro g
    have : 0 ≤ K * (y - x) := by
      rw [Int.mul_sub]
      omega
    have := nn_of hK this
    omega
  · intro g
    have := Int.mul_nonneg (Int.le_of_lt hK) (show 0 ≤ y - x by omega)
    rw [Int.mul_sub] at this
    omega
theorem klt (hK : 0 < K) {x y : Int} : K * x < K * y ↔ x < y := by
  rw [← Int.not_le, ← Int.not_le, kle hK]
theorem kps (hK : 0 < K) {t : Int} : 0 < K * K * t ↔ 0 < t := ⟨fun g => pos_of (Int.mul_pos hK hK) g, fun g => Int.mul_pos (Int.mul_pos hK hK) g⟩
theorem kng (hK : 0 < K) {t : Int} : K * K * t < 0 ↔ t < 0 := ⟨fun g => ng_of (Int.le_of_lt (Int.mul_pos hK hK)) g, fun g => Int.mul_neg_of_pos_of_neg (Int.mul_pos hK hK) g⟩
theorem cS_sc (hK : 0 < K) (a b z : Pt) : cS A B (sc K a) (sc K b) (sc K z) = cS A B a b z := by
  unfold cS
  simp only [lv_sc, T3_sc, kle hK, klt hK, kps hK, kng hK]
theorem sS_sc (hK : 0 < K) (a b z : Pt) : sS A B (sc K a) (sc K b) (sc K z) = sS A B a b z := by
  unfold sS
  simp only [lv_sc, T3_sc, klt hK, kng hK]
theorem sg_sc (hK : 0 < K) (t : Int) : sg (K * K * t) = sg t := by
  unfold sg
  simp only [kps hK, kng hK]
theorem On_sc (hK : 0 < K) (h : On (sc K a) (sc K b) (sc K x)) : On a b x := by
  obtain ⟨h1, h2, h3, h4, h5⟩ := h
  have k1 := kle hK (x := a.1) (y := x.1)
  have k2 := kle hK (x := b.1) (y := x.1)
  have k3 := kle hK (x := x.1) (y := a.1)
  have k4 := kle hK (x := x.1) (y := b.1)
  have k5 := kle hK (x := a.2) (y := x.2)
  have k6 := kle hK (x := b.2) (y := x.2)
  have k7 := kle hK (x := x.2) (y := a.2)
  have k8 := kle hK (x := x.2) (y := b.2)
  have h1 : min (K * a.1) (K * b.1) ≤ K * x.1 := h1
  have h2 : K * x.1 ≤ max (K * a.1) (K * b.1) := h2
  have h3 : min (K * a.2) (K * b.2) ≤ K * x.2 := h3
  have h4 : K * x.2 ≤ max (K * a.2) (K * b.2) := h4
  have h5 : T3 (sc K a) (sc K b) (sc K x) = 0 := h5
  rw [T3_sc] at h5
  have h6 : T3 a b x = 0 := zero_of (Int.mul_pos hK hK) h5
  generalize K * a.1 = y1 at *
  generalize K * b.1 = y2 at *
  generalize K * x.1 = y3 at *
  generalize K * a.2 = y4 at *
  generalize K * b.2 = y5 at *
  generalize K * x.2 = y6 at *
  refine ⟨?_, ?_, ?_, ?_, h6⟩ <;> omega
theorem Mt_sc (hK : 0 < K) (h : Mt (sc K a) (sc K b) (sc K c) (sc K d)) : Mt a b c d := by
  rcases h with ⟨h1, h2⟩ | h | h | h | h
  · rw [T3_sc, T3_sc, sg_sc hK, sg_sc hK] at h1 h2
    exact Or.inl ⟨h1, h2⟩
  · exact Or.inr (Or.inl (On_sc hK h))
  · exact Or.inr (Or.inr (Or.inl (On_sc hK h)))
  · exact Or.inr (Or.inr (Or.inr (Or.inl (On_sc hK h))))
  · exact Or.inr (Or.inr (Or.inr (Or.inr (On_sc hK h))))
theorem Smp_sc (hK : 0 < K) (h : Smp A B v n) : Smp A B (fun i => sc K (v i)) n := by
  refine ⟨h.1, fun i j hi hj e => ?_, fun i hi w => ?_, fun i j hi hj e1 e2 e3 w => h.2.2.2 i j hi hj e1 e2 e3 (Mt_sc hK w)⟩
  · rw [lv_sc, lv_sc] at e
    have k1 := kle hK (x := lv A B (v i)) (y := lv A B (v j))
    have k2 := kle hK (x := lv A B (v j)) (y := lv A B (v i))
    exact h.2.1 i j hi hj (by omega)
  · exact h.2.2.1 i hi (w.elim (fun w => Or.inl (On_sc hK w)) (fun w => Or.inr (On_sc hK w)))
theorem mu_sc (hK : 0 < K) : mu A B (fun i => sc K (v i)) n = mu A B v n := by
  unfold mu wN
  simp only [cS_sc hK, sS_sc hK]
/-- where an edge meets a level, at some scale -/
def pj (A B m : Int) (a b z : Pt) : Pt := (m * ((lv A B b - lv A B z) * a.1 + (lv A B z - lv A B a) * b.1), m * ((lv A B b - lv A B z) * a.2 + (lv A B z - lv A B a) * b.2))
theorem pj_lv (A B m : Int) (a b z : Pt) : lv A B (pj A B m a b z) = m * (lv A B b - lv A B a) * lv A B z := by
  have : lv A B (pj A B m a b z) = m * ((lv A B b - lv A B z) * lv A B a + (lv A B z - lv A B a) * lv A B b) := by
    show A * (m * (_ * a.1 + _ * b.1)) + B * (m * (_ * a.2 + _ * b.2)) = m * (_ * (A * a.1 + B * a.2) + _ * (A * b.1 + B * b.2))
    grind
  rw [this]
  generalize lv A B a = la
  generalize lv A B b = lb
  generalize lv A B z = lz
  grind
theorem pj_W (hK : K = m * (lv A B b - lv A B a)) (hW : lv A B W = K * lv A B z) : B * T3 (sc K a) (sc K b) W = K * (lv A B b - lv A B a) * ((pj A B m a b z).1 - W.1) := by
  have e1 : B * T3 (sc K a) (sc K b) W = K * ((b.1 - a.1) * (lv A B W - K * lv A B a) - (lv A B b - lv A B a) * (W.1 - K * a.1)) := by
    simp only [T3, tw, sc, lv]
    grind
  have e2 : (pj A B m a b z).1 = K * a.1 + m * (lv A B z - lv A B a) * (b.1 - a.1) := by
    show m * (_ * a.1 + _ * b.1) = _
    rw [hK]
    generalize lv A B a = la
    generalize lv A B b = lb
    generalize lv A B z = lz
    grind
  rw [e1, e2, hW]
  generalize lv A B a = la at *
  generalize lv A B b = lb at *
  generalize lv A B z = lz at *
  subst hK
  grind
def strd (A B : Int) (a b z : Pt) : Prop := (lv A B a < lv A B z ∧ lv A B z < lv A B b) ∨ (lv A B b < lv A B z ∧ lv A B z < lv A B a)
theorem cS_str (hB : B ≠ 0) (hK : 0 < K) (hm : K = m * (lv A B b - lv A B a)) (hW : lv A B W = K * lv A B z) (hs : strd A B a b z) : cS A B (sc K a) (sc K b) W = if B * W.1 < B * (pj A B m a b z).1 then (if lv A B a < lv A B b then 1 else -1) else 0 := by
  have e := pj_W hm hW
  have e2 : B * B * T3 (sc K a) (sc K b) W = (K * (lv A B b - lv A B a)) * (B * (pj A B m a b z).1 - B * W.1) := by
    rw [Int.mul_assoc, e, ← Int.mul_sub, Int.mul_left_comm]
  have hBB : 0 < B * B := by
    rcases Int.lt_or_gt_of_ne hB with g | g
    · exact Int.mul_pos_of_neg_of_neg g g
    · exact Int.mul_pos g g
  unfold cS
  rw [lv_sc, lv_sc, hW]
  generalize T3 (sc K a) (sc K b) W = t at *
  generalize B * (pj A B m a b z).1 = u at *
  generalize B * W.1 = w at *
  simp only [kle hK, klt hK]
  rcases hs with ⟨g1, g2⟩ | ⟨g1, g2⟩
  · have kd : 0 < K * (lv A B b - lv A B a) := Int.mul_pos hK (by omega)
    have t1 : 0 < t ↔ w < u := ⟨fun g => by
      have := Int.mul_pos hBB g
      have := ps_of (Int.le_of_lt kd) (z := u - w) (by omega)
      omega, fun g => by
      have := Int.mul_pos kd (show 0 < u - w by omega)
      exact ps_of (Int.le_of_lt hBB) (by omega)⟩
    rw [if_pos (show lv A B a < lv A B b by omega)]
    by_cases c : w < u
    · rw [if_pos c, if_pos ⟨Int.le_of_lt g1, g2, t1.mpr c⟩]
    · rw [if_neg c, if_neg (fun g => c (t1.mp g.2.2)), if_neg (by omega)]
  · have kd : K * (lv A B b - lv A B a) < 0 := Int.mul_neg_of_pos_of_neg hK (by omega)
    have t1 : t < 0 ↔ w < u := ⟨fun g => by
      have h1 := Int.mul_neg_of_pos_of_neg hBB g
      refine Classical.byContradiction fun c => ?_
      have := Int.mul_nonneg_of_nonpos_of_nonpos (Int.le_of_lt kd) (show u - w ≤ 0 by omega)
      omega, fun g => by
      have := Int.mul_neg_of_neg_of_pos kd (show 0 < u - w by omega)
      exact ng_of (Int.le_of_lt hBB) (by omega)⟩
    rw [if_neg (show ¬ lv A B a < lv A B b by omega), if_neg (by omega)]
    by_cases c : w < u
    · rw [if_pos c, if_pos ⟨Int.le_of_lt g1, g2, t1.mpr c⟩]
    · rw [if_neg c, if_neg (fun g => c (t1.mp g.2.2))]
theorem cS_nos (h1 : lv A B z ≠ lv A B a) (h2 : lv A B z ≠ lv A B b) (hs : ¬ strd A B a b z) : cS A B a b z = 0 := by
  unfold strd at hs
  unfold cS
  rw [if_neg (by omega), if_neg (by omega)]
def prodI (f : Nat → Int) : Nat → Int
  | 0 => 1
  | n + 1 => prodI f n * f n
theorem prodI_pos {f : Nat → Int} : ∀ n, (∀ i, i < n → 0 < f i) → 0 < prodI f n
  | 0, _ => by show (0 : Int) < 1; decide
  | n + 1, h => Int.mul_pos (prodI_pos n fun i hi => h i (by omega)) (h n (by omega))
theorem prodI_dvd {f : Nat → Int} : ∀ n i, i < n → ∃ m, prodI f n = f i * m
  | 0, _, h => absurd h (Nat.not_lt_zero _)
  | n + 1, i, h => by
    by_cases c : i = n
    · subst c
      exact ⟨prodI f i, Int.mul_comm _ _⟩
    · obtain ⟨m, e⟩ := prodI_dvd n i (by omega)
      exact ⟨m * f n, by show prodI f n * f n = _; rw [e, Int.mul_assoc]⟩
theorem arg_minP {P : Nat → Prop} (g : Nat → Int) : ∀ n, (∃ j, j < n ∧ P j) → ∃ j, j < n ∧ P j ∧ ∀ i, i < n → P i → g j ≤ g i
  | 0, ⟨_, h, _⟩ => absurd h (Nat.not_lt_zero _)
  | n + 1, ⟨j, hj, pj⟩ => by
    by_cases c : ∃ k, k < n ∧ P k
    · obtain ⟨k, k1, k2, k3⟩ := arg_minP g n c
      by_cases c2 : P n ∧ g n < g k
      · refine ⟨n, by omega, c2.1, fun i hi pi => ?_⟩
        by_cases ei : i = n
        · rw [ei]
          exact Int.le_refl _
        · have := k3 i (by omega) pi
          omega
      · refine ⟨k, by omega, k2, fun i hi pi => ?_⟩
        by_cases ei : i = n
        · rw [ei] at pi ⊢
          exact Int.not_lt.mp fun w => c2 ⟨pi, w⟩
        · exact k3 i (by omega) pi
    · have e : j = n := Classical.byContradiction fun w => c ⟨j, by omega, pj⟩
      refine ⟨j, hj, pj, fun i hi pi => ?_⟩
      have e2 : i = n := Classical.byContradiction fun w => c ⟨i, by omega, pi⟩
      rw [e, e2]
      exact Int.le_refl _
/-- two edges share no place between their ends' levels -/
theorem Smp_two (h : Smp A B v n) (hi : i < n) (hj : j < n) (e : i ≠ j) (s1 : strd A B (v i) (v (nxt n i)) X) (s2 : strd A B (v j) (v (nxt n j)) X) (t1 : T3 (v i) (v (nxt n i)) X = 0) (t2 : T3 (v j) (v (nxt n j)) X = 0) : False := by
  have onx : ∀ {a b : Pt}, strd A B a b X → T3 a b X = 0 → On a b X := fun {a b} s t => by
    rcases s with ⟨g1, g2⟩ | ⟨g1, g2⟩
    · exact on_of (A := A) (B := B) (by omega) (Int.le_of_lt g1) (Int.le_of_lt g2) t
    · exact On_sym (on_of (A := A) (B := B) (by omega) (Int.le_of_lt g1) (Int.le_of_lt g2) (by rw [T3_ba', t]; rfl))
  have ne : ∀ {a b : Pt}, strd A B a b X → lv A B a ≠ lv A B b := fun {a b} s => by
    unfold strd at s
    omega
  have adj : ∀ i j, i < n → j < n → nxt n i = j → strd A B (v i) (v (nxt n i)) X → strd A B (v j) (v (nxt n j)) X → T3 (v i) (v (nxt n i)) X = 0 → T3 (v j) (v (nxt n j)) X = 0 → False := fun i j hi hj e s1 s2 t1 t2 => by
    have f := Fdb_T (A := A) (B := B) (h.2.2.1 j hj)
    have ep : prv n j = i := by rw [← e, prv_nxt hi]
    rw [ep] at f
    rw [e] at s1 t1
    have k := id_af A B (v i) (v j) (v j) (v (nxt n j)) X
    rw [t1, t2, T3_bb, Int.mul_zero, Int.mul_zero, Int.mul_zero, Int.zero_add, Int.add_zero] at k
    unfold strd at s1 s2
    refine f (by omega) ?_
    have := Int.mul_eq_zero.mp k.symm
    rcases this with w | w
    · omega
    · exact w
  by_cases c1 : nxt n i = j
  · exact adj i j hi hj c1 s1 s2 t1 t2
  · by_cases c2 : nxt n j = i
    · exact adj j i hj hi c2 s2 s1 t2 t1
    · exact h.2.2.2 i j hi hj e c1 c2 (com (ne s1) (ne s2) (onx s1 t1) (onx s2 t2))
/-- any place has the number to the right or that to the left -/
theorem Smp_any (h : Smp A B v n) (hB : B ≠ 0) (hz : ∀ i, i < n → lv A B z ≠ lv A B (v i)) : wN A B v n z = mu A B v n ∨ wN A B v n z = mu A B v n + 1 := by
  have h3 := h.1
  by_cases none : ∀ j, j < n → cS A B (v j) (v (nxt n j)) z = 0
  · have e : wN A B v n z = 0 := sumN_z n none
    have := mu_01 h
    omega
  have ld : ∀ j, j < n → lv A B (v (nxt n j)) - lv A B (v j) ≠ 0 := fun j hj => by
    have := Smp_lv h hj (nxt_lt hj) (Ne.symm (nxt_ne (by omega) hj))
    omega
  generalize hK : prodI (fun j => (lv A B (v (nxt n j)) - lv A B (v j)) * (lv A B (v (nxt n j)) - lv A B (v j))) n = K
  have kp : 0 < K := by
    rw [← hK]
    refine prodI_pos n fun j hj => ?_
    rcases Int.lt_or_gt_of_ne (ld j hj) with g | g
    · exact Int.mul_pos_of_neg_of_neg g g
    · exact Int.mul_pos g g
  have kd : ∀ j, j < n → ∃ m, K = m * (lv A B (v (nxt n j)) - lv A B (v j)) := fun j hj => by
    obtain ⟨m, e⟩ := prodI_dvd (f := fun j => (lv A B (v (nxt n j)) - lv A B (v j)) * (lv A B (v (nxt n j)) - lv A B (v j))) n j hj
    rw [hK] at e
    exact ⟨m * (lv A B (v (nxt n j)) - lv A B (v j)), by rw [e, Int.mul_comm, Int.mul_assoc]⟩
  have km : ∃ mm : Nat → Int, ∀ j, j < n → K = mm j * (lv A B (v (nxt n j)) - lv A B (v j)) := ⟨fun j => K / (lv A B (v (nxt n j)) - lv A B (v j)), fun j hj => by
    obtain ⟨m, e⟩ := kd j hj
    have : (lv A B (v (nxt n j)) - lv A B (v j)) ∣ K := ⟨m, by rw [e, Int.mul_comm]⟩
    exact (Int.ediv_mul_cancel this).symm⟩
  obtain ⟨mm, hmm⟩ := km
  have exE : ∃ j, j < n ∧ cS A B (v j) (v (nxt n j)) z ≠ 0 := Classical.byContradiction fun c => none fun j hj => Classical.byContradiction fun w => c ⟨j, hj, w⟩
  obtain ⟨j, hj, ej, jmin⟩ := arg_minP (P := fun j => cS A B (v j) (v (nxt n j)) z ≠ 0) (fun j => B * (pj A B (mm j) (v j) (v (nxt n j)) z).1) n exE
  have sE : ∀ i, i < n → cS A B (v i) (v (nxt n i)) z ≠ 0 → strd A B (v i) (v (nxt n i)) z := fun i hi w => Classical.byContradiction fun c => w (cS_nos (hz i hi) (hz _ (nxt_lt hi)) c)
  have sj := sE j hj ej
  generalize hW : pj A B (mm j) (v j) (v (nxt n j)) z = W at jmin
  have lW : lv A B W = K * lv A B z := by
    rw [← hW, pj_lv, ← hmm j hj]
  have lz : lv A B (sc K z) = K * lv A B z := lv_sc K A B z
  have vz : ∀ i, i < n → strd A B (v i) (v (nxt n i)) z → cS A B (v i) (v (nxt n i)) z = if B * (sc K z).1 < B * (pj A B (mm i) (v i) (v (nxt n i)) z).1 then (if lv A B (v i) < lv A B (v (nxt n i)) then 1 else -1) else 0 := fun i hi s => by
    rw [← cS_sc kp]
    exact cS_str hB kp (hmm i hi) lz s
  have vW : ∀ i, i < n → strd A B (v i) (v (nxt n i)) z → cS A B (sc K (v i)) (sc K (v (nxt n i))) W = if B * W.1 < B * (pj A B (mm i) (v i) (v (nxt n i)) z).1 then (if lv A B (v i) < lv A B (v (nxt n i)) then 1 else -1) else 0 := fun i hi s => cS_str hB kp (hmm i hi) lW s
  have zW : B * (sc K z).1 < B * W.1 := by
    refine Classical.byContradiction fun c => ej ?_
    rw [vz j hj sj, hW, if_neg c]
  have tP : ∀ i, i < n → T3 (sc K (v i)) (sc K (v (nxt n i))) (pj A B (mm i) (v i) (v (nxt n i)) z) = 0 := fun i hi => by
    have := pj_W (hmm i hi) (W := pj A B (mm i) (v i) (v (nxt n i)) z) (z := z) (by rw [pj_lv, ← hmm i hi])
    rw [Int.sub_self, Int.mul_zero] at this
    exact (Int.mul_eq_zero.mp this).resolve_left hB
  have tW : T3 (sc K (v j)) (sc K (v (nxt n j))) W = 0 := by
    rw [← hW]
    exact tP j hj
  have S := Smp_sc kp h
  have sst : ∀ i, strd A B (v i) (v (nxt n i)) z → strd A B (sc K (v i)) (sc K (v (nxt n i))) W := fun i s => by
    unfold strd at s ⊢
    rw [lv_sc, lv_sc, lW, klt kp, klt kp, klt kp, klt kp]
    exact s
  have oth : ∀ i, i < n → i ≠ j → cS A B (sc K (v i)) (sc K (v (nxt n i))) W = cS A B (v i) (v (nxt n i)) z := fun i hi e => by
    by_cases s : strd A B (v i) (v (nxt n i)) z
    · rw [vW i hi s, vz i hi s]
      have key : B * W.1 < B * (pj A B (mm i) (v i) (v (nxt n i)) z).1 ↔ B * (sc K z).1 < B * (pj A B (mm i) (v i) (v (nxt n i)) z).1 := by
        constructor
        · intro g
          omega
        · intro g
          have nz : cS A B (v i) (v (nxt n i)) z ≠ 0 := by
            rw [vz i hi s, if_pos g]
            split <;> decide
          have ge := jmin i hi nz
          refine Classical.byContradiction fun c => ?_
          have eq : B * (pj A B (mm i) (v i) (v (nxt n i)) z).1 = B * W.1 := by omega
          have e1 : (pj A B (mm i) (v i) (v (nxt n i)) z).1 = W.1 := Int.eq_of_mul_eq_mul_left hB eq
          have lP : lv A B (pj A B (mm i) (v i) (v (nxt n i)) z) = lv A B W := by rw [lW, pj_lv, ← hmm i hi]
          have e2 : (pj A B (mm i) (v i) (v (nxt n i)) z).2 = W.2 := by
            unfold lv at lP
            rw [e1] at lP
            exact Int.eq_of_mul_eq_mul_left hB (by omega)
          have eP : pj A B (mm i) (v i) (v (nxt n i)) z = W := pt_eq e1 e2
          have tPi := tP i hi
          rw [eP] at tPi
          exact Smp_two S hi hj e (sst i s) (sst j sj) tPi tW
      by_cases g : B * W.1 < B * (pj A B (mm i) (v i) (v (nxt n i)) z).1
      · rw [if_pos g, if_pos (key.mp g)]
      · rw [if_neg g, if_neg (fun w => g (key.mpr w))]
    · rw [cS_nos (hz i hi) (hz _ (nxt_lt hi)) s]
      have w1 : lv A B W ≠ lv A B (sc K (v i)) := by
        rw [lW, lv_sc]
        exact fun w => hz i hi (Int.eq_of_mul_eq_mul_left (by omega) w)
      have w2 : lv A B W ≠ lv A B (sc K (v (nxt n i))) := by
        rw [lW, lv_sc]
        exact fun w => hz _ (nxt_lt hi) (Int.eq_of_mul_eq_mul_left (by omega) w)
      refine cS_nos w1 w2 fun t => s ?_
      unfold strd at t ⊢
      rw [lv_sc, lv_sc, lW, klt kp, klt kp, klt kp, klt kp] at t
      exact t
  have e1 : wN A B v n z = cS A B (v j) (v (nxt n j)) z + wN A B (fun i => sc K (v i)) n W := by
    unfold wN
    rw [sumN_sp (fun i => cS A B (v i) (v (nxt n i)) z) n hj, sumN_sp (fun i => cS A B (sc K (v i)) (sc K (v (nxt n i))) W) n hj, cS_on A B tW, Int.zero_add]
    congr 1
    refine sumN_cg n fun i hi => ?_
    by_cases c : i = j
    · rw [if_pos c, if_pos c]
    · rw [if_neg c, if_neg c, oth i hi c]
  have ed := on_edge S hj tW
  rw [mu_sc kp] at ed
  have vj := vz j hj sj
  rw [hW, if_pos zW] at vj
  have sw := sst j sj
  rcases sj with ⟨g1, g2⟩ | ⟨g1, g2⟩
  · have := ed.1 (by rw [lv_sc, lW]; exact (klt kp).mpr g1) (by rw [lv_sc, lW]; exact (klt kp).mpr g2)
    rw [if_pos (by omega)] at vj
    omega
  · have := ed.2 (by rw [lv_sc, lW]; exact (klt kp).mpr g2) (by rw [lv_sc, lW]; exact (klt kp).mpr g1)
    rw [if_neg (by omega)] at vj
    omega
end ANYP

