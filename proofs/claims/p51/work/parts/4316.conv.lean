/-! Convex figures: inside and outside -/
theorem nxt_inj {n i j : Nat} (hi : i < n) (hj : j < n) (h : nxt n i = nxt n j) : i = j := by
  unfold nxt at h
  split at h <;> split at h <;> omega
theorem nxt_prv {n i : Nat} (hi : i < n) : nxt n (prv n i) = i := by
  unfold nxt prv
  split <;> split <;> omega
theorem nxt_ne {n i : Nat} (hn : 2 ≤ n) (hi : i < n) : nxt n i ≠ i := by
  unfold nxt
  split <;> omega
theorem nxt2_ne {n i : Nat} (hn : 3 ≤ n) (hi : i < n) : nxt n (nxt n i) ≠ i := by
  unfold nxt
  split
  · split <;> omega
  · rw [if_pos (by omega)]
    omega
/-- what passes from each place to the next passes from each to each -/
theorem walk_all {n : Nat} {P : Nat → Prop} (h : ∀ i, i < n → P i → P (nxt n i)) {i j : Nat} (hi : i < n) (hj : j < n) (p : P i) : P j := by
  have up : ∀ d k, k + d < n → P k → P (k + d) := fun d => by
    induction d with
    | zero => exact fun k _ w => w
    | succ d ih =>
      intro k hk w
      have := h (k + d) (by omega) (ih k (by omega) w)
      unfold nxt at this
      rw [if_pos (by omega)] at this
      exact this
  have e1 := up (n - 1 - i) i (by omega) p
  rw [show i + (n - 1 - i) = n - 1 by omega] at e1
  have e2 := h (n - 1) (by omega) e1
  unfold nxt at e2
  rw [if_neg (by omega)] at e2
  have e3 := up j 0 (by omega) e2
  rw [Nat.zero_add] at e3
  exact e3
theorem odd_none {f : Nat → Prop} : ∀ n, (∀ i, i < n → ¬ f i) → ¬ oddN f n
  | 0, _ => fun w => w
  | n + 1, h => fun w => (odd_none n fun i hi => h i (by omega)) ((odd_f (h n (by omega))).mpr w)
theorem odd_one {f : Nat → Prop} {u : Nat} : ∀ n, u < n → (∀ i, i < n → i ≠ u → ¬ f i) → (oddN f n ↔ f u)
  | 0, h, _ => absurd h (Nat.not_lt_zero _)
  | n + 1, h, hf => by
    by_cases e : u = n
    · rw [e]
      have z := odd_none n fun i hi => hf i (by omega) (by omega)
      by_cases c : f n
      · exact ⟨fun _ => c, fun _ => (odd_t c).mp z⟩
      · exact ⟨fun w => absurd ((odd_f c).mpr w) z, fun w => absurd w c⟩
    · rw [← odd_f (hf n (by omega) (by omega))]
      exact odd_one n (by omega) fun i hi => hf i (by omega)
theorem odd_two {f : Nat → Prop} {u v : Nat} (huv : u < v) : ∀ n, v < n → (∀ i, i < n → i ≠ u → i ≠ v → ¬ f i) → (oddN f n ↔ ¬ (f u ↔ f v))
  | 0, h, _ => absurd h (Nat.not_lt_zero _)
  | n + 1, h, hf => by
    by_cases e : v = n
    · show ¬ (oddN f n ↔ f n) ↔ _
      rw [odd_one n (by omega) (fun i hi h1 => hf i (by omega) h1 (by omega)), e]
    · rw [← odd_f (hf n (by omega) (by omega) (by omega))]
      exact odd_two huv n (by omega) fun i hi => hf i (by omega)
theorem odd_two' {f : Nat → Prop} {u v n : Nat} (huv : u ≠ v) (hu : u < n) (hv : v < n) (h : ∀ i, i < n → i ≠ u → i ≠ v → ¬ f i) : oddN f n ↔ ¬ (f u ↔ f v) := by
  rcases Nat.lt_or_gt_of_ne huv with c | c
  · exact odd_two c n hv h
  · rw [odd_two c n hu (fun i a b d => h i a d b)]
    exact ⟨fun w x => w x.symm, fun w x => w x.symm⟩
theorem id_n (A B : Int) (z a b p : Pt) : (lv A B b - lv A B a) * T3 z a p = (lv A B p - lv A B a) * T3 z a b + (lv A B a - lv A B z) * T3 a b p := by
  obtain ⟨ax, ay⟩ := a
  obtain ⟨bx, b2⟩ := b
  obtain ⟨zx, zy⟩ := z
  obtain ⟨px, py⟩ := p
  simp only [T3, tw, lv]
  grind
theorem id_q (a b c d : Pt) (y : Int) : T3 b c d * (a.2 - y) + T3 a b d * (c.2 - y) = T3 a c d * (b.2 - y) + T3 a b c * (d.2 - y) := by
  obtain ⟨ax, ay⟩ := a
  obtain ⟨bx, b2⟩ := b
  obtain ⟨cx, cy⟩ := c
  obtain ⟨dx, dy⟩ := d
  simp only [T3, tw]
  grind
theorem id_z (z v c p : Pt) : T3 z v c * (p.2 - v.2) = T3 z v p * (c.2 - v.2) - T3 v c p * (v.2 - z.2) := by
  obtain ⟨zx, zy⟩ := z
  obtain ⟨vx, vy⟩ := v
  obtain ⟨cx, cy⟩ := c
  obtain ⟨px, py⟩ := p
  simp only [T3, tw]
  grind
theorem id_1 (a b c d p : Pt) : T3 a b p * (c.2 - d.2) + T3 c d p * (b.2 - a.2) = (c.2 - p.2) * T3 a b d + (p.2 - d.2) * T3 a b c := by
  obtain ⟨ax, ay⟩ := a
  obtain ⟨bx, b2⟩ := b
  obtain ⟨cx, cy⟩ := c
  obtain ⟨dx, dy⟩ := d
  obtain ⟨px, py⟩ := p
  simp only [T3, tw]
  grind
theorem id_2 (a b c d g h p : Pt) : (T3 a b p * (c.2 - d.2) + T3 c d p * (b.2 - a.2)) * T3 g h p = T3 c d p * ((b.2 - p.2) * T3 g h a + (p.2 - a.2) * T3 g h b) + T3 a b p * ((c.2 - p.2) * T3 g h d + (p.2 - d.2) * T3 g h c) := by
  obtain ⟨ax, ay⟩ := a
  obtain ⟨bx, b2⟩ := b
  obtain ⟨cx, cy⟩ := c
  obtain ⟨dx, dy⟩ := d
  obtain ⟨gx, gy⟩ := g
  obtain ⟨hx, hy⟩ := h
  obtain ⟨px, py⟩ := p
  simp only [T3, tw]
  grind
section CONV
variable {W : PL} {a b c z p : Pt} {i j : Nat}
theorem sq_pos {x y : Int} (h : ¬ (x = 0 ∧ y = 0)) : 0 < x * x + y * y := by
  have h1 : 0 ≤ x * x := by
    rcases Int.le_total 0 x with c | c
    · exact Int.mul_nonneg c c
    · exact Int.mul_nonneg_of_nonpos_of_nonpos c c
  have h2 : 0 ≤ y * y := by
    rcases Int.le_total 0 y with c | c
    · exact Int.mul_nonneg c c
    · exact Int.mul_nonneg_of_nonpos_of_nonpos c c
  rcases Int.lt_or_eq_of_le h1 with c | c
  · omega
  rcases Int.lt_or_eq_of_le h2 with d | d
  · omega
  exfalso
  apply h
  exact ⟨(Int.mul_eq_zero.mp c.symm).elim id id, (Int.mul_eq_zero.mp d.symm).elim id id⟩
theorem lv_sq (a b : Pt) (h : a ≠ b) : lv (b.1 - a.1) (b.2 - a.2) a < lv (b.1 - a.1) (b.2 - a.2) b := by
  have e : lv (b.1 - a.1) (b.2 - a.2) b - lv (b.1 - a.1) (b.2 - a.2) a = (b.1 - a.1) * (b.1 - a.1) + (b.2 - a.2) * (b.2 - a.2) := by
    unfold lv
    grind
  have := sq_pos (x := b.1 - a.1) (y := b.2 - a.2) (fun w => h (pt_eq (by omega) (by omega)))
  omega
/-- what is on an edge's line and not outside the edges before and behind is on the edge -/
theorem inb (t1 : 0 < T3 z a b) (t2 : 0 < T3 a b c) (n1 : 0 ≤ T3 z a p) (n2 : 0 ≤ T3 b c p) (e : T3 a b p = 0) : On a b p := by
  have hab : a ≠ b := fun w => by
    rw [w, T3_bb] at t1
    exact Int.lt_irrefl _ t1
  have hl := lv_sq a b hab
  generalize b.1 - a.1 = A at hl
  generalize b.2 - a.2 = B at hl
  have i1 := id_n A B z a b p
  have i2 := id_a A B a b c p
  rw [e, Int.mul_zero] at i1 i2
  rw [Int.add_zero] at i1
  have hp := Int.sub_pos_of_lt hl
  refine on_of hl ?_ ?_ e
  · have k : 0 ≤ T3 z a b * (lv A B p - lv A B a) := by
      rw [Int.mul_comm, ← i1]
      exact Int.mul_nonneg (Int.le_of_lt hp) n1
    have := nn_of t1 k
    omega
  · have k0 := Int.mul_nonneg (Int.le_of_lt hp) n2
    have k : 0 ≤ T3 a b c * (lv A B b - lv A B p) := by
      have e2 : T3 a b c * (lv A B b - lv A B p) = - ((lv A B p - lv A B b) * T3 a b c) := by
        rw [Int.mul_comm, ← Int.neg_mul]
        congr 1
        omega
      omega
    have := nn_of t2 k
    omega
theorem ed_nn (h : edL W) {i k : Nat} (hi : i < W.length) (hk : k < W.length) : 0 ≤ T3 (pt W i) (pt W (nxt W.length i)) (pt W k) := by
  by_cases c : k = i
  · rw [c, T3_ba]
    exact Int.le_refl _
  by_cases c2 : k = nxt W.length i
  · rw [c2, T3_bb]
    exact Int.le_refl _
  exact Int.le_of_lt (h i hi k hk c c2)
theorem ed_turn (h : edL W) (hn : 3 ≤ W.length) (hi : i < W.length) : 0 < T3 (pt W i) (pt W (nxt W.length i)) (pt W (nxt W.length (nxt W.length i))) :=
  h i hi _ (nxt_lt (nxt_lt hi)) (nxt2_ne hn hi) (nxt_ne (by omega) (nxt_lt hi))
/-- inside or on an edge, if outside of none -/
theorem cv_on (h : edL W) (hn : 3 ≤ W.length) (hp : ∀ k, k < W.length → 0 ≤ T3 (pt W k) (pt W (nxt W.length k)) p) (hi : i < W.length) : 0 < T3 (pt W i) (pt W (nxt W.length i)) p ∨ On (pt W i) (pt W (nxt W.length i)) p := by
  rcases Int.lt_or_eq_of_le (hp i hi) with c | c
  · exact Or.inl c
  · have hpr := prv_lt hi
    have t1 := ed_turn h hn hpr
    have n1 := hp _ hpr
    rw [nxt_prv hi] at t1 n1
    exact Or.inr (inb t1 (ed_turn h hn hi) n1 (hp _ (nxt_lt hi)) c.symm)
def upE (W : PL) (y : Int) (i : Nat) : Prop := pY W i ≤ y ∧ y < pY W (nxt W.length i)
def dnE (W : PL) (y : Int) (i : Nat) : Prop := y < pY W i ∧ pY W (nxt W.length i) ≤ y
theorem cv_quad (h : edL W) (hi : i < W.length) (hj : j < W.length) (h1 : i ≠ j) (h2 : nxt W.length i ≠ j) (h3 : nxt W.length j ≠ i) (y : Int) : ∃ k1 k2 k3 k4 : Int, 0 < k1 ∧ 0 < k2 ∧ 0 < k3 ∧ 0 < k4 ∧ k1 * (pY W i - y) + k2 * (pY W j - y) = k3 * (pY W (nxt W.length i) - y) + k4 * (pY W (nxt W.length j) - y) := by
  have e4 : nxt W.length i ≠ nxt W.length j := fun e => h1 (nxt_inj hi hj e)
  refine ⟨_, _, _, _, ?_, ?_, ?_, ?_, id_q (pt W i) (pt W (nxt W.length i)) (pt W j) (pt W (nxt W.length j)) y⟩
  · rw [T3_rot]
    exact h j hj _ (nxt_lt hi) h2 e4
  · exact h i hi _ (nxt_lt hj) h3 (Ne.symm e4)
  · rw [T3_rot]
    exact h j hj i hi h1 (Ne.symm h3)
  · exact h i hi j hj (Ne.symm h1) (Ne.symm h2)
theorem up_one (h : edL W) {y : Int} (hi : i < W.length) (hj : j < W.length) (ui : upE W y i) (uj : upE W y j) : i = j := by
  refine Classical.byContradiction fun c => ?_
  obtain ⟨k1, k2, k3, k4, p1, p2, p3, p4, e⟩ := cv_quad h hi hj c (fun e => by have := ui.2; rw [e] at this; have := uj.1; omega) (fun e => by have := uj.2; rw [e] at this; have := ui.1; omega) y
  have w1 : k1 * (pY W i - y) ≤ 0 := Int.mul_nonpos_of_nonneg_of_nonpos (Int.le_of_lt p1) (by have := ui.1; omega)
  have w2 : k2 * (pY W j - y) ≤ 0 := Int.mul_nonpos_of_nonneg_of_nonpos (Int.le_of_lt p2) (by have := uj.1; omega)
  have w3 : 0 < k3 * (pY W (nxt W.length i) - y) := Int.mul_pos p3 (by have := ui.2; omega)
  have w4 : 0 < k4 * (pY W (nxt W.length j) - y) := Int.mul_pos p4 (by have := uj.2; omega)
  omega
theorem dn_one (h : edL W) {y : Int} (hi : i < W.length) (hj : j < W.length) (ui : dnE W y i) (uj : dnE W y j) : i = j := by
  refine Classical.byContradiction fun c => ?_
  obtain ⟨k1, k2, k3, k4, p1, p2, p3, p4, e⟩ := cv_quad h hi hj c (fun e => by have := ui.2; rw [e] at this; have := uj.1; omega) (fun e => by have := uj.2; rw [e] at this; have := ui.1; omega) y
  have w1 : 0 < k1 * (pY W i - y) := Int.mul_pos p1 (by have := ui.1; omega)
  have w2 : 0 < k2 * (pY W j - y) := Int.mul_pos p2 (by have := uj.1; omega)
  have w3 : k3 * (pY W (nxt W.length i) - y) ≤ 0 := Int.mul_nonpos_of_nonneg_of_nonpos (Int.le_of_lt p3) (by have := ui.2; omega)
  have w4 : k4 * (pY W (nxt W.length j) - y) ≤ 0 := Int.mul_nonpos_of_nonneg_of_nonpos (Int.le_of_lt p4) (by have := uj.2; omega)
  omega
/-- over a height that is passed upward it is passed downward too -/
theorem up_dn {y : Int} (hi : i < W.length) (u : upE W y i) : ∃ j, j < W.length ∧ dnE W y j := by
  refine Classical.byContradiction fun c => ?_
  have := walk_all (n := W.length) (P := fun k => y < pY W k) (fun k hk w => Int.not_le.mp fun g => c ⟨k, hk, w, g⟩) (nxt_lt hi) hi u.2
  exact absurd u.1 (Int.not_le.mpr this)
theorem dn_up {y : Int} (hi : i < W.length) (u : dnE W y i) : ∃ j, j < W.length ∧ upE W y j := by
  refine Classical.byContradiction fun c => ?_
  have := walk_all (n := W.length) (P := fun k => pY W k ≤ y) (fun k hk w => Int.not_lt.mp fun g => c ⟨k, hk, w, g⟩) (nxt_lt hi) hi u.2
  exact absurd u.1 (Int.not_lt.mpr this)
theorem arg_max (f : Nat → Int) : ∀ n, 0 < n → ∃ m, m < n ∧ ∀ i, i < n → f i ≤ f m
  | 0, h => absurd h (Nat.lt_irrefl _)
  | 1, _ => ⟨0, by omega, fun i hi => by rw [show i = 0 by omega]; exact Int.le_refl _⟩
  | n + 2, _ => by
    obtain ⟨m, hm, h⟩ := arg_max f (n + 1) (by omega)
    by_cases c : f m ≤ f (n + 1)
    · refine ⟨n + 1, by omega, fun i hi => ?_⟩
      by_cases e : i = n + 1
      · rw [e]
        exact Int.le_refl _
      · exact Int.le_trans (h i (by omega)) c
    · refine ⟨m, by omega, fun i hi => ?_⟩
      by_cases e : i = n + 1
      · rw [e]
        omega
      · exact h i (by omega)
/-- a place inside is neither over nor under all corners -/
theorem cv_cross (h : edL W) (hn : 3 ≤ W.length) (hp : ∀ k, k < W.length → 0 < T3 (pt W k) (pt W (nxt W.length k)) p) : ∃ i, i < W.length ∧ upE W p.2 i := by
  refine Classical.byContradiction fun c => ?_
  have low : ∀ {i j : Nat}, i < W.length → j < W.length → pY W i ≤ p.2 → pY W j ≤ p.2 := fun hi hj w => walk_all (n := W.length) (P := fun k => pY W k ≤ p.2) (fun k hk w => Int.not_lt.mp fun g => c ⟨k, hk, w, g⟩) hi hj w
  by_cases e : ∃ i, i < W.length ∧ pY W i ≤ p.2
  · obtain ⟨i, hi, w⟩ := e
    have all : ∀ k, k < W.length → pY W k ≤ p.2 := fun k hk => low hi hk w
    obtain ⟨m, hm, hmax⟩ := arg_max (pY W) W.length (by omega)
    have hpr := prv_lt hm
    have t := ed_turn h hn hpr
    have s1 := hp _ hpr
    have s2 := hp m hm
    rw [nxt_prv hm] at t s1
    have g1 := hmax _ hpr
    have g2 := hmax _ (nxt_lt hm)
    have g3 := all m hm
    have i1 := id_z (pt W (prv W.length m)) (pt W m) (pt W (nxt W.length m)) p
    have l1 : 0 ≤ T3 (pt W (prv W.length m)) (pt W m) (pt W (nxt W.length m)) * (p.2 - (pt W m).2) := Int.mul_nonneg (Int.le_of_lt t) (show 0 ≤ p.2 - pY W m by omega)
    have l2 : T3 (pt W (prv W.length m)) (pt W m) p * ((pt W (nxt W.length m)).2 - (pt W m).2) ≤ 0 := Int.mul_nonpos_of_nonneg_of_nonpos (Int.le_of_lt s1) (show pY W (nxt W.length m) - pY W m ≤ 0 by omega)
    have l3 : 0 ≤ T3 (pt W m) (pt W (nxt W.length m)) p * ((pt W m).2 - (pt W (prv W.length m)).2) := Int.mul_nonneg (Int.le_of_lt s2) (show 0 ≤ pY W m - pY W (prv W.length m) by omega)
    have z2 := zero_of s1 (show T3 (pt W (prv W.length m)) (pt W m) p * ((pt W (nxt W.length m)).2 - (pt W m).2) = 0 by omega)
    have z3 := zero_of s2 (show T3 (pt W m) (pt W (nxt W.length m)) p * ((pt W m).2 - (pt W (prv W.length m)).2) = 0 by omega)
    have y1 : pY W (nxt W.length m) = pY W m := by
      have : pY W (nxt W.length m) - pY W m = 0 := z2
      omega
    have y2 : pY W (prv W.length m) = pY W m := by
      have : pY W m - pY W (prv W.length m) = 0 := z3
      omega
    have tz : T3 (pt W (prv W.length m)) (pt W m) (pt W (nxt W.length m)) = 0 := by
      show (pX W m - pX W (prv W.length m)) * (pY W (nxt W.length m) - pY W (prv W.length m)) - (pY W m - pY W (prv W.length m)) * (pX W (nxt W.length m) - pX W (prv W.length m)) = 0
      rw [y1, y2, Int.sub_self, Int.mul_zero, Int.zero_mul]
      rfl
    omega
  · obtain ⟨m, hm, hmax⟩ := arg_max (fun k => - pY W k) W.length (by omega)
    have hpr := prv_lt hm
    have t := ed_turn h hn hpr
    have s1 := hp _ hpr
    have s2 := hp m hm
    rw [nxt_prv hm] at t s1
    have g1 : - pY W (prv W.length m) ≤ - pY W m := hmax _ hpr
    have g2 : - pY W (nxt W.length m) ≤ - pY W m := hmax _ (nxt_lt hm)
    have g3 : ¬ pY W m ≤ p.2 := fun w => e ⟨m, hm, w⟩
    have i1 := id_z (pt W (prv W.length m)) (pt W m) (pt W (nxt W.length m)) p
    have l1 : T3 (pt W (prv W.length m)) (pt W m) (pt W (nxt W.length m)) * (p.2 - (pt W m).2) < 0 := Int.mul_neg_of_pos_of_neg t (show p.2 - pY W m < 0 by omega)
    have l2 : 0 ≤ T3 (pt W (prv W.length m)) (pt W m) p * ((pt W (nxt W.length m)).2 - (pt W m).2) := Int.mul_nonneg (Int.le_of_lt s1) (show 0 ≤ pY W (nxt W.length m) - pY W m by omega)
    have l3 : T3 (pt W m) (pt W (nxt W.length m)) p * ((pt W m).2 - (pt W (prv W.length m)).2) ≤ 0 := Int.mul_nonpos_of_nonneg_of_nonpos (Int.le_of_lt s2) (show pY W m - pY W (prv W.length m) ≤ 0 by omega)
    omega
end CONV

