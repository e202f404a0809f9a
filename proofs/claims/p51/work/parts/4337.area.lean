/-! The numbers of all places make the area -/
def bx (R : Nat) (f : Int → Int → Int) : Int := sumN (fun t => sumN (fun s => f ((s : Int) - R) ((t : Int) - R)) (2 * R + 1)) (2 * R + 1)
def np (p : Pt) : Pt := (-p.1, -p.2)
section AREA
variable {A B w : Int} {a b c d o p q r z : Pt} {u v : Nat → Pt} {n i j k e R : Nat} {x y : Int}
theorem sumN_c0 (f : Nat → Nat → Int) : ∀ m n, sumN (fun t => sumN (fun s => f t s) n) m = sumN (fun s => sumN (fun t => f t s) m) n
  | 0, n => (sumN_z n fun _ _ => rfl).symm
  | m + 1, n => by
    have ih := sumN_c0 f m n
    have := sumN_ad (fun s => sumN (fun t => f t s) m) (fun s => f m s) n
    show sumN (fun t => sumN (fun s => f t s) n) m + sumN (fun s => f m s) n = sumN (fun s => sumN (fun t => f t s) m + f m s) n
    omega
theorem sumN_rev (f : Nat → Int) : ∀ n, sumN f n = sumN (fun i => f (n - 1 - i)) n
  | 0 => rfl
  | n + 1 => by
    have ih := sumN_rev f n
    have e := sumN_f (fun i => f (n + 1 - 1 - i)) n
    have e2 : sumN (fun i => f (n + 1 - 1 - (i + 1))) n = sumN (fun i => f (n - 1 - i)) n := sumN_cg n fun i hi => by
      congr 1
      omega
    rw [e]
    show sumN f n + f n = f (n + 1 - 1 - 0) + sumN (fun i => f (n + 1 - 1 - (i + 1))) n
    rw [e2, show n + 1 - 1 - 0 = n by omega]
    omega
theorem sumN_mul (k : Int) (f : Nat → Int) : ∀ n, sumN (fun i => k * f i) n = k * sumN f n
  | 0 => (Int.mul_zero k).symm
  | n + 1 => by
    show sumN (fun i => k * f i) n + k * f n = k * (sumN f n + f n)
    rw [sumN_mul k f n, Int.mul_add]
theorem sumN_c (k : Int) : ∀ n, sumN (fun _ => k) n = n * k
  | 0 => (Int.zero_mul k).symm
  | n + 1 => by
    show sumN (fun _ => k) n + k = _
    rw [sumN_c k n, show ((n + 1 : Nat) : Int) = (n : Int) + 1 from rfl, Int.add_mul, Int.one_mul]
theorem cnt_lt (k : Int) (hk : 0 ≤ k) : ∀ n : Nat, sumN (fun s => if (s : Int) < k then (1 : Int) else 0) n = min k n
  | 0 => by
    show (0 : Int) = min k ((0 : Nat) : Int)
    omega
  | n + 1 => by
    have := cnt_lt k hk n
    show sumN _ n + (if (n : Int) < k then (1 : Int) else 0) = min k ((n + 1 : Nat) : Int)
    split <;> omega
theorem cnt_gt (k : Int) (hk : -1 ≤ k) : ∀ n : Nat, sumN (fun s => if k < (s : Int) then (1 : Int) else 0) n = n - min (k + 1) n
  | 0 => by
    show (0 : Int) = ((0 : Nat) : Int) - min (k + 1) ((0 : Nat) : Int)
    omega
  | n + 1 => by
    have := cnt_gt k hk n
    show sumN _ n + (if k < (n : Int) then (1 : Int) else 0) = ((n + 1 : Nat) : Int) - min (k + 1) ((n + 1 : Nat) : Int)
    split <;> omega
theorem bx_cg {f g : Int → Int → Int} (h : ∀ x y : Int, -(R : Int) ≤ x → x ≤ R → -(R : Int) ≤ y → y ≤ R → f x y = g x y) : bx R f = bx R g :=
  sumN_cg _ fun t ht => sumN_cg _ fun s hs => h _ _ (by omega) (by omega) (by omega) (by omega)
theorem bx_ad (f g : Int → Int → Int) : bx R (fun x y => f x y + g x y) = bx R f + bx R g := by
  unfold bx
  rw [← sumN_ad]
  exact sumN_cg _ fun t _ => sumN_ad _ _ _
theorem bx_mul (k : Int) (f : Int → Int → Int) : bx R (fun x y => k * f x y) = k * bx R f := by
  unfold bx
  rw [← sumN_mul]
  exact sumN_cg _ fun t _ => sumN_mul k _ _
theorem bx_sm (f : Nat → Int → Int → Int) (n : Nat) : bx R (fun x y => sumN (fun i => f i x y) n) = sumN (fun i => bx R (f i)) n := by
  unfold bx
  rw [← sumN_c0 (fun t i => sumN (fun s => f i ((s : Int) - R) ((t : Int) - R)) (2 * R + 1))]
  exact sumN_cg _ fun t _ => sumN_c0 (fun s i => f i ((s : Int) - R) ((t : Int) - R)) _ _
theorem win (g : Int → Int) {lo : Int} {L : Nat} (h1 : -(R : Int) ≤ lo) (h2 : lo + L ≤ R + 1) (z : ∀ y : Int, y < lo ∨ lo + L ≤ y → g y = 0) : sumN (fun t => g ((t : Int) - R)) (2 * R + 1) = sumN (fun k => g (lo + (k : Int))) L := by
  obtain ⟨p, hp⟩ : ∃ p : Nat, (p : Int) = lo + R := ⟨(lo + R).toNat, by omega⟩
  obtain ⟨q, hq⟩ : ∃ q : Nat, 2 * R + 1 = p + (L + q) := ⟨2 * R + 1 - p - L, by omega⟩
  rw [hq, sumN_app, sumN_app]
  have e1 : sumN (fun t => g ((t : Int) - R)) p = 0 := sumN_z p fun i hi => z _ (Or.inl (by omega))
  have e2 : sumN (fun i => g (((p + (L + i) : Nat) : Int) - R)) q = 0 := sumN_z q fun i hi => z _ (Or.inr (by omega))
  have e3 : sumN (fun i => g (((p + i : Nat) : Int) - R)) L = sumN (fun k => g (lo + (k : Int))) L := sumN_cg L fun i _ => by
    congr 1
    omega
  rw [e1, e2, e3]
  omega
theorem lv01 (p : Pt) : lv 0 1 p = p.2 := by
  unfold lv
  omega
theorem T3_hit (a b : Pt) (x y : Int) : T3 a b (x, y) = (b.2 - y) * (a.1 - x) + (y - a.2) * (b.1 - x) := by
  simp only [T3, tw]
  grind
theorem T3_lin (a b : Pt) (x y : Int) : T3 a b (x, y) = ((b.1 - a.1) * (y - a.2) + (b.2 - a.2) * a.1) - (b.2 - a.2) * x := by
  simp only [T3, tw]
  grind
theorem T3_ref (a b : Pt) (x y : Int) : T3 a b (a.1 + b.1 - x, a.2 + b.2 - y) = - T3 a b (x, y) := by
  simp only [T3, tw]
  grind
theorem thr (hab : a.2 < b.2) (h1 : a.2 ≤ y) (h2 : y ≤ b.2) : ∃ m : Int, (∀ x, 0 < T3 a b (x, y) ↔ x < m) ∧ min a.1 b.1 ≤ m ∧ m ≤ max a.1 b.1 := by
  have hd : 0 < b.2 - a.2 := by omega
  have key : ∀ x, 0 < T3 a b (x, y) ↔ x < ((b.1 - a.1) * (y - a.2) + (b.2 - a.2) * a.1 + (b.2 - a.2) - 1) / (b.2 - a.2) := fun x => by
    rw [T3_lin, Int.lt_iff_add_one_le (a := x), Int.le_ediv_iff_mul_le hd, Int.add_mul, Int.one_mul, Int.mul_comm x]
    generalize (b.1 - a.1) * (y - a.2) + (b.2 - a.2) * a.1 = s
    generalize (b.2 - a.2) * x = t
    omega
  refine ⟨_, key, ?_, ?_⟩
  · have : 0 < T3 a b (min a.1 b.1 - 1, y) := by
      rw [T3_hit]
      have t1 := Int.mul_nonneg (show 0 ≤ b.2 - y by omega) (show 0 ≤ a.1 - (min a.1 b.1 - 1) by omega)
      have t2 := Int.mul_nonneg (show 0 ≤ y - a.2 by omega) (show 0 ≤ b.1 - (min a.1 b.1 - 1) by omega)
      by_cases c : y = a.2
      · have := Int.mul_pos (show 0 < b.2 - y by omega) (show 0 < a.1 - (min a.1 b.1 - 1) by omega)
        omega
      · have := Int.mul_pos (show 0 < y - a.2 by omega) (show 0 < b.1 - (min a.1 b.1 - 1) by omega)
        omega
    have := (key _).mp this
    omega
  · refine Int.not_lt.mp fun g => ?_
    have := (key _).mpr g
    rw [T3_hit] at this
    have t1 := Int.mul_nonpos_of_nonneg_of_nonpos (show 0 ≤ b.2 - y by omega) (show a.1 - max a.1 b.1 ≤ 0 by omega)
    have t2 := Int.mul_nonpos_of_nonneg_of_nonpos (show 0 ≤ y - a.2 by omega) (show b.1 - max a.1 b.1 ≤ 0 by omega)
    omega
/-- a row's share of an edge, to one side and, over against it, to the other -/
theorem row_up (hab : a.2 < b.2) (ha : -(R : Int) ≤ a.1 ∧ a.1 ≤ R) (hb : -(R : Int) ≤ b.1 ∧ b.1 ≤ R) (h1 : a.2 ≤ y) (h2 : y < b.2) : sumN (fun s => cS 0 1 a b ((s : Int) - R, y)) (2 * R + 1) + sumN (fun s => cS (-0) (-1) a b ((s : Int) - R, a.2 + b.2 - y)) (2 * R + 1) = a.1 + b.1 := by
  obtain ⟨m, hm, m1, m2⟩ := thr hab h1 (Int.le_of_lt h2)
  have e1 : sumN (fun s => cS 0 1 a b ((s : Int) - R, y)) (2 * R + 1) = m + R := by
    rw [sumN_cg (g := fun s => if (s : Int) < m + R then (1 : Int) else 0) _ fun s _ => ?_, cnt_lt _ (by omega)]
    · omega
    · have := hm ((s : Int) - R)
      unfold cS
      rw [lv01, lv01, lv01]
      show (if a.2 ≤ y ∧ y < b.2 ∧ 0 < T3 a b ((s : Int) - R, y) then (1 : Int) else if b.2 ≤ y ∧ y < a.2 ∧ T3 a b ((s : Int) - R, y) < 0 then -1 else 0) = _
      by_cases c : (s : Int) < m + R
      · rw [if_pos c, if_pos ⟨h1, h2, this.mpr (by omega)⟩]
      · rw [if_neg c, if_neg (fun g => c (by have := this.mp g.2.2; omega)), if_neg (by omega)]
  have e2 : sumN (fun s => cS (-0) (-1) a b ((s : Int) - R, a.2 + b.2 - y)) (2 * R + 1) = - (R - (a.1 + b.1 - m)) := by
    rw [sumN_cg (g := fun s => (-1) * (if a.1 + b.1 - m + R < (s : Int) then (1 : Int) else 0)) _ fun s _ => ?_, sumN_mul, cnt_gt _ (by omega)]
    · omega
    · have := hm (a.1 + b.1 - ((s : Int) - R))
      have e := T3_ref a b (a.1 + b.1 - ((s : Int) - R)) y
      rw [show a.1 + b.1 - (a.1 + b.1 - ((s : Int) - R)) = (s : Int) - R by omega] at e
      unfold cS
      rw [lv_neg, lv_neg, lv_neg, lv01, lv01, lv01]
      show (if -a.2 ≤ -(a.2 + b.2 - y) ∧ -(a.2 + b.2 - y) < -b.2 ∧ 0 < T3 a b ((s : Int) - R, a.2 + b.2 - y) then (1 : Int) else if -b.2 ≤ -(a.2 + b.2 - y) ∧ -(a.2 + b.2 - y) < -a.2 ∧ T3 a b ((s : Int) - R, a.2 + b.2 - y) < 0 then -1 else 0) = _
      by_cases c : a.1 + b.1 - m + R < (s : Int)
      · rw [if_pos c, if_neg (by omega), if_pos ⟨by omega, by omega, by have := this.mpr (by omega); omega⟩]
        rfl
      · rw [if_neg c, if_neg (by omega), if_neg (fun g => c (by have := this.mp (by omega); omega))]
        rfl
  rw [e1, e2]
  omega
theorem edge_up (hab : a.2 < b.2) (ha : -(R : Int) ≤ a.1 ∧ a.1 ≤ R) (hb : -(R : Int) ≤ b.1 ∧ b.1 ≤ R) (ha2 : -(R : Int) ≤ a.2) (hb2 : b.2 ≤ R) : bx R (fun x y => cS 0 1 a b (x, y) + cS (-0) (-1) a b (x, y)) = (b.2 - a.2) * (a.1 + b.1) := by
  rw [bx_ad]
  unfold bx
  obtain ⟨L, hL⟩ : ∃ L : Nat, (L : Int) = b.2 - a.2 := ⟨(b.2 - a.2).toNat, by omega⟩
  rw [win (fun y => sumN (fun s => cS 0 1 a b ((s : Int) - R, y)) (2 * R + 1)) (lo := a.2) (L := L) ha2 (by omega) (fun y hy => sumN_z _ fun s _ => by
    unfold cS
    rw [lv01, lv01, lv01]
    show (if a.2 ≤ y ∧ y < b.2 ∧ _ then (1 : Int) else if b.2 ≤ y ∧ y < a.2 ∧ _ then -1 else 0) = 0
    rw [if_neg (by omega), if_neg (by omega)])]
  rw [win (fun y => sumN (fun s => cS (-0) (-1) a b ((s : Int) - R, y)) (2 * R + 1)) (lo := a.2 + 1) (L := L) (by omega) (by omega) (fun y hy => sumN_z _ fun s _ => by
    unfold cS
    rw [lv_neg, lv_neg, lv_neg, lv01, lv01, lv01]
    show (if -a.2 ≤ -y ∧ -y < -b.2 ∧ _ then (1 : Int) else if -b.2 ≤ -y ∧ -y < -a.2 ∧ _ then -1 else 0) = 0
    rw [if_neg (by omega), if_neg (by omega)])]
  rw [sumN_rev (fun k => sumN (fun s => cS (-0) (-1) a b ((s : Int) - R, a.2 + 1 + (k : Int))) (2 * R + 1)), ← sumN_ad, sumN_cg (g := fun _ => a.1 + b.1) _ fun k hk => ?_, sumN_c, hL]
  have := row_up (y := a.2 + (k : Int)) hab ha hb (by omega) (by omega)
  rw [← this]
  congr 2
  funext s
  congr 2
  omega
theorem edge_all (ha : -(R : Int) ≤ a.1 ∧ a.1 ≤ R) (hb : -(R : Int) ≤ b.1 ∧ b.1 ≤ R) (ha2 : -(R : Int) ≤ a.2 ∧ a.2 ≤ R) (hb2 : -(R : Int) ≤ b.2 ∧ b.2 ≤ R) : bx R (fun x y => cS 0 1 a b (x, y) + cS (-0) (-1) a b (x, y)) = (b.2 - a.2) * (a.1 + b.1) := by
  rcases Int.lt_trichotomy a.2 b.2 with g | g | g
  · exact edge_up g ha hb ha2.1 hb2.2
  · have : bx R (fun x y => cS 0 1 a b (x, y) + cS (-0) (-1) a b (x, y)) = bx R (fun x y => 0 * 0) := bx_cg fun x y _ _ _ _ => by
      unfold cS
      rw [lv_neg, lv_neg, lv_neg, lv01, lv01, lv01, if_neg (by omega), if_neg (by omega), if_neg (by omega), if_neg (by omega)]
      rfl
    rw [this, bx_mul 0 (fun _ _ => 0), Int.zero_mul, g, Int.sub_self, Int.zero_mul]
  · have e := edge_up g hb ha hb2.1 ha2.2
    have : bx R (fun x y => cS 0 1 a b (x, y) + cS (-0) (-1) a b (x, y)) = bx R (fun x y => (-1) * (cS 0 1 b a (x, y) + cS (-0) (-1) b a (x, y))) := bx_cg fun x y _ _ _ _ => by
      rw [cS_rev 0 1 b a, cS_rev (-0) (-1) b a]
      omega
    rw [this, bx_mul, e]
    grind
/-- in the box, lots of whole numbers stand for order by height, then back -/
theorem cS_std (ha : -1000 ≤ a.1 ∧ a.1 ≤ 1000) (hb : -1000 ≤ b.1 ∧ b.1 ≤ 1000) (hz : -1000 ≤ z.1 ∧ z.1 ≤ 1000) : cS (-1) 100000 a b z = cS 0 1 a b z := by
  have up : ∀ a b : Pt, (-1000 ≤ a.1 ∧ a.1 ≤ 1000) → (-1000 ≤ b.1 ∧ b.1 ≤ 1000) → a.2 < b.2 → cS (-1) 100000 a b z = cS 0 1 a b z := fun a b ha hb g => by
    have h1 := T3_hit a b z.1 z.2
    have f1 : z.2 = b.2 → 0 < T3 a b z → z.1 < b.1 := fun e t => by
      have h1 : T3 a b z = _ := h1
      rw [h1, e, Int.sub_self, Int.zero_mul, Int.zero_add] at t
      have := pos_of (show 0 < b.2 - a.2 by omega) t
      omega
    have f2 : z.2 = a.2 → 0 < T3 a b z → z.1 < a.1 := fun e t => by
      have h1 : T3 a b z = _ := h1
      rw [h1, e, Int.sub_self, Int.zero_mul, Int.add_zero] at t
      have := pos_of (show 0 < b.2 - a.2 by omega) t
      omega
    unfold cS
    rw [lv01, lv01, lv01]
    unfold lv
    generalize T3 a b z = t at *
    clear h1
    split <;> split <;> (try split) <;> (try split) <;> omega
  rcases Int.lt_trichotomy a.2 b.2 with g | g | g
  · exact up a b ha hb g
  · have f : z.2 = a.2 → T3 a b z = 0 := fun e => by
      have h1 : T3 a b z = _ := T3_hit a b z.1 z.2
      rw [h1, ← g, e, Int.sub_self, Int.zero_mul, Int.zero_mul]
      rfl
    unfold cS
    rw [lv01, lv01, lv01]
    unfold lv
    generalize T3 a b z = t at *
    split <;> split <;> (try split) <;> (try split) <;> omega
  · rw [cS_rev (-1) 100000 b a, cS_rev 0 1 b a, up b a hb ha g]
theorem cS_np (A B : Int) (a b z : Pt) : cS (-A) (-B) a b z = cS A B (np a) (np b) (np z) := by
  have e : T3 (np a) (np b) (np z) = T3 a b z := by
    simp only [T3, tw, np]
    grind
  have l : ∀ p, lv A B (np p) = lv (-A) (-B) p := fun p => by
    simp only [lv, np]
    grind
  unfold cS
  rw [e, l, l, l]
theorem cS_std2 (ha : -1000 ≤ a.1 ∧ a.1 ≤ 1000) (hb : -1000 ≤ b.1 ∧ b.1 ≤ 1000) (hz : -1000 ≤ z.1 ∧ z.1 ≤ 1000) : cS (-(-1)) (-100000) a b z = cS (-0) (-1) a b z := by
  rw [cS_np, cS_np]
  exact cS_std (by show -1000 ≤ -a.1 ∧ -a.1 ≤ 1000; omega) (by show -1000 ≤ -b.1 ∧ -b.1 ≤ 1000; omega) (by show -1000 ≤ -z.1 ∧ -z.1 ≤ 1000; omega)
/-- all corners in the box -/
def inR (R : Nat) (v : Nat → Pt) (n : Nat) : Prop := ∀ i, i < n → (-(R : Int) ≤ (v i).1 ∧ (v i).1 ≤ R) ∧ (-(R : Int) ≤ (v i).2 ∧ (v i).2 ≤ R)
theorem area (hR : R ≤ 1000) (hv : inR R v n) : bx R (fun x y => om (-1) 100000 v n (x, y)) = sumN (fun i => (v i).1 * (v (nxt n i)).2 - (v i).2 * (v (nxt n i)).1) n := by
  have e1 : bx R (fun x y => om (-1) 100000 v n (x, y)) = bx R (fun x y => sumN (fun i => cS 0 1 (v i) (v (nxt n i)) (x, y) + cS (-0) (-1) (v i) (v (nxt n i)) (x, y)) n) := bx_cg fun x y h1 h2 h3 h4 => by
    unfold om wN
    rw [sumN_ad]
    congr 1
    · refine sumN_cg n fun i hi => ?_
      have b1 := hv i hi
      have b2 := hv _ (nxt_lt hi)
      exact cS_std (by omega) (by omega) (by show -1000 ≤ x ∧ x ≤ 1000; omega)
    · refine sumN_cg n fun i hi => ?_
      have b1 := hv i hi
      have b2 := hv _ (nxt_lt hi)
      exact cS_std2 (by omega) (by omega) (by show -1000 ≤ x ∧ x ≤ 1000; omega)
  rw [e1, bx_sm, sumN_cg (g := fun i => ((v i).1 * (v (nxt n i)).2 - (v i).2 * (v (nxt n i)).1) + ((v (nxt n i)).1 * (v (nxt n i)).2 - (v i).1 * (v i).2)) n fun i hi => ?_, sumN_ad, ring_sum (fun i => (v i).1 * (v i).2), Int.add_zero]
  have b1 := hv i hi
  have b2 := hv _ (nxt_lt hi)
  rw [edge_all b1.1 b2.1 b1.2 b2.2]
  grind
end AREA

