/-! Yard: points, ends of lines, polygons -/
theorem plX6 : plainName RX6 = true := by decide +kernel
/-- a yard's 30 cells -/
def yardAt (G : g_X) (P E : PL) (S : Nat → PL) (y : Nat) (h : g_hp) : Prop := h y = some (.inr (3, [.ref (y + 1), .ref (y + 5), .ref (y + 9), .ref (y + 10)])) ∧ (∃ g : Nat → Option Nat, h (y + 9) = some (aQ G 4 g) ∧ ∀ j, j < 4 → g j = some (y + 14 + 4 * j)) ∧ rowAt G 60 P (y + 1) h ∧ rowAt G 40 E (y + 5) h ∧ rowAt G 0 [] (y + 10) h ∧ ∀ j, j < 4 → rowAt G 16 (S j) (y + 14 + 4 * j) h
theorem yardAt.obj {G : g_X} {P E : PL} {S : Nat → PL} {y : Nat} {h : g_hp} (x : yardAt G P E S y h) : h y = some (.inr (3, [.ref (y + 1), .ref (y + 5), .ref (y + 9), .ref (y + 10)])) := x.1
theorem yardAt.pts {G : g_X} {P E : PL} {S : Nat → PL} {y : Nat} {h : g_hp} (x : yardAt G P E S y h) : rowAt G 60 P (y + 1) h := x.2.2.1
theorem yardAt.ens {G : g_X} {P E : PL} {S : Nat → PL} {y : Nat} {h : g_hp} (x : yardAt G P E S y h) : rowAt G 40 E (y + 5) h := x.2.2.2.1
theorem yardAt.pol {G : g_X} {P E : PL} {S : Nat → PL} {y : Nat} {h : g_hp} (x : yardAt G P E S y h) {j : Nat} (hj : j < 4) : rowAt G 16 (S j) (y + 14 + 4 * j) h := x.2.2.2.2.2 j hj
theorem yardAt.kept {G : g_X} {P E : PL} {S : Nat → PL} {y : Nat} {h h1 : g_hp} (x : yardAt G P E S y h) (k : ∀ a, y ≤ a → a < y + 30 → h1 a = h a) : yardAt G P E S y h1 := by
  obtain ⟨x1, ⟨g, x2, x3⟩, x4, x5, x6, x7⟩ := x
  exact ⟨(k _ (by omega) (by omega)).trans x1, ⟨g, (k _ (by omega) (by omega)).trans x2, x3⟩, x4.kept fun a _ _ => k a (by omega) (by omega), x5.kept fun a _ _ => k a (by omega) (by omega), x6.kept fun a _ _ => k a (by omega) (by omega), fun j hj => (x7 j hj).kept fun a _ _ => k a (by omega) (by omega)⟩
theorem yardAt.off {G : g_X} {P E : PL} {S : Nat → PL} {y b w : Nat} {h h1 : g_hp} (x : yardAt G P E S y h) (f : g_fr b w h h1) (d : y + 30 ≤ b ∨ b + w ≤ y) : yardAt G P E S y h1 := x.kept (fun c _ _ => f c (by omega))
/-- other points -/
theorem yardAt.wP {G : g_X} {P P2 E : PL} {S : Nat → PL} {y : Nat} {h h1 : g_hp} (x : yardAt G P E S y h) (r : rowAt G 60 P2 (y + 1) h1) (f : g_fr (y + 1) 4 h h1) : yardAt G P2 E S y h1 := by
  obtain ⟨x1, ⟨g, x2, x3⟩, x4, x5, x6, x7⟩ := x
  exact ⟨(f _ (by omega)).trans x1, ⟨g, (f _ (by omega)).trans x2, x3⟩, r, x5.off f (by omega), x6.off f (by omega), fun j hj => (x7 j hj).off f (by omega)⟩
theorem yardAt.wE {G : g_X} {P E E2 : PL} {S : Nat → PL} {y : Nat} {h h1 : g_hp} (x : yardAt G P E S y h) (r : rowAt G 40 E2 (y + 5) h1) (f : g_fr (y + 5) 4 h h1) : yardAt G P E2 S y h1 := by
  obtain ⟨x1, ⟨g, x2, x3⟩, x4, x5, x6, x7⟩ := x
  exact ⟨(f _ (by omega)).trans x1, ⟨g, (f _ (by omega)).trans x2, x3⟩, x4.off f (by omega), r, x6.off f (by omega), fun j hj => (x7 j hj).off f (by omega)⟩
/-- another polygon at place j -/
def uS (S : Nat → PL) (j : Nat) (L : PL) : Nat → PL := fun i => if i = j then L else S i
theorem uS_s {S : Nat → PL} {j : Nat} {L : PL} : uS S j L j = L := if_pos rfl
theorem uS_n {S : Nat → PL} {j i : Nat} {L : PL} (n : i ≠ j) : uS S j L i = S i := if_neg n
theorem yardAt.wS {G : g_X} {P E L : PL} {S : Nat → PL} {y j : Nat} (hj : j < 4) {h h1 : g_hp} (x : yardAt G P E S y h) (r : rowAt G 16 L (y + 14 + 4 * j) h1) (f : g_fr (y + 14 + 4 * j) 4 h h1) : yardAt G P E (uS S j L) y h1 := by
  obtain ⟨x1, ⟨g, x2, x3⟩, x4, x5, x6, x7⟩ := x
  refine ⟨(f _ (by omega)).trans x1, ⟨g, (f _ (by omega)).trans x2, x3⟩, x4.off f (by omega), x5.off f (by omega), x6.off f (by omega), fun i hi => ?_⟩
  by_cases c : i = j
  · subst c
    rw [uS_s]
    exact r
  · rw [uS_n c]
    exact (x7 i hi).off f (by omega)
section PYARD
variable {G : g_X} {P E : PL} {S : Nat → PL} {y : Nat} {h : g_hp}
set_option maxRecDepth 20000 in
theorem S_polygonAt (hy : yardAt G P E S y h) {j : Nat} (hj : j < 4) : Pure G mX6_polygonAt [.ref y, .int (iN j)] h (.ref (y + 14 + 4 * j)) := by
  obtain ⟨g, hq, hg⟩ := hy.2.1
  have hgj : va_rf (g ((j : Int)).toNat) = .ref (y + 14 + 4 * j) := by rw [Int.toNat_natCast, hg j hj]; rfl
  intro z
  refine run_of rfl plX6 rfl ?_
  refine e_iload_n dX6_polygonAt_0 rfl ?_
  refine e_if_lt (tgt := 22) ⟨by omega, by omega⟩ dX6_polygonAt_1 rfl (fun c_1 => ?_) (fun c_1 => ?_)
  · exact absurd c_1 (by omega)
  · refine e_iload_n dX6_polygonAt_4 rfl ?_
    refine e_aload_n dX6_polygonAt_5 rfl ?_
    refine e_getf fX6_23 hy.obj rfl dX6_polygonAt_6 ?_
    refine e_alenQ hq dX6_polygonAt_9 ?_
    refine e_icmp_ge (tgt := 22) ⟨by omega, by omega⟩ ⟨by omega, by omega⟩ dX6_polygonAt_10 rfl (fun c_10 => absurd c_10 (by omega)) (fun c_10 => ?_)
    refine e_aload_n dX6_polygonAt_13 rfl ?_
    refine e_getf fX6_23 hy.obj rfl dX6_polygonAt_14 ?_
    refine e_iload_n dX6_polygonAt_17 rfl ?_
    refine e_aaload hq (by omega) (by omega) rfl dX6_polygonAt_18 ?_
    rw [hgj]
    refine e_goto (tgt := 23) dX6_polygonAt_19 rfl ?_
    refine e_astore_n dX6_polygonAt_23 rfl ?_
    refine e_aload_n dX6_polygonAt_24 rfl ?_
    refine e_ifnonnull (tgt := 35) dX6_polygonAt_25 rfl ?_
    refine e_aload_n dX6_polygonAt_35 rfl ?_
    refine e_aret rfl dX6_polygonAt_36 (by decide) (by decide) ?_
    exact ⟨rfl, rfl, rfl⟩
abbrev isPt (P : PL) (i : Int) : Prop := 0 ≤ i ∧ i < P.length ∧ pM P i.toNat ≠ -1
set_option maxRecDepth 20000 in
theorem S_hasPoint (hy : yardAt G P E S y h) {i : Int} (hi : r32 i) : Pure G mX6_hasPoint [.ref y, .int (iN i)] h (.int (iN (bP (isPt P i)))) := by
  have h9 := hy.pts.1
  have i1 := hi.1
  have i2 := hi.2
  intro z
  refine run_of rfl plX6 rfl ?_
  refine e_iload_n dX6_hasPoint_0 rfl ?_
  refine e_if_lt (tgt := 31) ⟨by omega, by omega⟩ dX6_hasPoint_1 rfl (fun c_1 => ?_) (fun c_1 => ?_)
  · refine e_iconst dX6_hasPoint_31 ?_
    refine e_zret rfl (by first | exact Or.inl rfl | exact Or.inr rfl | exact bP_01 _) dX6_hasPoint_32 (by decide) (by decide) ?_
    first | exact ⟨by first | (rw [bP_t (show isPt P _ from ⟨by omega, by omega, by assumption⟩)]; done) | (rw [bP_t (show isPt P _ from ⟨by omega, by omega, by assumption⟩)]; rfl), rfl, rfl⟩ | exact ⟨by first | (rw [bP_f (show ¬ isPt P _ from fun w => absurd w.1 (by omega))]; done) | (rw [bP_f (show ¬ isPt P _ from fun w => absurd w.1 (by omega))]; rfl), rfl, rfl⟩ | exact ⟨by first | (rw [bP_f (show ¬ isPt P _ from fun w => absurd w.2.1 (by omega))]; done) | (rw [bP_f (show ¬ isPt P _ from fun w => absurd w.2.1 (by omega))]; rfl), rfl, rfl⟩ | exact ⟨by first | (rw [bP_f (show ¬ isPt P _ from fun w => w.2.2 (by assumption))]; done) | (rw [bP_f (show ¬ isPt P _ from fun w => w.2.2 (by assumption))]; rfl), rfl, rfl⟩
  · obtain ⟨j, rfl⟩ : ∃ j : Nat, i = (j : Int) := ⟨i.toNat, by omega⟩
    refine e_iload_n dX6_hasPoint_4 rfl ?_
    refine e_aload_n dX6_hasPoint_5 rfl ?_
    refine e_getf fX6_14 hy.obj rfl dX6_hasPoint_6 ?_
    refine e_pureV qcX6_30 hy.pts.obj rfl rfl (S_size hy.pts) rfl rfl rfl rfl dX6_hasPoint_9 ?_
    refine e_icmp_ge (tgt := 31) ⟨by omega, by omega⟩ ⟨by omega, by omega⟩ dX6_hasPoint_12 rfl (fun c_12 => ?_) (fun c_12 => ?_)
    · refine e_iconst dX6_hasPoint_31 ?_
      refine e_zret rfl (by first | exact Or.inl rfl | exact Or.inr rfl | exact bP_01 _) dX6_hasPoint_32 (by decide) (by decide) ?_
      first | exact ⟨by first | (rw [bP_t (show isPt P _ from ⟨by omega, by omega, by assumption⟩)]; done) | (rw [bP_t (show isPt P _ from ⟨by omega, by omega, by assumption⟩)]; rfl), rfl, rfl⟩ | exact ⟨by first | (rw [bP_f (show ¬ isPt P _ from fun w => absurd w.1 (by omega))]; done) | (rw [bP_f (show ¬ isPt P _ from fun w => absurd w.1 (by omega))]; rfl), rfl, rfl⟩ | exact ⟨by first | (rw [bP_f (show ¬ isPt P _ from fun w => absurd w.2.1 (by omega))]; done) | (rw [bP_f (show ¬ isPt P _ from fun w => absurd w.2.1 (by omega))]; rfl), rfl, rfl⟩ | exact ⟨by first | (rw [bP_f (show ¬ isPt P _ from fun w => w.2.2 (by assumption))]; done) | (rw [bP_f (show ¬ isPt P _ from fun w => w.2.2 (by assumption))]; rfl), rfl, rfl⟩
    · have hj : j < P.length := by omega
      have hb := (hy.pts.2.2.1.at hj).2.2
      refine e_aload_n dX6_hasPoint_15 rfl ?_
      refine e_getf fX6_14 hy.obj rfl dX6_hasPoint_16 ?_
      refine e_iload_n dX6_hasPoint_19 rfl ?_
      refine e_pureV qcX6_34 hy.pts.obj rfl rfl (S_markAt hy.pts hj) rfl rfl rfl rfl dX6_hasPoint_20 ?_
      refine e_iconst dX6_hasPoint_23 ?_
      refine e_icmp_eq (tgt := 31) ⟨by omega, by omega⟩ ⟨by omega, by omega⟩ dX6_hasPoint_24 rfl (fun c_24 => ?_) (fun c_24 => ?_)
      · refine e_iconst dX6_hasPoint_31 ?_
        refine e_zret rfl (by first | exact Or.inl rfl | exact Or.inr rfl | exact bP_01 _) dX6_hasPoint_32 (by decide) (by decide) ?_
        first | exact ⟨by first | (rw [bP_t (show isPt P _ from ⟨by omega, by omega, by assumption⟩)]; done) | (rw [bP_t (show isPt P _ from ⟨by omega, by omega, by assumption⟩)]; rfl), rfl, rfl⟩ | exact ⟨by first | (rw [bP_f (show ¬ isPt P _ from fun w => absurd w.1 (by omega))]; done) | (rw [bP_f (show ¬ isPt P _ from fun w => absurd w.1 (by omega))]; rfl), rfl, rfl⟩ | exact ⟨by first | (rw [bP_f (show ¬ isPt P _ from fun w => absurd w.2.1 (by omega))]; done) | (rw [bP_f (show ¬ isPt P _ from fun w => absurd w.2.1 (by omega))]; rfl), rfl, rfl⟩ | exact ⟨by first | (rw [bP_f (show ¬ isPt P _ from fun w => w.2.2 (by assumption))]; done) | (rw [bP_f (show ¬ isPt P _ from fun w => w.2.2 (by assumption))]; rfl), rfl, rfl⟩
      · refine e_iconst dX6_hasPoint_27 ?_
        refine e_goto (tgt := 32) dX6_hasPoint_28 rfl ?_
        refine e_zret rfl (by first | exact Or.inl rfl | exact Or.inr rfl | exact bP_01 _) dX6_hasPoint_32 (by decide) (by decide) ?_
        first | exact ⟨by first | (rw [bP_t (show isPt P _ from ⟨by omega, by omega, by assumption⟩)]; done) | (rw [bP_t (show isPt P _ from ⟨by omega, by omega, by assumption⟩)]; rfl), rfl, rfl⟩ | exact ⟨by first | (rw [bP_f (show ¬ isPt P _ from fun w => absurd w.1 (by omega))]; done) | (rw [bP_f (show ¬ isPt P _ from fun w => absurd w.1 (by omega))]; rfl), rfl, rfl⟩ | exact ⟨by first | (rw [bP_f (show ¬ isPt P _ from fun w => absurd w.2.1 (by omega))]; done) | (rw [bP_f (show ¬ isPt P _ from fun w => absurd w.2.1 (by omega))]; rfl), rfl, rfl⟩ | exact ⟨by first | (rw [bP_f (show ¬ isPt P _ from fun w => w.2.2 (by assumption))]; done) | (rw [bP_f (show ¬ isPt P _ from fun w => w.2.2 (by assumption))]; rfl), rfl, rfl⟩
/-- how many of the first n points are of a heap -/
def cntN (P : PL) (a : Int) : Nat → Nat
  | 0 => 0
  | n + 1 => cntN P a n + (if pM P n = a then 1 else 0)
theorem cntN_le (P : PL) (a : Int) : ∀ n, cntN P a n ≤ n
  | 0 => Nat.le_refl _
  | n + 1 => by
    have := cntN_le P a n
    unfold cntN
    split <;> omega
theorem cntN_t {P : PL} {a : Int} {n : Nat} (c : ¬ ¬ pM P n = a) : cntN P a (n + 1) = cntN P a n + 1 := congrArg (cntN P a n + ·) (if_pos (Decidable.of_not_not c))
theorem cntN_f {P : PL} {a : Int} {n : Nat} (c : ¬ pM P n = a) : cntN P a (n + 1) = cntN P a n := congrArg (cntN P a n + ·) (if_neg c)
set_option maxRecDepth 20000 in
theorem hs_loop {z : Option Nat} (hy : yardAt G P E S y h) {a : Int} (ha : r32 a) : ∀ (n i : Nat), i + n = P.length → Ev (g_B G mX6_heapSize 0 0 (fun o z1 h1 => o = .inl (some (.int (iN (cntN P a P.length : Nat)))) ∧ z1 = z ∧ h1 = h)) 0 0 z h 4 [(3, .int (iN i)), (2, .int (iN (cntN P a i : Nat))), (0, .ref y), (1, .int (iN a))] [] := by
  have h9 := hy.pts.1
  have a1 := ha.1
  have a2 := ha.2
  intro n
  induction n with
  | zero =>
    intro i hin
    have e9 : i = P.length := by omega
    rw [e9]
    refine e_iload_n dX6_heapSize_4 rfl ?_
    refine e_aload_n dX6_heapSize_5 rfl ?_
    refine e_getf fX6_14 hy.obj rfl dX6_heapSize_6 ?_
    refine e_pureV qcX6_30 hy.pts.obj rfl rfl (S_size hy.pts) rfl rfl rfl rfl dX6_heapSize_9 ?_
    refine e_icmp_ge (tgt := 36) ⟨by omega, by omega⟩ ⟨by omega, by omega⟩ dX6_heapSize_12 rfl (fun c_12 => ?_) (fun c_12 => absurd (by omega) c_12)
    refine e_iload_n dX6_heapSize_36 rfl ?_
    refine e_iret rfl dX6_heapSize_37 (by decide) (by decide) ?_
    exact ⟨rfl, rfl, rfl⟩
  | succ n ih =>
    intro i hin
    have hi : i < P.length := by omega
    have hb := (hy.pts.2.2.1.at hi).2.2
    have hc := cntN_le P a i
    refine e_iload_n dX6_heapSize_4 rfl ?_
    refine e_aload_n dX6_heapSize_5 rfl ?_
    refine e_getf fX6_14 hy.obj rfl dX6_heapSize_6 ?_
    refine e_pureV qcX6_30 hy.pts.obj rfl rfl (S_size hy.pts) rfl rfl rfl rfl dX6_heapSize_9 ?_
    refine e_icmp_ge (tgt := 36) ⟨by omega, by omega⟩ ⟨by omega, by omega⟩ dX6_heapSize_12 rfl (fun c_12 => absurd c_12 (by omega)) (fun c_12 => ?_)
    refine e_aload_n dX6_heapSize_15 rfl ?_
    refine e_getf fX6_14 hy.obj rfl dX6_heapSize_16 ?_
    refine e_iload_n dX6_heapSize_19 rfl ?_
    refine e_pureV qcX6_34 hy.pts.obj rfl rfl (S_markAt hy.pts hi) rfl rfl rfl rfl dX6_heapSize_20 ?_
    refine e_iload_n dX6_heapSize_23 rfl ?_
    refine e_icmp_ne (tgt := 30) ⟨by omega, by omega⟩ ⟨by omega, by omega⟩ dX6_heapSize_24 rfl (fun c_24 => ?_) (fun c_24 => ?_)
    · refine e_iinc dX6_heapSize_30 rfl ?_
      refine e_goto (tgt := 4) dX6_heapSize_33 rfl ?_
      first | exact e_loc [(3, .int (iN (i + 1 : Nat))), (2, .int (iN (cntN P a (i + 1) : Nat))), (0, .ref y), (1, .int (iN a))] ⟨rfl, by rw [cntN_t c_24]; rfl, rfl, rfl, trivial⟩ (ih (i + 1) (by omega)) | exact e_loc [(3, .int (iN (i + 1 : Nat))), (2, .int (iN (cntN P a (i + 1) : Nat))), (0, .ref y), (1, .int (iN a))] ⟨rfl, by rw [cntN_f c_24]; rfl, rfl, rfl, trivial⟩ (ih (i + 1) (by omega))
    · refine e_iinc dX6_heapSize_27 rfl ?_
      refine e_iinc dX6_heapSize_30 rfl ?_
      refine e_goto (tgt := 4) dX6_heapSize_33 rfl ?_
      first | exact e_loc [(3, .int (iN (i + 1 : Nat))), (2, .int (iN (cntN P a (i + 1) : Nat))), (0, .ref y), (1, .int (iN a))] ⟨rfl, by rw [cntN_t c_24]; rfl, rfl, rfl, trivial⟩ (ih (i + 1) (by omega)) | exact e_loc [(3, .int (iN (i + 1 : Nat))), (2, .int (iN (cntN P a (i + 1) : Nat))), (0, .ref y), (1, .int (iN a))] ⟨rfl, by rw [cntN_f c_24]; rfl, rfl, rfl, trivial⟩ (ih (i + 1) (by omega))
set_option maxRecDepth 20000 in
theorem S_heapSize (hy : yardAt G P E S y h) {a : Int} (ha : r32 a) : Pure G mX6_heapSize [.ref y, .int (iN a)] h (.int (iN (cntN P a P.length : Nat))) := by
  intro z
  refine run_of rfl plX6 rfl ?_
  refine e_iconst dX6_heapSize_0 ?_
  refine e_istore_n dX6_heapSize_1 rfl ?_
  refine e_iconst dX6_heapSize_2 ?_
  refine e_istore_n dX6_heapSize_3 rfl ?_
  exact e_loc [(3, .int (iN (0 : Nat))), (2, .int (iN (cntN P a 0 : Nat))), (0, .ref y), (1, .int (iN a))] ⟨rfl, rfl, rfl, rfl, trivial⟩ (hs_loop hy ha P.length 0 (by omega))
/-- the first n points of a heap put into a row, in order, with their numbers -/
def putN (P : PL) (a : Int) (R : PL) : Nat → PL
  | 0 => R
  | n + 1 => if pM P n = a then insE (putN P a R n) (pX P n, pY P n, (n : Int)) else putN P a R n
theorem putN_len (P : PL) (a : Int) (R : PL) : ∀ n, (putN P a R n).length = R.length + cntN P a n
  | 0 => rfl
  | n + 1 => by
    have := putN_len P a R n
    unfold putN cntN
    split
    · rw [insE_len]; omega
    · omega
set_option maxRecDepth 20000 in
theorem pi_loop {z : Option Nat} {N r : Nat} {R : PL} (hy : yardAt G P E S y h) {a : Int} (ha : r32 a) (hd : y + 30 ≤ r ∨ r + 4 ≤ y) (hl : R.length + cntN P a P.length ≤ N) : ∀ (n i : Nat) (h1 : g_hp), i + n = P.length → R.length + cntN P a i + cntN P a P.length ≤ N + cntN P a i → rowAt G N (putN P a R i) r h1 → g_fr r 4 h h1 → (∀ j, j ≤ P.length → cntN P a j ≤ cntN P a P.length) → Ev (g_B G mX6_putInOrder 0 0 (fun o z1 h1 => ∃ v, o = .inl v ∧ z1 = z ∧ (v = none ∧ rowAt G N (putN P a R P.length) r h1 ∧ g_fr r 4 h h1))) 0 0 z h1 2 [(3, .int (iN i)), (0, .ref y), (1, .int (iN a)), (2, .ref r)] [] := by
  have h9 := hy.pts.1
  have a1 := ha.1
  have a2 := ha.2
  intro n
  induction n with
  | zero =>
    intro i h1 hin h0 hr fr hm
    have e9 : i = P.length := by omega
    rw [e9] at hr
    have hy1 := hy.off fr hd
    refine e_iload_n dX6_putInOrder_2 rfl ?_
    refine e_aload_n dX6_putInOrder_3 rfl ?_
    refine e_getf fX6_14 hy1.obj rfl dX6_putInOrder_4 ?_
    refine e_pureV qcX6_30 hy1.pts.obj rfl rfl (S_size hy1.pts) rfl rfl rfl rfl dX6_putInOrder_7 ?_
    refine e_icmp_ge (tgt := 52) ⟨by omega, by omega⟩ ⟨by omega, by omega⟩ dX6_putInOrder_10 rfl (fun c_10 => ?_) (fun c_10 => absurd (by omega) c_10)
    refine e_vret rfl dX6_putInOrder_52 (by decide) (by decide) ?_
    exact ⟨none, rfl, rfl, rfl, hr, fr⟩
  | succ n ih =>
    intro i h1 hin h0 hr fr hm
    have hy1 := hy.off fr hd
    have hi : i < P.length := by omega
    have hb := hy.pts.2.2.1.at hi
    refine e_iload_n dX6_putInOrder_2 rfl ?_
    refine e_aload_n dX6_putInOrder_3 rfl ?_
    refine e_getf fX6_14 hy1.obj rfl dX6_putInOrder_4 ?_
    refine e_pureV qcX6_30 hy1.pts.obj rfl rfl (S_size hy1.pts) rfl rfl rfl rfl dX6_putInOrder_7 ?_
    refine e_icmp_ge (tgt := 52) ⟨by omega, by omega⟩ ⟨by omega, by omega⟩ dX6_putInOrder_10 rfl (fun c_10 => absurd c_10 (by omega)) (fun c_10 => ?_)
    refine e_aload_n dX6_putInOrder_13 rfl ?_
    refine e_getf fX6_14 hy1.obj rfl dX6_putInOrder_14 ?_
    refine e_iload_n dX6_putInOrder_17 rfl ?_
    refine e_pureV qcX6_34 hy1.pts.obj rfl rfl (S_markAt hy1.pts hi) rfl rfl rfl rfl dX6_putInOrder_18 ?_
    refine e_iload_n dX6_putInOrder_21 rfl ?_
    refine e_icmp_ne (tgt := 46) ⟨by omega, by omega⟩ ⟨by omega, by omega⟩ dX6_putInOrder_22 rfl (fun c_22 => ?_) (fun c_22 => ?_)
    · refine e_iinc dX6_putInOrder_46 rfl ?_
      refine e_goto (tgt := 2) dX6_putInOrder_49 rfl ?_
      first | exact e_loc [(3, .int (iN (i + 1 : Nat))), (0, .ref y), (1, .int (iN a)), (2, .ref r)] ⟨rfl, rfl, rfl, rfl, trivial⟩ (ih (i + 1) h2 (by omega) (by omega) ((show putN P a R (i + 1) = _ from if_pos (Decidable.of_not_not c_22)) ▸ g2) (fr.tr fr2) hm) | exact e_loc [(3, .int (iN (i + 1 : Nat))), (0, .ref y), (1, .int (iN a)), (2, .ref r)] ⟨rfl, rfl, rfl, rfl, trivial⟩ (ih (i + 1) h1 (by omega) (by omega) ((show putN P a R (i + 1) = _ from if_neg c_22) ▸ hr) fr hm)
    · have e7 := hm (i + 1) (by omega)
      rw [cntN_t c_22] at e7
      refine e_aload_n dX6_putInOrder_25 rfl ?_
      refine e_aload_n dX6_putInOrder_26 rfl ?_
      refine e_getf fX6_14 hy1.obj rfl dX6_putInOrder_27 ?_
      refine e_iload_n dX6_putInOrder_30 rfl ?_
      refine e_pureV qcX6_38 hy1.pts.obj rfl rfl (S_xAt hy1.pts hi) rfl rfl rfl rfl dX6_putInOrder_31 ?_
      refine e_aload_n dX6_putInOrder_34 rfl ?_
      refine e_getf fX6_14 hy1.obj rfl dX6_putInOrder_35 ?_
      refine e_iload_n dX6_putInOrder_38 rfl ?_
      refine e_pureV qcX6_41 hy1.pts.obj rfl rfl (S_yAt hy1.pts hi) rfl rfl rfl rfl dX6_putInOrder_39 ?_
      refine e_iload_n dX6_putInOrder_42 rfl ?_
      refine e_doesV qcX6_44 hr.obj rfl rfl (S_insertInOrder hr (by rw [putN_len]; omega) hb.1 hb.2.1 (show bd (i : Int) from ⟨by omega, by omega⟩)) rfl rfl rfl rfl dX6_putInOrder_43 ?_
      intro v h2 q2
      obtain ⟨rfl, g2, fr2⟩ := q2
      refine e_iinc dX6_putInOrder_46 rfl ?_
      refine e_goto (tgt := 2) dX6_putInOrder_49 rfl ?_
      first | exact e_loc [(3, .int (iN (i + 1 : Nat))), (0, .ref y), (1, .int (iN a)), (2, .ref r)] ⟨rfl, rfl, rfl, rfl, trivial⟩ (ih (i + 1) h2 (by omega) (by omega) ((show putN P a R (i + 1) = _ from if_pos (Decidable.of_not_not c_22)) ▸ g2) (fr.tr fr2) hm) | exact e_loc [(3, .int (iN (i + 1 : Nat))), (0, .ref y), (1, .int (iN a)), (2, .ref r)] ⟨rfl, rfl, rfl, rfl, trivial⟩ (ih (i + 1) h1 (by omega) (by omega) ((show putN P a R (i + 1) = _ from if_neg c_22) ▸ hr) fr hm)
theorem cntN_mono (P : PL) (a : Int) (i : Nat) : ∀ n, cntN P a i ≤ cntN P a (i + n)
  | 0 => Nat.le_refl _
  | n + 1 => Nat.le_trans (cntN_mono P a i n) (by show _ ≤ cntN P a (i + n) + _; omega)
set_option maxRecDepth 20000 in
theorem S_putInOrder {N r : Nat} {R : PL} (hy : yardAt G P E S y h) {a : Int} (ha : r32 a) (hd : y + 30 ≤ r ∨ r + 4 ≤ y) (hr : rowAt G N R r h) (hl : R.length + cntN P a P.length ≤ N) : Does G mX6_putInOrder [.ref y, .int (iN a), .ref r] h (fun v h1 => v = none ∧ rowAt G N (putN P a R P.length) r h1 ∧ g_fr r 4 h h1) := by
  intro z
  refine run_of rfl plX6 rfl ?_
  refine e_iconst dX6_putInOrder_0 ?_
  refine e_istore_n dX6_putInOrder_1 rfl ?_
  exact e_loc [(3, .int (iN (0 : Nat))), (0, .ref y), (1, .int (iN a)), (2, .ref r)] ⟨rfl, rfl, rfl, rfl, trivial⟩ (pi_loop hy ha hd hl P.length 0 h (by omega) (by omega) hr g_fr.rf (fun j hj => by have := cntN_mono P a j (P.length - j); rw [show j + (P.length - j) = P.length by omega] at this; exact this))
abbrev sqd (P : PL) (i j : Nat) : Int := (pX P j - pX P i) * (pX P j - pX P i) + (pY P j - pY P i) * (pY P j - pY P i)
theorem sqd_bd {P : PL} (hp : okL P) {i j : Nat} (hi : i < P.length) (hj : j < P.length) : 0 ≤ sqd P i j ∧ sqd P i j ≤ 32000000 := by
  have b1 := hp.at hi
  have b2 := hp.at hj
  have m1 := mul_bd (A := 4000) (B := 4000) (a := pX P j - pX P i) (b := pX P j - pX P i) ⟨by omega, by omega⟩ ⟨by omega, by omega⟩
  have m2 := mul_bd (A := 4000) (B := 4000) (a := pY P j - pY P i) (b := pY P j - pY P i) ⟨by omega, by omega⟩ ⟨by omega, by omega⟩
  have s1 : 0 ≤ (pX P j - pX P i) * (pX P j - pX P i) := by rcases Int.le_total 0 (pX P j - pX P i) with w | w; exact Int.mul_nonneg w w; exact Int.mul_nonneg_of_nonpos_of_nonpos w w
  have s2 : 0 ≤ (pY P j - pY P i) * (pY P j - pY P i) := by rcases Int.le_total 0 (pY P j - pY P i) with w | w; exact Int.mul_nonneg w w; exact Int.mul_nonneg_of_nonpos_of_nonpos w w
  show 0 ≤ (pX P j - pX P i) * (pX P j - pX P i) + (pY P j - pY P i) * (pY P j - pY P i) ∧ (pX P j - pX P i) * (pX P j - pX P i) + (pY P j - pY P i) * (pY P j - pY P i) ≤ 32000000
  generalize (pX P j - pX P i) * (pX P j - pX P i) = u at *
  generalize (pY P j - pY P i) * (pY P j - pY P i) = v at *
  omega
set_option maxRecDepth 20000 in
theorem S_squaredDistance (hy : yardAt G P E S y h) {i j : Nat} (hi : i < P.length) (hj : j < P.length) : Pure G mX6_squaredDistance [.ref y, .int (iN i), .int (iN j)] h (.int (iN (sqd P i j))) := by
  intro z
  refine run_of rfl plX6 rfl ?_
  refine e_aload_n dX6_squaredDistance_0 rfl ?_
  refine e_getf fX6_14 hy.obj rfl dX6_squaredDistance_1 ?_
  refine e_iload_n dX6_squaredDistance_4 rfl ?_
  refine e_pureV qcX6_38 hy.pts.obj rfl rfl (S_xAt hy.pts hj) rfl rfl rfl rfl dX6_squaredDistance_5 ?_
  refine e_aload_n dX6_squaredDistance_8 rfl ?_
  refine e_getf fX6_14 hy.obj rfl dX6_squaredDistance_9 ?_
  refine e_iload_n dX6_squaredDistance_12 rfl ?_
  refine e_pureV qcX6_38 hy.pts.obj rfl rfl (S_xAt hy.pts hi) rfl rfl rfl rfl dX6_squaredDistance_13 ?_
  refine e_isub dX6_squaredDistance_16 ?_
  refine e_istore_n dX6_squaredDistance_17 rfl ?_
  refine e_aload_n dX6_squaredDistance_18 rfl ?_
  refine e_getf fX6_14 hy.obj rfl dX6_squaredDistance_19 ?_
  refine e_iload_n dX6_squaredDistance_22 rfl ?_
  refine e_pureV qcX6_41 hy.pts.obj rfl rfl (S_yAt hy.pts hj) rfl rfl rfl rfl dX6_squaredDistance_23 ?_
  refine e_aload_n dX6_squaredDistance_26 rfl ?_
  refine e_getf fX6_14 hy.obj rfl dX6_squaredDistance_27 ?_
  refine e_iload_n dX6_squaredDistance_30 rfl ?_
  refine e_pureV qcX6_41 hy.pts.obj rfl rfl (S_yAt hy.pts hi) rfl rfl rfl rfl dX6_squaredDistance_31 ?_
  refine e_isub dX6_squaredDistance_34 ?_
  refine e_istore dX6_squaredDistance_35 rfl ?_
  refine e_iload_n dX6_squaredDistance_37 rfl ?_
  refine e_iload_n dX6_squaredDistance_38 rfl ?_
  refine e_imul dX6_squaredDistance_39 ?_
  refine e_iload dX6_squaredDistance_40 rfl ?_
  refine e_iload dX6_squaredDistance_42 rfl ?_
  refine e_imul dX6_squaredDistance_44 ?_
  refine e_iadd dX6_squaredDistance_45 ?_
  refine e_iret rfl dX6_squaredDistance_46 (by decide) (by decide) ?_
  exact ⟨rfl, rfl, rfl⟩
set_option maxRecDepth 20000 in
theorem S_lineCount (hy : yardAt G P E S y h) : Pure G mX6_lineCount [.ref y] h (.int (iN (E.length / 2 : Nat))) := by
  have h9 := hy.ens.1
  intro z
  refine run_of rfl plX6 rfl ?_
  refine e_aload_n dX6_lineCount_0 rfl ?_
  refine e_getf fX6_20 hy.obj rfl dX6_lineCount_1 ?_
  refine e_pureV qcX6_30 hy.ens.obj rfl rfl (S_size hy.ens) rfl rfl rfl rfl dX6_lineCount_4 ?_
  refine e_iconst dX6_lineCount_7 ?_
  refine e_idiv ⟨by omega, by omega⟩ ⟨by omega, by omega⟩ (by omega) dX6_lineCount_8 ?_
  rw [show ((E.length : Int)).tdiv 2 = ((E.length / 2 : Nat) : Int) from by rw [Int.tdiv_eq_ediv_of_nonneg (by omega)]; rfl]
  refine e_iret rfl dX6_lineCount_9 (by decide) (by decide) ?_
  exact ⟨rfl, rfl, rfl⟩
abbrev lmE (E : PL) (a b : Nat) : Prop := meet3 E (2 * a) (2 * a + 1) E (2 * b) (2 * b + 1)
set_option maxRecDepth 20000 in
theorem S_linesMeet (hy : yardAt G P E S y h) {a b : Nat} (ha : 2 * a + 1 < E.length) (hb : 2 * b + 1 < E.length) : Pure G mX6_linesMeet [.ref y, .int (iN a), .int (iN b)] h (.int (iN (bP (lmE E a b)))) := by
  intro z
  refine run_of rfl plX6 rfl ?_
  refine e_aload_n dX6_linesMeet_0 rfl ?_
  refine e_getf fX6_20 hy.obj rfl dX6_linesMeet_1 ?_
  refine e_iconst dX6_linesMeet_4 ?_
  refine e_iload_n dX6_linesMeet_5 rfl ?_
  refine e_imul dX6_linesMeet_6 ?_
  refine e_iconst dX6_linesMeet_7 ?_
  refine e_iload_n dX6_linesMeet_8 rfl ?_
  refine e_imul dX6_linesMeet_9 ?_
  refine e_iconst dX6_linesMeet_10 ?_
  refine e_iadd dX6_linesMeet_11 ?_
  refine e_aload_n dX6_linesMeet_12 rfl ?_
  refine e_getf fX6_20 hy.obj rfl dX6_linesMeet_13 ?_
  refine e_iconst dX6_linesMeet_16 ?_
  refine e_iload_n dX6_linesMeet_17 rfl ?_
  refine e_imul dX6_linesMeet_18 ?_
  refine e_iconst dX6_linesMeet_19 ?_
  refine e_iload_n dX6_linesMeet_20 rfl ?_
  refine e_imul dX6_linesMeet_21 ?_
  refine e_iconst dX6_linesMeet_22 ?_
  refine e_iadd dX6_linesMeet_23 ?_
  refine e_pureS qcX6_52 (S_meet hy.ens hy.ens (show 2 * a < E.length by omega) ha (show 2 * b < E.length by omega) hb) rfl rfl rfl rfl dX6_linesMeet_24 ?_
  refine e_zret rfl (by first | exact Or.inl rfl | exact Or.inr rfl | exact bP_01 _) dX6_linesMeet_27 (by decide) (by decide) ?_
  exact ⟨rfl, rfl, rfl⟩
end PYARD
