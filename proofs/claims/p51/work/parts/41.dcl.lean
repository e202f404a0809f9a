/-! The class's methods where nothing is thrown: what each answers, and what it leaves -/
section DCL
variable {G : g_X} {P E : PL} {S : Nat → PL} {b : Int} {P2 E2 : PL} {S2 : Nat → PL} {F L1 L2 H1 H2 : PL} {QL : PL} {QT : List Int} {qa : Int} {CA CB : PL} {o : Nat} {h0 h : g_hp}
set_option maxRecDepth 20000 in
theorem D_point (X : hsX G P E S b P2 E2 S2 F L1 L2 H1 H2 QL QT qa CA CB o h0 h) {a x y : Int} (c : ptC P a x y) : Run G mX7_point [.ref o, .int (iN a), .int (iN x), .int (iN y)] none h 1 6 (zK G (.inl (some (.int (iN ((P.length : Int)))))) (P ++ [(x, y, a)]) E S b P2 E2 S2 F o h0) := by
  have q := C_point X (a := a) (x := x) (y := y) ⟨by omega, by omega⟩ ⟨by omega, by omega⟩ ⟨by omega, by omega⟩
  have e1 : k_point P a x y = (0, (P.length : Int)) := by
    unfold k_point
    rw [if_pos c.1, if_pos c.2.1, if_pos c.2.2]
  have e2 : s_point P a x y = (P ++ [(x, y, a)]) := if_pos c
  rw [e1, e2] at q
  exact q
set_option maxRecDepth 20000 in
theorem D_corners (X : hsX G P E S b P2 E2 S2 F L1 L2 H1 H2 QL QT qa CA CB o h0 h)   : Run G mX7_corners [.ref o] none h 1 6 (zK G (.inl (some (.int (iN ((F.length : Int)))))) P E S b P2 E2 S2 F o h0) := by
  have q := C_corners X
  exact q
set_option maxRecDepth 20000 in
theorem D_corner (X : hsX G P E S b P2 E2 S2 F L1 L2 H1 H2 QL QT qa CA CB o h0 h) {k : Int} {u : Prop} [Decidable u] (c : crOK F k) (rk : r32 k) : Run G mX7_corner [.ref o, .int (iN k), .int (iN (bP u))] none h 1 6 (zK G (.inl (some (.int (iN (if u then pY F k.toNat else pX F k.toNat))))) P E S b P2 E2 S2 F o h0) := by
  have q := C_corner X rk (u := u)
  have e1 : k_corner F k u = (0, if u then pY F k.toNat else pX F k.toNat) := by
    unfold k_corner
    rw [if_pos c]
  rw [e1] at q
  exact q
set_option maxRecDepth 20000 in
theorem D_area (X : hsX G P E S b P2 E2 S2 F L1 L2 H1 H2 QL QT qa CA CB o h0 h)   : Run G mX7_area [.ref o] none h 1 6 (zK G (.inl (some (.int (iN (da F))))) P E S b P2 E2 S2 F o h0) := by
  have q := C_area X
  exact q
set_option maxRecDepth 20000 in
theorem D_edge (X : hsX G P E S b P2 E2 S2 F L1 L2 H1 H2 QL QT qa CA CB o h0 h)   : Run G mX7_edge [.ref o] none h 1 6 (zK G (.inl (some (.int (iN (k_edge F))))) P E S b P2 E2 S2 F o h0) := by
  have q := C_edge X
  exact q
set_option maxRecDepth 20000 in
theorem D_inner (X : hsX G P E S b P2 E2 S2 F L1 L2 H1 H2 QL QT qa CA CB o h0 h)   : Run G mX7_inner [.ref o] none h 1 6 (zK G (.inl (some (.int (iN (pin F))))) P E S b P2 E2 S2 F o h0) := by
  have q := C_inner X
  exact q
set_option maxRecDepth 20000 in
theorem D_lies (X : hsX G P E S b P2 E2 S2 F L1 L2 H1 H2 QL QT qa CA CB o h0 h) {x y : Int} (rx : r32 x) (ry : r32 y) : Run G mX7_lies [.ref o, .int (iN x), .int (iN y)] none h 1 6 (zK G (.inl (some (.int (iN (wI F 1 x y))))) P E S b P2 E2 S2 F o h0) := by
  have q := C_lies X rx ry
  exact q
set_option maxRecDepth 20000 in
theorem D_checksum (X : hsX G P E S b P2 E2 S2 F L1 L2 H1 H2 QL QT qa CA CB o h0 h)   : Run G mX7_checksum [.ref o] none h 1 6 (zK G (.inl (some (.int (iN (ckN F F.length))))) P E S b P2 E2 S2 F o h0) := by
  have q := C_checksum X
  exact q
set_option maxRecDepth 20000 in
theorem D_width (X : hsX G P E S b P2 E2 S2 F L1 L2 H1 H2 QL QT qa CA CB o h0 h) {u : Prop} [Decidable u] (c : 3 ≤ F.length) (hS : okS F) : Run G mX7_width [.ref o, .int (iN (bP u))] none h 1 6 (zK G (.inl (some (.long (lI (sqW F u))))) P E S b P2 E2 S2 F o h0) := by
  have q := C_width X (u := u) hS
  have e1 : k_width F u = (0, sqW F u) := by
    unfold k_width
    rw [if_neg (by omega)]
  rw [e1] at q
  exact q
set_option maxRecDepth 20000 in
theorem D_fills (X : hsX G P E S b P2 E2 S2 F L1 L2 H1 H2 QL QT qa CA CB o h0 h)  (hn : ¬ bxF F ≤ 0 → vf_n32 (FP.fdiv (FP.i2f (iN (da F))) (FP.i2f (iN (bxF F))))) : Run G mX7_fills [.ref o] none h 1 6 (zK G (.inl (some (.float (k_fills F)))) P E S b P2 E2 S2 F o h0) := by
  have q := C_fills X hn
  exact q
set_option maxRecDepth 20000 in
theorem D_hull (X : hsX G P E S b P2 E2 S2 F L1 L2 H1 H2 QL QT qa CA CB o h0 h) {a : Int} (c : hpOK a) (c2 : cntN P a P.length ≠ 0) : Run G mX7_hull [.ref o, .int (iN a)] none h 1 6 (zK G (.inl (some (.int (iN (((wrapN 61 (putN P a [] P.length)).length : Int)))))) P E S b P2 E2 S2 (wrapN 61 (putN P a [] P.length)) o h0) := by
  have q := C_hull X (a := a) ⟨by omega, by omega⟩
  have e1 : k_hull P a = (0, ((wrapN 61 (putN P a [] P.length)).length : Int)) := by
    unfold k_hull
    rw [if_pos c, if_pos c2]
  have e2 : s_hull P a F = (wrapN 61 (putN P a [] P.length)) := if_pos ⟨c, c2⟩
  rw [e1, e2] at q
  exact q
set_option maxRecDepth 20000 in
theorem D_join (X : hsX G P E S b P2 E2 S2 F L1 L2 H1 H2 QL QT qa CA CB o h0 h) {a b1 : Int} (c : hp2 a b1) (c2 : fl2 P a b1) : Run G mX7_join [.ref o, .int (iN a), .int (iN b1)] none h 1 6 (zK G (.inl (some (.int (iN (((wrapN 61 (jnL P a b1)).length : Int)))))) P E S b P2 E2 S2 (wrapN 61 (jnL P a b1)) o h0) := by
  have q := C_join X (a := a) (b1 := b1) ⟨by omega, by omega⟩ ⟨by omega, by omega⟩
  have e1 : k_join P a b1 = (0, ((wrapN 61 (jnL P a b1)).length : Int)) := by
    unfold k_join
    rw [if_pos c, if_pos c2]
  have e2 : s_join P a b1 F = (wrapN 61 (jnL P a b1)) := if_pos ⟨c, c2⟩
  rw [e1, e2] at q
  exact q
set_option maxRecDepth 20000 in
theorem D_sum (X : hsX G P E S b P2 E2 S2 F L1 L2 H1 H2 QL QT qa CA CB o h0 h) {a b1 : Int} (c : hp2 a b1) (c2 : fl2 P a b1) (hh : ∀ v, cntN P v P.length ≠ 0 → okH (wrapN 61 (putN P v [] P.length)) ∧ 0 < (wrapN 61 (putN P v [] P.length)).length) : Run G mX7_sum [.ref o, .int (iN a), .int (iN b1)] none h 1 6 (zK G (.inl (some (.int (iN (((smL P a b1).length : Int)))))) P E S b P2 E2 S2 (smL P a b1) o h0) := by
  have q := C_sum X (a := a) (b1 := b1) ⟨by omega, by omega⟩ ⟨by omega, by omega⟩ hh
  have e1 : k_sum P a b1 = (0, ((smL P a b1).length : Int)) := by
    unfold k_sum
    rw [if_pos c, if_pos c2]
  have e2 : s_sum P a b1 F = (smL P a b1) := if_pos ⟨c, c2⟩
  rw [e1, e2] at q
  exact q
set_option maxRecDepth 20000 in
theorem D_layers (X : hsX G P E S b P2 E2 S2 F L1 L2 H1 H2 QL QT qa CA CB o h0 h) {a : Int} (c : hpOK a) : Run G mX7_layers [.ref o, .int (iN a)] none h 1 6 (zK G (.inl (some (.int (iN ((lyC 60 (putN P a [] P.length) : Int)))))) P E S b P2 E2 S2 F o h0) := by
  have q := C_layers X (a := a) ⟨by omega, by omega⟩
  have e1 : k_layers P a = (0, (lyC 60 (putN P a [] P.length) : Int)) := by
    unfold k_layers
    rw [if_pos c]
  rw [e1] at q
  exact q
set_option maxRecDepth 20000 in
theorem D_layer (X : hsX G P E S b P2 E2 S2 F L1 L2 H1 H2 QL QT qa CA CB o h0 h) {a l : Int} (c : hpOK a) (rl : r32 l) (c2 : 0 ≤ l ∧ (lyL P a l).length ≠ 0) : Run G mX7_layer [.ref o, .int (iN a), .int (iN l)] none h 1 6 (zK G (.inl (some (.int (iN (((wrapN 61 (lyL P a l)).length : Int)))))) P E S b P2 E2 S2 (wrapN 61 (lyL P a l)) o h0) := by
  have q := C_layer X (a := a) (l := l) ⟨by omega, by omega⟩ rl
  have e1 : k_layer P a l = (0, ((wrapN 61 (lyL P a l)).length : Int)) := by
    unfold k_layer
    rw [if_pos c, if_pos c2]
  have e2 : s_layer P a l F = (wrapN 61 (lyL P a l)) := if_pos ⟨c, c2⟩
  rw [e1, e2] at q
  exact q
set_option maxRecDepth 20000 in
theorem D_hullOf (X : hsX G P E S b P2 E2 S2 F L1 L2 H1 H2 QL QT qa CA CB o h0 h) {j : Int} (c : pgOK j) (c2 : (S j.toNat).length ≠ 0) : Run G mX7_hullOf [.ref o, .int (iN j)] none h 1 6 (zK G (.inl (some (.int (iN (((wrapN 61 (hoL (S j.toNat))).length : Int)))))) P E S b P2 E2 S2 (wrapN 61 (hoL (S j.toNat))) o h0) := by
  have q := C_hullOf X (j := j) ⟨by omega, by omega⟩
  have e1 : k_hullOf S j = (0, ((wrapN 61 (hoL (S j.toNat))).length : Int)) := by
    unfold k_hullOf
    rw [if_pos c, if_pos c2]
  have e2 : s_hullOf S j F = (wrapN 61 (hoL (S j.toNat))) := if_pos ⟨c, c2⟩
  rw [e1, e2] at q
  exact q
set_option maxRecDepth 20000 in
theorem D_pair (X : hsX G P E S b P2 E2 S2 F L1 L2 H1 H2 QL QT qa CA CB o h0 h) {a : Int} {u : Prop} [Decidable u] (c : hpOK a) (c2 : 2 ≤ cntN P a P.length) : Run G mX7_pair [.ref o, .int (iN a), .int (iN (bP u))] none h 1 6 (zK G (.inl (some (.int (iN ((exI P a u P.length).1))))) P E S b P2 E2 S2 F o h0) := by
  have q := C_pair X (a := a) ⟨by omega, by omega⟩ (u := u)
  have e1 : k_pair P a u = (0, (exI P a u P.length).1) := by
    unfold k_pair
    rw [if_pos c, if_pos c2]
  rw [e1] at q
  exact q
set_option maxRecDepth 20000 in
theorem D_distance (X : hsX G P E S b P2 E2 S2 F L1 L2 H1 H2 QL QT qa CA CB o h0 h) {a : Int} {u : Prop} [Decidable u] (c : hpOK a) (c2 : 2 ≤ cntN P a P.length) (hh : 0 ≤ (exI P a u P.length).1 ∧ (exI P a u P.length).1 ≤ 10000 ∧ exT P a u / 100 < P.length ∧ exT P a u % 100 < P.length) : Run G mX7_distance [.ref o, .int (iN a), .int (iN (bP u))] none h 1 6 (zK G (.inl (some (.int (iN (sqd P (exT P a u / 100) (exT P a u % 100)))))) P E S b P2 E2 S2 F o h0) := by
  have q := C_distance X (a := a) ⟨by omega, by omega⟩ (u := u) (fun _ => hh)
  have e1 : k_distance P a u = (0, sqd P (exT P a u / 100) (exT P a u % 100)) := by
    unfold k_distance
    rw [if_pos c, if_pos c2]
  rw [e1] at q
  exact q
set_option maxRecDepth 20000 in
theorem D_box (X : hsX G P E S b P2 E2 S2 F L1 L2 H1 H2 QL QT qa CA CB o h0 h) {a w : Int} (c : hpOK a) (cw : 0 ≤ w ∧ w ≤ 3) (c2 : cntN P a P.length ≠ 0) : Run G mX7_box [.ref o, .int (iN a), .int (iN w)] none h 1 6 (zK G (.inl (some (.int (iN (bnd (putN P a [] P.length) w.toNat (putN P a [] P.length).length))))) P E S b P2 E2 S2 F o h0) := by
  have q := C_box X (a := a) (w := w) ⟨by omega, by omega⟩ ⟨by omega, by omega⟩
  have e1 : k_box P a w = (0, bnd (putN P a [] P.length) w.toNat (putN P a [] P.length).length) := by
    unfold k_box
    rw [if_pos c, if_pos cw, if_pos c2]
  rw [e1] at q
  exact q
set_option maxRecDepth 20000 in
theorem D_count (X : hsX G P E S b P2 E2 S2 F L1 L2 H1 H2 QL QT qa CA CB o h0 h) {a : Int} (c : hpOK a) : Run G mX7_count [.ref o, .int (iN a)] none h 1 6 (zK G (.inl (some (.int (iN ((cntN P a P.length : Int)))))) P E S b P2 E2 S2 F o h0) := by
  have q := C_count X (a := a) ⟨by omega, by omega⟩
  have e1 : k_count P a = (0, (cntN P a P.length : Int)) := by
    unfold k_count
    rw [if_pos c]
  rw [e1] at q
  exact q
set_option maxRecDepth 20000 in
theorem D_fence (X : hsX G P E S b P2 E2 S2 F L1 L2 H1 H2 QL QT qa CA CB o h0 h) {a p : Int} (c : hpOK a) (c2 : 1 ≤ p) (rp : r32 p) (c3 : p ≤ (putN P a [] P.length).length) : Run G mX7_fence [.ref o, .int (iN a), .int (iN p)] none h 1 6 (zK G (.inl (some (.int (iN (fnO (putN P a [] P.length) p.toNat (putN P a [] P.length).length))))) P E S b P2 E2 S2 F o h0) := by
  have q := C_fence X (a := a) (p := p) ⟨by omega, by omega⟩ rp
  have e1 : k_fence P a p = (0, fnO (putN P a [] P.length) p.toNat (putN P a [] P.length).length) := by
    unfold k_fence
    rw [if_pos c, if_pos c2, if_pos c3]
  rw [e1] at q
  exact q
set_option maxRecDepth 20000 in
theorem D_places (X : hsX G P E S b P2 E2 S2 F L1 L2 H1 H2 QL QT qa CA CB o h0 h) {a : Int} (c : hpOK a) : Run G mX7_places [.ref o, .int (iN a)] none h 1 6 (zK G (.inl (some (.int (iN ((plN (putN P a [] P.length) (putN P a [] P.length).length : Int)))))) P E S b P2 E2 S2 F o h0) := by
  have q := C_places X (a := a) ⟨by omega, by omega⟩
  have e1 : k_places P a = (0, (plN (putN P a [] P.length) (putN P a [] P.length).length : Int)) := by
    unfold k_places
    rw [if_pos c]
  rw [e1] at q
  exact q
set_option maxRecDepth 20000 in
theorem D_sorted (X : hsX G P E S b P2 E2 S2 F L1 L2 H1 H2 QL QT qa CA CB o h0 h) {a p : Int} (c : hpOK a) (rp : r32 p) (c2 : crOK (putN P a [] P.length) p) : Run G mX7_sorted [.ref o, .int (iN a), .int (iN p)] none h 1 6 (zK G (.inl (some (.int (iN (pM (putN P a [] P.length) p.toNat))))) P E S b P2 E2 S2 F o h0) := by
  have q := C_sorted X (a := a) (p := p) ⟨by omega, by omega⟩ rp
  have e1 : k_sorted P a p = (0, pM (putN P a [] P.length) p.toNat) := by
    unfold k_sorted
    rw [if_pos c, if_pos c2]
  rw [e1] at q
  exact q
set_option maxRecDepth 20000 in
theorem D_turn (X : hsX G P E S b P2 E2 S2 F L1 L2 H1 H2 QL QT qa CA CB o h0 h) {i j l : Int} (c1 : isPt P i) (c2 : isPt P j) (c3 : isPt P l) (r1 : r32 i) (r2 : r32 j) (r3 : r32 l) : Run G mX7_turn [.ref o, .int (iN i), .int (iN j), .int (iN l)] none h 1 6 (zK G (.inl (some (.int (iN (sd3 P i.toNat j.toNat P l.toNat))))) P E S b P2 E2 S2 F o h0) := by
  have q := C_turn X r1 r2 r3
  have e1 : k_turn P i j l = (0, sd3 P i.toNat j.toNat P l.toNat) := by
    unfold k_turn
    rw [if_pos c1, if_pos c2, if_pos c3]
  rw [e1] at q
  exact q
set_option maxRecDepth 20000 in
theorem D_pointOf (X : hsX G P E S b P2 E2 S2 F L1 L2 H1 H2 QL QT qa CA CB o h0 h) {i w : Int} (c : isPt P i) (ri : r32 i) (cw : w = 1 ∨ w = 2) : Run G mX7_pointOf [.ref o, .int (iN i), .int (iN w)] none h 1 6 (zK G (.inl (some (.int (iN (if w = 1 then pX P i.toNat else pY P i.toNat))))) P E S b P2 E2 S2 F o h0) := by
  have q := C_pointOf X (i := i) (w := w) ri ⟨by omega, by omega⟩
  have e1 : k_pointOf P i w = (0, if w = 1 then pX P i.toNat else pY P i.toNat) := by
    unfold k_pointOf
    rw [if_pos c, if_neg (by omega)]
    rcases cw with rfl | rfl
    · rfl
    · rfl
  rw [e1] at q
  exact q
set_option maxRecDepth 20000 in
theorem D_apart (X : hsX G P E S b P2 E2 S2 F L1 L2 H1 H2 QL QT qa CA CB o h0 h) {a b1 : Int} (c : hp2 a b1) (c2 : fl2 P a b1) : Run G mX7_apart [.ref o, .int (iN a), .int (iN b1)] none h 1 6 (zK G (.inl (some (.int (iN (bC (¬ tch (wrapN 61 (putN P a [] P.length)) (wrapN 61 (putN P b1 [] P.length)))))))) P E S b P2 E2 S2 F o h0) := by
  have q := C_apart X (a := a) (b1 := b1) ⟨by omega, by omega⟩ ⟨by omega, by omega⟩
  have e1 : k_apart P a b1 = (0, bC (¬ tch (wrapN 61 (putN P a [] P.length)) (wrapN 61 (putN P b1 [] P.length)))) := by
    unfold k_apart
    rw [if_pos c, if_pos c2]
  rw [e1] at q
  exact q
set_option maxRecDepth 20000 in
theorem D_add (X : hsX G P E S b P2 E2 S2 F L1 L2 H1 H2 QL QT qa CA CB o h0 h) {j x y : Int} (c : adC S j x y) : Run G mX7_add [.ref o, .int (iN j), .int (iN x), .int (iN y)] none h 1 6 (zK G (.inl (some (.int (iN (((S j.toNat).length : Int) + 1))))) P E (uS S j.toNat ((S j.toNat) ++ [(x, y, ((S j.toNat).length : Int))])) b P2 E2 S2 F o h0) := by
  have q := C_add X (j := j) (x := x) (y := y) ⟨by omega, by omega⟩ ⟨by omega, by omega⟩ ⟨by omega, by omega⟩
  have e1 : k_add S j x y = (0, ((S j.toNat).length : Int) + 1) := by
    unfold k_add
    rw [if_pos c.1, if_pos c.2.1, if_pos c.2.2]
  have e2 : s_add S j x y = (uS S j.toNat ((S j.toNat) ++ [(x, y, ((S j.toNat).length : Int))])) := if_pos c
  rw [e1, e2] at q
  exact q
set_option maxRecDepth 20000 in
theorem D_clear (X : hsX G P E S b P2 E2 S2 F L1 L2 H1 H2 QL QT qa CA CB o h0 h) {j : Int} (c : pgOK j) : Run G mX7_clear [.ref o, .int (iN j)] none h 1 6 (zK G (.inl (some (.int (iN (((S j.toNat).length : Int)))))) P E (uS S j.toNat []) b P2 E2 S2 F o h0) := by
  have q := C_clear X (j := j) ⟨by omega, by omega⟩
  have e1 : k_clear S j = (0, ((S j.toNat).length : Int)) := by
    unfold k_clear
    rw [if_pos c]
  have e2 : s_clear S j = (uS S j.toNat []) := if_pos c
  rw [e1, e2] at q
  exact q
set_option maxRecDepth 20000 in
theorem D_isSimple (X : hsX G P E S b P2 E2 S2 F L1 L2 H1 H2 QL QT qa CA CB o h0 h) {j : Int} (c : pgOK j) : Run G mX7_isSimple [.ref o, .int (iN j)] none h 1 6 (zK G (.inl (some (.int (iN (bC (closes (S j.toNat))))))) P E S b P2 E2 S2 F o h0) := by
  have q := C_isSimple X (j := j) ⟨by omega, by omega⟩
  have e1 : k_isSimple S j = (0, bC (closes (S j.toNat))) := by
    unfold k_isSimple
    rw [if_pos c]
  rw [e1] at q
  exact q
set_option maxRecDepth 20000 in
theorem D_polygonArea (X : hsX G P E S b P2 E2 S2 F L1 L2 H1 H2 QL QT qa CA CB o h0 h) {j : Int} (c : pgOK j) : Run G mX7_polygonArea [.ref o, .int (iN j)] none h 1 6 (zK G (.inl (some (.int (iN (da (S j.toNat)))))) P E S b P2 E2 S2 F o h0) := by
  have q := C_polygonArea X (j := j) ⟨by omega, by omega⟩
  have e1 : k_polygonArea S j = (0, da (S j.toNat)) := by
    unfold k_polygonArea
    rw [if_pos c]
  rw [e1] at q
  exact q
set_option maxRecDepth 20000 in
theorem D_polygonEdge (X : hsX G P E S b P2 E2 S2 F L1 L2 H1 H2 QL QT qa CA CB o h0 h) {j : Int} (c : pgOK j) (c2 : closes (S j.toNat)) : Run G mX7_polygonEdge [.ref o, .int (iN j)] none h 1 6 (zK G (.inl (some (.int (iN (srd (S j.toNat)))))) P E S b P2 E2 S2 F o h0) := by
  have q := C_polygonEdge X (j := j) ⟨by omega, by omega⟩
  have e1 : k_polygonEdge S j = (0, srd (S j.toNat)) := by
    unfold k_polygonEdge
    rw [if_pos c, cif_t c2]
  rw [e1] at q
  exact q
set_option maxRecDepth 20000 in
theorem D_polygonInner (X : hsX G P E S b P2 E2 S2 F L1 L2 H1 H2 QL QT qa CA CB o h0 h) {j : Int} (c : pgOK j) (c2 : closes (S j.toNat)) : Run G mX7_polygonInner [.ref o, .int (iN j)] none h 1 6 (zK G (.inl (some (.int (iN (pin (S j.toNat)))))) P E S b P2 E2 S2 F o h0) := by
  have q := C_polygonInner X (j := j) ⟨by omega, by omega⟩
  have e1 : k_polygonInner S j = (0, pin (S j.toNat)) := by
    unfold k_polygonInner
    rw [if_pos c, cif_t c2]
  rw [e1] at q
  exact q
set_option maxRecDepth 20000 in
theorem D_triangles (X : hsX G P E S b P2 E2 S2 F L1 L2 H1 H2 QL QT qa CA CB o h0 h) {j : Int} (c : pgOK j) (c2 : closes (S j.toNat)) : Run G mX7_triangles [.ref o, .int (iN j)] none h 1 6 (zK G (.inl (some (.int (iN (((parD (S j.toNat)).2.1.length : Int)))))) P E S b P2 E2 S2 F o h0) := by
  have q := C_triangles X (j := j) ⟨by omega, by omega⟩
  have e1 : k_triangles S j = (0, ((parD (S j.toNat)).2.1.length : Int)) := by
    unfold k_triangles
    rw [if_pos c, cif_t c2]
  rw [e1] at q
  exact q
set_option maxRecDepth 20000 in
theorem D_polygonLies (X : hsX G P E S b P2 E2 S2 F L1 L2 H1 H2 QL QT qa CA CB o h0 h) {j x y : Int} (c : pgOK j) (c2 : closes (S j.toNat)) (rx : r32 x) (ry : r32 y) : Run G mX7_polygonLies [.ref o, .int (iN j), .int (iN x), .int (iN y)] none h 1 6 (zK G (.inl (some (.int (iN (wI (S j.toNat) 1 x y))))) P E S b P2 E2 S2 F o h0) := by
  have q := C_polygonLies X (j := j) ⟨by omega, by omega⟩ rx ry
  have e1 : k_polygonLies S j x y = (0, wI (S j.toNat) 1 x y) := by
    unfold k_polygonLies
    rw [if_pos c, cif_t c2]
  rw [e1] at q
  exact q
set_option maxRecDepth 20000 in
theorem D_holds (X : hsX G P E S b P2 E2 S2 F L1 L2 H1 H2 QL QT qa CA CB o h0 h) {j a : Int} (c : pgOK j) (c3 : hpOK a) (c2 : closes (S j.toNat)) : Run G mX7_holds [.ref o, .int (iN j), .int (iN a)] none h 1 6 (zK G (.inl (some (.int (iN ((hdN P (S j.toNat) a P.length : Int)))))) P E S b P2 E2 S2 F o h0) := by
  have q := C_holds X (j := j) (a := a) ⟨by omega, by omega⟩ ⟨by omega, by omega⟩
  have e1 : k_holds P S j a = (0, (hdN P (S j.toNat) a P.length : Int)) := by
    unfold k_holds
    rw [if_pos c, if_pos c3, cif_t c2]
  rw [e1] at q
  exact q
set_option maxRecDepth 20000 in
theorem D_triangleAt (X : hsX G P E S b P2 E2 S2 F L1 L2 H1 H2 QL QT qa CA CB o h0 h) {j t : Int} (c : pgOK j) (c2 : closes (S j.toNat)) (c3 : 0 ≤ t ∧ t < (parD (S j.toNat)).2.1.length) (rt : r32 t) : Run G mX7_triangleAt [.ref o, .int (iN j), .int (iN t)] none h 1 6 (zK G (.inl (some (.int (iN ((parD (S j.toNat)).2.1.getD t.toNat 0))))) P E S b P2 E2 S2 F o h0) := by
  have q := C_triangleAt X (j := j) (t := t) ⟨by omega, by omega⟩ rt
  have e1 : k_triangleAt S j t = (0, (parD (S j.toNat)).2.1.getD t.toNat 0) := by
    unfold k_triangleAt
    rw [if_pos c, cif_t c2, if_pos c3]
  rw [e1] at q
  exact q
set_option maxRecDepth 20000 in
theorem D_sees (X : hsX G P E S b P2 E2 S2 F L1 L2 H1 H2 QL QT qa CA CB o h0 h) {j k l : Int} (c : pgOK j) (c3 : crOK (S j.toNat) k) (c4 : crOK (S j.toNat) l) (c2 : closes (S j.toNat)) (rk : r32 k) (rl : r32 l) : Run G mX7_sees [.ref o, .int (iN j), .int (iN k), .int (iN l)] none h 1 6 (zK G (.inl (some (.int (iN (bC (opn (S j.toNat) k.toNat l.toNat)))))) P E S b P2 E2 S2 F o h0) := by
  have q := C_sees X (j := j) ⟨by omega, by omega⟩ rk rl
  have e1 : k_sees S j k l = (0, bC (opn (S j.toNat) k.toNat l.toNat)) := by
    unfold k_sees
    rw [if_pos c, if_pos c3, if_pos c4, cif_t c2]
  rw [e1] at q
  exact q
set_option maxRecDepth 20000 in
theorem D_view (X : hsX G P E S b P2 E2 S2 F L1 L2 H1 H2 QL QT qa CA CB o h0 h) {j k : Int} (c : pgOK j) (c3 : crOK (S j.toNat) k) (c2 : closes (S j.toNat)) (rk : r32 k) : Run G mX7_view [.ref o, .int (iN j), .int (iN k)] none h 1 6 (zK G (.inl (some (.int (iN ((vwN (S j.toNat) k.toNat (S j.toNat).length : Int)))))) P E S b P2 E2 S2 F o h0) := by
  have q := C_view X (j := j) ⟨by omega, by omega⟩ rk
  have e1 : k_view S j k = (0, (vwN (S j.toNat) k.toNat (S j.toNat).length : Int)) := by
    unfold k_view
    rw [if_pos c, if_pos c3, cif_t c2]
  rw [e1] at q
  exact q
set_option maxRecDepth 20000 in
theorem D_line (X : hsX G P E S b P2 E2 S2 F L1 L2 H1 H2 QL QT qa CA CB o h0 h) {x y u v : Int} (c : lnC E x y u v) (ev : E.length % 2 = 0) : Run G mX7_line [.ref o, .int (iN x), .int (iN y), .int (iN u), .int (iN v)] none h 1 6 (zK G (.inl (some (.int (iN (((E.length / 2 : Nat) : Int)))))) P ((E ++ [(x, y, 0)]) ++ [(u, v, 0)]) S b P2 E2 S2 F o h0) := by
  have q := C_line X (x := x) (y := y) (u := u) (v := v) ⟨by omega, by omega⟩ ⟨by omega, by omega⟩ ⟨by omega, by omega⟩ ⟨by omega, by omega⟩ ev
  have e1 : k_line E x y u v = (0, ((E.length / 2 : Nat) : Int)) := by
    unfold k_line
    rw [if_pos c.1, if_pos c.2.1, if_pos c.2.2]
  have e2 : s_line E x y u v = ((E ++ [(x, y, 0)]) ++ [(u, v, 0)]) := if_pos c
  rw [e1, e2] at q
  exact q
set_option maxRecDepth 20000 in
theorem D_clearLines (X : hsX G P E S b P2 E2 S2 F L1 L2 H1 H2 QL QT qa CA CB o h0 h)   : Run G mX7_clearLines [.ref o] none h 1 6 (zK G (.inl (some (.int (iN (((E.length / 2 : Nat) : Int)))))) P ([]) S b P2 E2 S2 F o h0) := by
  have q := C_clearLines X
  exact q
set_option maxRecDepth 20000 in
theorem D_cross (X : hsX G P E S b P2 E2 S2 F L1 L2 H1 H2 QL QT qa CA CB o h0 h) {l m : Int} (c : lnOK E l) (c2 : lnOK E m) (rl : r32 l) (rm : r32 m) : Run G mX7_cross [.ref o, .int (iN l), .int (iN m)] none h 1 6 (zK G (.inl (some (.int (iN (bP (lmE E l.toNat m.toNat)))))) P E S b P2 E2 S2 F o h0) := by
  have q := C_cross X rl rm
  have e1 : k_cross E l m = (0, bP (lmE E l.toNat m.toNat)) := by
    unfold k_cross
    rw [if_pos c, if_pos c2]
  rw [e1] at q
  exact q
set_option maxRecDepth 20000 in
theorem D_crossings (X : hsX G P E S b P2 E2 S2 F L1 L2 H1 H2 QL QT qa CA CB o h0 h)   : Run G mX7_crossings [.ref o] none h 1 6 (zK G (.inl (some (.int (iN ((coN E (E.length / 2) : Int)))))) P E S b P2 E2 S2 F o h0) := by
  have q := C_crossings X
  exact q
set_option maxRecDepth 20000 in
theorem D_crossingAt (X : hsX G P E S b P2 E2 S2 F L1 L2 H1 H2 QL QT qa CA CB o h0 h) {p v : Int} (rp : r32 p) (c : k_crossingAt E p = (0, v)) : Run G mX7_crossingAt [.ref o, .int (iN p)] none h 1 6 (zK G (.inl (some (.int (iN (v))))) P E S b P2 E2 S2 F o h0) := by
  have q := C_crossingAt X rp
  have e1 : k_crossingAt E p = (0, v) := by
    exact c
  rw [e1] at q
  exact q
set_option maxRecDepth 20000 in
theorem D_image (X : hsX G P E S b P2 E2 S2 F L1 L2 H1 H2 QL QT qa CA CB o h0 h)   : Run G mX7_image [.ref o] none h 1 6 (zK G (.inl (some (.int (iN ((P.length : Int)))))) P E S (1) (P) (E) (S) F o h0) := by
  have q := C_image X
  exact q
set_option maxRecDepth 20000 in
theorem D_restore (X : hsX G P E S 1 P2 E2 S2 F L1 L2 H1 H2 QL QT qa CA CB o h0 h) : Run G mX7_restore [.ref o] none h 1 6 (zK G (.inl (some (.int (iN (P2.length : Int))))) P2 E2 S2 1 P2 E2 S2 F o h0) := by
  have q := C_restore X ⟨by omega, by omega⟩
  exact q
set_option maxRecDepth 20000 in
theorem D_drop (X : hsX G P E S b P2 E2 S2 F L1 L2 H1 H2 QL QT qa CA CB o h0 h) {i : Int} (c : isPt P i) (ri : r32 i) : Run G mX7_drop [.ref o, .int (iN i)] none h 1 6 (zK G (.inl (some (.int (iN ((cntN (P.set i.toNat (pX P i.toNat, pY P i.toNat, -1)) (pM P i.toNat) (P.set i.toNat (pX P i.toNat, pY P i.toNat, -1)).length : Int)))))) (P.set i.toNat (pX P i.toNat, pY P i.toNat, -1)) E S b P2 E2 S2 F o h0) := by
  have q := C_drop X ri
  have e1 : k_drop P i = (0, (cntN (P.set i.toNat (pX P i.toNat, pY P i.toNat, -1)) (pM P i.toNat) (P.set i.toNat (pX P i.toNat, pY P i.toNat, -1)).length : Int)) := by
    unfold k_drop s_drop
    rw [if_pos c, if_pos c]
  have e2 : s_drop P i = (P.set i.toNat (pX P i.toNat, pY P i.toNat, -1)) := if_pos c
  rw [e1, e2] at q
  exact q
set_option maxRecDepth 20000 in
theorem D_errors (X : hsX G P E S b P2 E2 S2 F L1 L2 H1 H2 QL QT qa CA CB o h0 h)  (ns : ∀ v : Nat, v < 3 → noStray (putN P v [] P.length)) (nf : ∀ j, j < 4 → closes (S j) → okS (S j) ∧ noFault (S j)) : Run G mX7_errors [.ref o] none h 1 6 (zK G (.inl (some (.int (iN (0))))) P E S b P2 E2 S2 F o h0) := by
  have q := C_errors X ns nf
  exact q
end DCL
