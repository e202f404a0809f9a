/-! The class: lines, pairs, boxes, fences, images, checksum -/
def k_line (E : PL) (x y u v : Int) : Nat × Int := if nrOK x y then (if nrOK u v then (if E.length / 2 < 20 then (0, ((E.length / 2 : Nat) : Int)) else (2, 0)) else (1, 0)) else (1, 0)
abbrev lnC (E : PL) (x y u v : Int) : Prop := nrOK x y ∧ nrOK u v ∧ E.length / 2 < 20
def s_line (E : PL) (x y u v : Int) : PL := if lnC E x y u v then (E ++ [(x, y, 0)]) ++ [(u, v, 0)] else E
def k_cross (E : PL) (l m : Int) : Nat × Int := if lnOK E l then (if lnOK E m then (0, bP (lmE E l.toNat m.toNat)) else (1, 0)) else (1, 0)
def ciN (E : PL) (l : Nat) : Nat → Nat
  | 0 => 0
  | c + 1 => if lmE E l (l + 1 + c) then ciN E l c + 1 else ciN E l c
def coN (E : PL) : Nat → Nat
  | 0 => 0
  | n + 1 => coN E n + ciN E n (E.length / 2 - (n + 1))
def caI (E : PL) (p : Int) (l : Nat) (k : Nat → Nat × Int) : Nat → Nat → Nat → Nat × Int
  | 0, _, m => k m
  | f + 1, o, m => if lmE E l o then (if (m : Int) = p then (0, 100 * (l : Int) + (o : Int)) else caI E p l k f (o + 1) (m + 1)) else caI E p l k f (o + 1) m
def caO (E : PL) (p : Int) : Nat → Nat → Nat → Nat × Int
  | 0, _, _ => (1, 0)
  | f + 1, l, m => caI E p l (caO E p f (l + 1)) (E.length / 2 - (l + 1)) (l + 1) m
def k_crossingAt (E : PL) (p : Int) : Nat × Int := caO E p (E.length / 2) 0 0
def k_pair (P : PL) (a : Int) (u : Prop) [Decidable u] : Nat × Int := if hpOK a then (if 2 ≤ cntN P a P.length then (0, (exI P a u P.length).1) else (2, 0)) else (1, 0)
abbrev exT (P : PL) (a : Int) (u : Prop) [Decidable u] : Nat := (exI P a u P.length).1.toNat
def k_distance (P : PL) (a : Int) (u : Prop) [Decidable u] : Nat × Int := if hpOK a then (if 2 ≤ cntN P a P.length then (0, sqd P (exT P a u / 100) (exT P a u % 100)) else (2, 0)) else (1, 0)
def k_box (P : PL) (a w : Int) : Nat × Int := if hpOK a then (if 0 ≤ w ∧ w ≤ 3 then (if cntN P a P.length ≠ 0 then (0, bnd (putN P a [] P.length) w.toNat (putN P a [] P.length).length) else (2, 0)) else (1, 0)) else (1, 0)
def fnO (L : PL) (p : Nat) : Nat → Int
  | 0 => 1000
  | n + 1 => min (fnO L p n) (lfO L n p (L.length - n))
def k_fence (P : PL) (a p : Int) : Nat × Int := if hpOK a then (if 1 ≤ p then (if p ≤ (putN P a [] P.length).length then (0, fnO (putN P a [] P.length) p.toNat (putN P a [] P.length).length) else (2, 0)) else (1, 0)) else (1, 0)
noncomputable def k_apart (P : PL) (a b1 : Int) : Nat × Int := if hp2 a b1 then (if fl2 P a b1 then (0, bC (¬ tch (wrapN 61 (putN P a [] P.length)) (wrapN 61 (putN P b1 [] P.length)))) else (2, 0)) else (1, 0)
def k_restore (b : Int) (P2 : PL) : Nat × Int := if b = 0 then (1, 0) else (0, (P2.length : Int))
def ckN (F : PL) : Nat → Int
  | 0 => 17
  | n + 1 => 31 * (31 * ckN F n + pX F n) + pY F n
def mfN (L : PL) : Nat → Int
  | 0 => 0
  | n + 1 => mfN L n + (((pX L n - pX L 0).natAbs : Int) + ((pY L n - pY L 0).natAbs : Int))
abbrev mfD (L : PL) : UInt64 := FP.ddiv (FP.i2d (iN (mfN L L.length))) (FP.i2d (iN L.length))
def k_meanFar (P : PL) (a : Int) : Nat × UInt64 := if hpOK a then (if (putN P a [] P.length).length = 0 then (0, FP.dconst0) else (0, mfD (putN P a [] P.length))) else (1, 0)
abbrev bxF (F : PL) : Int := 2 * (bnd F 1 F.length - bnd F 0 F.length) * (bnd F 3 F.length - bnd F 2 F.length)
def k_fills (F : PL) : UInt32 := if bxF F ≤ 0 then FP.fconst0 else FP.fdiv (FP.i2f (iN (da F))) (FP.i2f (iN (bxF F)))
section PPUB4
variable {G : g_X} {P E : PL} {S : Nat → PL} {b : Int} {P2 E2 : PL} {S2 : Nat → PL} {F L1 L2 H1 H2 : PL} {QL : PL} {QT : List Int} {qa : Int} {CA CB : PL} {o : Nat} {h0 h : g_hp}
set_option maxRecDepth 20000 in
theorem C_line (X : hsX G P E S b P2 E2 S2 F L1 L2 H1 H2 QL QT qa CA CB o h0 h) {x : Int} (rx : r32 x) {y : Int} (ry : r32 y) {u : Int} (ru : r32 u) {v : Int} (rv : r32 v) (ev : E.length % 2 = 0) : Run G mX7_line [.ref o, .int (iN x), .int (iN y), .int (iN u), .int (iN v)] none h 1 6 (zK G (rsI [xIAE, xISE] (k_line E x y u v)) P (s_line E x y u v) S b P2 E2 S2 F o h0) := by
  have rx1 := rx.1
  have rx2 := rx.2
  have ry1 := ry.1
  have ry2 := ry.2
  have ru1 := ru.1
  have ru2 := ru.2
  have rv1 := rv.1
  have rv2 := rv.2
  have e9 := X.yd.ens.1
  refine run_of rfl plX7 rfl ?_
  refine e_iload_n dX7_line_0 rfl ?_
  refine e_iload_n dX7_line_1 rfl ?_
  refine if c_2 : nrOK x y then ?_ else e_throwsS qcX7_61 (T_requireNear rx ry c_2) rfl rfl rfl rfl dX7_line_2 rfl ⟨rfl, zk (show (k_line E x y u v) = (1, 0) from (if_neg c_2)) rfl, _, _, _, _, _, _, _, _, _, (by rw [show s_line E x y u v = E from if_neg (fun w => c_2 w.1)]; exact X)⟩
  refine e_doesS qcX7_61 (S_requireNear rx ry c_2) rfl rfl rfl rfl dX7_line_2 ?_
  intro v h9 q9
  obtain ⟨rfl, rfl⟩ := q9
  refine e_iload_n dX7_line_5 rfl ?_
  refine e_iload dX7_line_6 rfl ?_
  refine if c_8 : nrOK u v then ?_ else e_throwsS qcX7_61 (T_requireNear ru rv c_8) rfl rfl rfl rfl dX7_line_8 rfl ⟨rfl, zk (show (k_line E x y u v) = (1, 0) from ((if_pos c_2).trans (if_neg c_8))) rfl, _, _, _, _, _, _, _, _, _, (by rw [show s_line E x y u v = E from if_neg (fun w => c_8 w.2.1)]; exact X)⟩
  refine e_doesS qcX7_61 (S_requireNear ru rv c_8) rfl rfl rfl rfl dX7_line_8 ?_
  intro v h9 q9
  obtain ⟨rfl, rfl⟩ := q9
  refine e_aload_n dX7_line_11 rfl ?_
  refine e_getf fX7_12 X.obj rfl dX7_line_12 ?_
  refine e_pureV qcX7_229 X.yd.obj rfl rfl (S_lineCount X.yd) rfl rfl rfl rfl dX7_line_15 ?_
  refine e_bipush dX7_line_18 (by decide) ?_
  refine e_icmp_lt (tgt := 33) ⟨by omega, by omega⟩ ⟨by omega, by omega⟩ dX7_line_20 rfl (fun c_20 => ?_) (fun c_20 => ?_)
  · refine e_aload_n dX7_line_33 rfl ?_
    refine e_getf fX7_12 X.obj rfl dX7_line_34 ?_
    refine e_getfN fX7_234 X.yd.obj rfl dX7_line_37 ?_
    refine e_iload_n dX7_line_40 rfl ?_
    refine e_iload_n dX7_line_41 rfl ?_
    refine e_iconst dX7_line_42 ?_
    refine e_doesV qcX7_79 X.yd.ens.obj rfl rfl (S_append X.yd.ens (by omega) (show bd x from ⟨by omega, by omega⟩) (show bd y from ⟨by omega, by omega⟩) (show bd 0 from ⟨by decide, by decide⟩)) rfl rfl rfl rfl dX7_line_43 ?_
    intro v h9 q9
    obtain ⟨rfl, g9, f9⟩ := q9
    replace X := X.wE g9 f9
    clear g9 f9
    refine e_aload_n dX7_line_46 rfl ?_
    refine e_getf fX7_12 X.obj rfl dX7_line_47 ?_
    refine e_getfN fX7_234 X.yd.obj rfl dX7_line_50 ?_
    refine e_iload_n dX7_line_53 rfl ?_
    refine e_iload dX7_line_54 rfl ?_
    refine e_iconst dX7_line_56 ?_
    refine e_doesV qcX7_79 X.yd.ens.obj rfl rfl (S_append X.yd.ens (by rw [List.length_append, List.length_singleton]; omega) (show bd u from ⟨by omega, by omega⟩) (show bd v from ⟨by omega, by omega⟩) (show bd 0 from ⟨by decide, by decide⟩)) rfl rfl rfl rfl dX7_line_57 ?_
    intro v h9 q9
    obtain ⟨rfl, g9, f9⟩ := q9
    replace X := X.wE g9 f9
    clear g9 f9
    refine e_aload_n dX7_line_60 rfl ?_
    refine e_getf fX7_12 X.obj rfl dX7_line_61 ?_
    refine e_pureV qcX7_229 X.yd.obj rfl rfl (S_lineCount X.yd) rfl rfl rfl rfl dX7_line_64 ?_
    refine e_iconst dX7_line_67 ?_
    refine e_isub dX7_line_68 ?_
    rw [show ((((E ++ [(x, y, 0)] ++ [(u, v, 0)] : PL).length / 2 : Nat) : Int) - 1) = ((E.length / 2 : Nat) : Int) from by rw [List.length_append, List.length_append, List.length_singleton, List.length_singleton]; omega]
    refine e_iret rfl dX7_line_69 (by decide) (by decide) ?_
    exact ⟨rfl, zk (show (k_line E x y u v) = (0, ((E.length / 2 : Nat) : Int)) from (((if_pos c_2).trans (if_pos c_8)).trans (if_pos (by omega)))) rfl, _, _, _, _, _, _, _, _, _, (by rw [show s_line E x y u v = (E ++ [(x, y, 0)]) ++ [(u, v, 0)] from if_pos ⟨c_2, c_8, by omega⟩]; exact X)⟩
  · refine e_throw (text := "there are 20 lines") rfl rfl t_72_76 s_232 dX7_line_23 dX7_line_26 dX7_line_27 dX7_line_29 dX7_line_32 rfl rfl (by decide) (by decide) ?_
    exact ⟨rfl, zk (show (k_line E x y u v) = (2, 0) from (((if_pos c_2).trans (if_pos c_8)).trans (if_neg (by omega)))) rfl, _, _, _, _, _, _, _, _, _, (by rw [show s_line E x y u v = E from if_neg (fun w => absurd w.2.2 (by omega))]; exact X)⟩
set_option maxRecDepth 20000 in
theorem C_clearLines (X : hsX G P E S b P2 E2 S2 F L1 L2 H1 H2 QL QT qa CA CB o h0 h) : Run G mX7_clearLines [.ref o] none h 1 6 (zK G (rsI [] (0, ((E.length / 2 : Nat) : Int))) P [] S b P2 E2 S2 F o h0) := by
  refine run_of rfl plX7 rfl ?_
  refine e_aload_n dX7_clearLines_0 rfl ?_
  refine e_getf fX7_12 X.obj rfl dX7_clearLines_1 ?_
  refine e_pureV qcX7_229 X.yd.obj rfl rfl (S_lineCount X.yd) rfl rfl rfl rfl dX7_clearLines_4 ?_
  refine e_istore_n dX7_clearLines_7 rfl ?_
  refine e_aload_n dX7_clearLines_8 rfl ?_
  refine e_getf fX7_12 X.obj rfl dX7_clearLines_9 ?_
  refine e_getfN fX7_234 X.yd.obj rfl dX7_clearLines_12 ?_
  refine e_doesV qcX7_168 X.yd.ens.obj rfl rfl (S_reset X.yd.ens) rfl rfl rfl rfl dX7_clearLines_15 ?_
  intro v h9 q9
  obtain ⟨rfl, g9, f9⟩ := q9
  replace X := X.wE g9 f9
  clear g9 f9
  refine e_iload_n dX7_clearLines_18 rfl ?_
  refine e_iret rfl dX7_clearLines_19 (by decide) (by decide) ?_
  exact ⟨rfl, rfl, _, _, _, _, _, _, _, _, _, X⟩
set_option maxRecDepth 20000 in
theorem C_cross (X : hsX G P E S b P2 E2 S2 F L1 L2 H1 H2 QL QT qa CA CB o h0 h) {l : Int} (rl : r32 l) {m : Int} (rm : r32 m) : Run G mX7_cross [.ref o, .int (iN l), .int (iN m)] none h 1 6 (zK G (rsI [xIOB] (k_cross E l m)) P E S b P2 E2 S2 F o h0) := by
  refine run_of rfl plX7 rfl ?_
  refine e_aload_n dX7_cross_0 rfl ?_
  refine e_iload_n dX7_cross_1 rfl ?_
  refine if c_2 : lnOK E l then ?_ else e_throwsV qcX7_237 X.obj rfl rfl (T_requireLine X rl c_2) rfl rfl rfl rfl dX7_cross_2 rfl ⟨rfl, zk (show (k_cross E l m) = (1, 0) from (if_neg c_2)) rfl, _, _, _, _, _, _, _, _, _, X⟩
  refine e_doesV qcX7_237 X.obj rfl rfl (S_requireLine X rl c_2) rfl rfl rfl rfl dX7_cross_2 ?_
  intro v h9 q9
  obtain ⟨rfl, rfl⟩ := q9
  refine e_aload_n dX7_cross_5 rfl ?_
  refine e_iload_n dX7_cross_6 rfl ?_
  refine if c_7 : lnOK E m then ?_ else e_throwsV qcX7_237 X.obj rfl rfl (T_requireLine X rm c_7) rfl rfl rfl rfl dX7_cross_7 rfl ⟨rfl, zk (show (k_cross E l m) = (1, 0) from ((if_pos c_2).trans (if_neg c_7))) rfl, _, _, _, _, _, _, _, _, _, X⟩
  refine e_doesV qcX7_237 X.obj rfl rfl (S_requireLine X rm c_7) rfl rfl rfl rfl dX7_cross_7 ?_
  intro v h9 q9
  obtain ⟨rfl, rfl⟩ := q9
  obtain ⟨n1, rfl⟩ : ∃ n1 : Nat, l = (n1 : Int) := ⟨l.toNat, by have := c_2.1; omega⟩
  have hn1 := c_2.2
  obtain ⟨n2, rfl⟩ : ∃ n2 : Nat, m = (n2 : Int) := ⟨m.toNat, by have := c_7.1; omega⟩
  have hn2 := c_7.2
  refine e_aload_n dX7_cross_10 rfl ?_
  refine e_getf fX7_12 X.obj rfl dX7_cross_11 ?_
  refine e_iload_n dX7_cross_14 rfl ?_
  refine e_iload_n dX7_cross_15 rfl ?_
  refine e_pureV qcX7_240 X.yd.obj rfl rfl (S_linesMeet X.yd (show 2 * n1 + 1 < E.length by omega) (show 2 * n2 + 1 < E.length by omega)) rfl rfl rfl rfl dX7_cross_16 ?_
  refine e_zret rfl (by first | exact Or.inl rfl | exact Or.inr rfl | exact bP_01 _) dX7_cross_19 (by decide) (by decide) ?_
  exact ⟨rfl, zk (show (k_cross E (n1 : Int) (n2 : Int)) = (0, bP (lmE E n1 n2)) from ((if_pos c_2).trans (if_pos c_7))) rfl, _, _, _, _, _, _, _, _, _, X⟩
set_option maxRecDepth 20000 in
theorem csn_inner (X : hsX G P E S b P2 E2 S2 F L1 L2 H1 H2 QL QT qa CA CB o h0 h) {l : Nat} (hl : l < (E.length / 2)) (k : Ev (g_B G mX7_crossings 1 6 (zK G (rsI [] (0, (coN E (E.length / 2) : Int))) P E S b P2 E2 S2 F o h0)) 0 0 none h 51 [(2, .int (iN (l : Nat))), (1, .int (iN (coN E l + ciN E l ((E.length / 2) - (l + 1)) : Nat))), (0, .ref o)] []) : ∀ (n c : Nat), c + n = (E.length / 2) - (l + 1) → Ev (g_B G mX7_crossings 1 6 (zK G (rsI [] (0, (coN E (E.length / 2) : Int))) P E S b P2 E2 S2 F o h0)) 0 0 none h 19 [(3, .int (iN (l + 1 + c : Nat))), (2, .int (iN (l : Nat))), (1, .int (iN (coN E l + ciN E l c : Nat))), (0, .ref o)] [] := by
  have e9 := X.yd.ens.1
  intro n
  induction n with
  | zero =>
    intro c hc
    have e8 : c = (E.length / 2) - (l + 1) := by omega
    rw [← e8] at k
    refine e_iload_n dX7_crossings_19 rfl ?_
    refine e_aload_n dX7_crossings_20 rfl ?_
    refine e_getf fX7_12 X.obj rfl dX7_crossings_21 ?_
    refine e_pureV qcX7_229 X.yd.obj rfl rfl (S_lineCount X.yd) rfl rfl rfl rfl dX7_crossings_24 ?_
    refine e_icmp_ge (tgt := 51) ⟨by omega, by omega⟩ ⟨by omega, by omega⟩ dX7_crossings_27 rfl (fun c_27 => ?_) (fun c_27 => absurd (by omega) c_27)
    exact e_loc [(2, .int (iN (l : Nat))), (1, .int (iN (coN E l + ciN E l c : Nat))), (0, .ref o)] ⟨rfl, rfl, rfl, trivial⟩ k
  | succ n ih =>
    intro c hc
    have ho : l + 1 + c < E.length / 2 := by omega
    refine e_iload_n dX7_crossings_19 rfl ?_
    refine e_aload_n dX7_crossings_20 rfl ?_
    refine e_getf fX7_12 X.obj rfl dX7_crossings_21 ?_
    refine e_pureV qcX7_229 X.yd.obj rfl rfl (S_lineCount X.yd) rfl rfl rfl rfl dX7_crossings_24 ?_
    refine e_icmp_ge (tgt := 51) ⟨by omega, by omega⟩ ⟨by omega, by omega⟩ dX7_crossings_27 rfl (fun c_27 => absurd c_27 (by omega)) (fun c_27 => ?_)
    refine e_aload_n dX7_crossings_30 rfl ?_
    refine e_getf fX7_12 X.obj rfl dX7_crossings_31 ?_
    refine e_iload_n dX7_crossings_34 rfl ?_
    refine e_iload_n dX7_crossings_35 rfl ?_
    refine e_pureV qcX7_240 X.yd.obj rfl rfl (S_linesMeet X.yd (show 2 * l + 1 < E.length by omega) (show 2 * (l + 1 + c) + 1 < E.length by omega)) rfl rfl rfl rfl dX7_crossings_36 ?_
    refine e_ifP_eq (tgt := 45) dX7_crossings_39 rfl (fun c_39 => ?_) (fun c_39 => ?_)
    · have e6 : ciN E l (c + 1) = ciN E l c := if_neg c_39
      refine e_iinc dX7_crossings_45 rfl ?_
      refine e_goto (tgt := 19) dX7_crossings_48 rfl ?_
      exact e_loc [(3, .int (iN (l + 1 + (c + 1) : Nat))), (2, .int (iN (l : Nat))), (1, .int (iN (coN E l + ciN E l (c + 1) : Nat))), (0, .ref o)] ⟨rfl, rfl, by rw [e6]; rfl, rfl, trivial⟩ (ih (c + 1) (by omega))
    · have e6 : ciN E l (c + 1) = ciN E l c + 1 := if_pos c_39
      refine e_iinc dX7_crossings_42 rfl ?_
      refine e_iinc dX7_crossings_45 rfl ?_
      refine e_goto (tgt := 19) dX7_crossings_48 rfl ?_
      exact e_loc [(3, .int (iN (l + 1 + (c + 1) : Nat))), (2, .int (iN (l : Nat))), (1, .int (iN (coN E l + ciN E l (c + 1) : Nat))), (0, .ref o)] ⟨rfl, rfl, by rw [e6]; rfl, rfl, trivial⟩ (ih (c + 1) (by omega))
set_option maxRecDepth 20000 in
theorem csn_outer (X : hsX G P E S b P2 E2 S2 F L1 L2 H1 H2 QL QT qa CA CB o h0 h) : ∀ (n l : Nat), l + n = (E.length / 2) → Ev (g_B G mX7_crossings 1 6 (zK G (rsI [] (0, (coN E (E.length / 2) : Int))) P E S b P2 E2 S2 F o h0)) 0 0 none h 4 [(2, .int (iN (l : Nat))), (1, .int (iN (coN E l : Nat))), (0, .ref o)] [] := by
  have e9 := X.yd.ens.1
  intro n
  induction n with
  | zero =>
    intro l hl
    have e8 : l = (E.length / 2) := by omega
    rw [e8]
    refine e_iload_n dX7_crossings_4 rfl ?_
    refine e_aload_n dX7_crossings_5 rfl ?_
    refine e_getf fX7_12 X.obj rfl dX7_crossings_6 ?_
    refine e_pureV qcX7_229 X.yd.obj rfl rfl (S_lineCount X.yd) rfl rfl rfl rfl dX7_crossings_9 ?_
    refine e_icmp_ge (tgt := 57) ⟨by omega, by omega⟩ ⟨by omega, by omega⟩ dX7_crossings_12 rfl (fun c_12 => ?_) (fun c_12 => absurd (by omega) c_12)
    refine e_iload_n dX7_crossings_57 rfl ?_
    refine e_iret rfl dX7_crossings_58 (by decide) (by decide) ?_
    exact ⟨rfl, rfl, _, _, _, _, _, _, _, _, _, X⟩
  | succ n ih =>
    intro l hl
    have hl2 : l < E.length / 2 := by omega
    refine e_iload_n dX7_crossings_4 rfl ?_
    refine e_aload_n dX7_crossings_5 rfl ?_
    refine e_getf fX7_12 X.obj rfl dX7_crossings_6 ?_
    refine e_pureV qcX7_229 X.yd.obj rfl rfl (S_lineCount X.yd) rfl rfl rfl rfl dX7_crossings_9 ?_
    refine e_icmp_ge (tgt := 57) ⟨by omega, by omega⟩ ⟨by omega, by omega⟩ dX7_crossings_12 rfl (fun c_12 => absurd c_12 (by omega)) (fun c_12 => ?_)
    refine e_iload_n dX7_crossings_15 rfl ?_
    refine e_iconst dX7_crossings_16 ?_
    refine e_iadd dX7_crossings_17 ?_
    refine e_istore_n dX7_crossings_18 rfl ?_
    refine e_loc [(3, .int (iN (l + 1 + 0 : Nat))), (2, .int (iN (l : Nat))), (1, .int (iN (coN E l + ciN E l 0 : Nat))), (0, .ref o)] ⟨rfl, rfl, rfl, rfl, trivial⟩ (csn_inner X hl2 ?_ _ 0 (Nat.zero_add _))
    refine e_iinc dX7_crossings_51 rfl ?_
    refine e_goto (tgt := 4) dX7_crossings_54 rfl ?_
    exact e_loc [(2, .int (iN (l + 1 : Nat))), (1, .int (iN (coN E (l + 1) : Nat))), (0, .ref o)] ⟨rfl, rfl, rfl, trivial⟩ (ih (l + 1) (by omega))
set_option maxRecDepth 20000 in
theorem C_crossings (X : hsX G P E S b P2 E2 S2 F L1 L2 H1 H2 QL QT qa CA CB o h0 h) : Run G mX7_crossings [.ref o] none h 1 6 (zK G (rsI [] (0, (coN E (E.length / 2) : Int))) P E S b P2 E2 S2 F o h0) := by
  refine run_of rfl plX7 rfl ?_
  refine e_iconst dX7_crossings_0 ?_
  refine e_istore_n dX7_crossings_1 rfl ?_
  refine e_iconst dX7_crossings_2 ?_
  refine e_istore_n dX7_crossings_3 rfl ?_
  exact e_loc [(2, .int (iN (0 : Nat))), (1, .int (iN (coN E 0 : Nat))), (0, .ref o)] ⟨rfl, rfl, rfl, trivial⟩ (csn_outer X _ 0 (Nat.zero_add _))
set_option maxRecDepth 20000 in
theorem ca_inner (X : hsX G P E S b P2 E2 S2 F L1 L2 H1 H2 QL QT qa CA CB o h0 h) {p : Int} (rp : r32 p) {R : Nat × Int} {l : Nat} {kf : Nat → Nat × Int} (hl : l < (E.length / 2)) (k : ∀ m, m ≤ 20 * (l + 1) → kf m = R → Ev (g_B G mX7_crossingAt 1 6 (zK G (rsI [xIOB] R) P E S b P2 E2 S2 F o h0)) 0 0 none h 67 [(3, .int (iN (l : Nat))), (2, .int (iN (m : Nat))), (0, .ref o), (1, .int (iN p))] []) : ∀ (f c m : Nat), c + f = (E.length / 2) → m + l + 1 ≤ 20 * l + c → caI E p l kf f c m = R → Ev (g_B G mX7_crossingAt 1 6 (zK G (rsI [xIOB] R) P E S b P2 E2 S2 F o h0)) 0 0 none h 20 [(4, .int (iN (c : Nat))), (3, .int (iN (l : Nat))), (2, .int (iN (m : Nat))), (0, .ref o), (1, .int (iN p))] [] := by
  have e9 := X.yd.ens.1
  have rp1 := rp.1
  have rp2 := rp.2
  intro f
  induction f with
  | zero =>
    intro c m hc hm hR
    refine e_iload dX7_crossingAt_20 rfl ?_
    refine e_aload_n dX7_crossingAt_22 rfl ?_
    refine e_getf fX7_12 X.obj rfl dX7_crossingAt_23 ?_
    refine e_pureV qcX7_229 X.yd.obj rfl rfl (S_lineCount X.yd) rfl rfl rfl rfl dX7_crossingAt_26 ?_
    refine e_icmp_ge (tgt := 67) ⟨by omega, by omega⟩ ⟨by omega, by omega⟩ dX7_crossingAt_29 rfl (fun c_29 => ?_) (fun c_29 => absurd (by omega) c_29)
    exact e_loc [(3, .int (iN (l : Nat))), (2, .int (iN (m : Nat))), (0, .ref o), (1, .int (iN p))] ⟨rfl, rfl, rfl, rfl, trivial⟩ (k m (by omega) hR)
  | succ f ih =>
    intro c m hc hm hR
    have ho : c < E.length / 2 := by omega
    unfold caI at hR
    refine e_iload dX7_crossingAt_20 rfl ?_
    refine e_aload_n dX7_crossingAt_22 rfl ?_
    refine e_getf fX7_12 X.obj rfl dX7_crossingAt_23 ?_
    refine e_pureV qcX7_229 X.yd.obj rfl rfl (S_lineCount X.yd) rfl rfl rfl rfl dX7_crossingAt_26 ?_
    refine e_icmp_ge (tgt := 67) ⟨by omega, by omega⟩ ⟨by omega, by omega⟩ dX7_crossingAt_29 rfl (fun c_29 => absurd c_29 (by omega)) (fun c_29 => ?_)
    refine e_aload_n dX7_crossingAt_32 rfl ?_
    refine e_getf fX7_12 X.obj rfl dX7_crossingAt_33 ?_
    refine e_iload_n dX7_crossingAt_36 rfl ?_
    refine e_iload dX7_crossingAt_37 rfl ?_
    refine e_pureV qcX7_240 X.yd.obj rfl rfl (S_linesMeet X.yd (show 2 * l + 1 < E.length by omega) (show 2 * c + 1 < E.length by omega)) rfl rfl rfl rfl dX7_crossingAt_39 ?_
    refine e_ifP_eq (tgt := 61) dX7_crossingAt_42 rfl (fun c_42 => ?_) (fun c_42 => ?_)
    · refine e_iinc dX7_crossingAt_61 rfl ?_
      refine e_goto (tgt := 20) dX7_crossingAt_64 rfl ?_
      first | exact e_loc [(4, .int (iN (c + 1 : Nat))), (3, .int (iN (l : Nat))), (2, .int (iN (m + 1 : Nat))), (0, .ref o), (1, .int (iN p))] ⟨rfl, rfl, rfl, rfl, rfl, trivial⟩ (ih (c + 1) (m + 1) (by omega) (by omega) ((if_neg c_47).symm.trans ((if_pos c_42).symm.trans hR))) | exact e_loc [(4, .int (iN (c + 1 : Nat))), (3, .int (iN (l : Nat))), (2, .int (iN (m : Nat))), (0, .ref o), (1, .int (iN p))] ⟨rfl, rfl, rfl, rfl, rfl, trivial⟩ (ih (c + 1) m (by omega) (by omega) ((if_neg c_42).symm.trans hR))
    · refine e_iload_n dX7_crossingAt_45 rfl ?_
      refine e_iload_n dX7_crossingAt_46 rfl ?_
      refine e_icmp_ne (tgt := 58) ⟨by omega, by omega⟩ ⟨by omega, by omega⟩ dX7_crossingAt_47 rfl (fun c_47 => ?_) (fun c_47 => ?_)
      · refine e_iinc dX7_crossingAt_58 rfl ?_
        refine e_iinc dX7_crossingAt_61 rfl ?_
        refine e_goto (tgt := 20) dX7_crossingAt_64 rfl ?_
        first | exact e_loc [(4, .int (iN (c + 1 : Nat))), (3, .int (iN (l : Nat))), (2, .int (iN (m + 1 : Nat))), (0, .ref o), (1, .int (iN p))] ⟨rfl, rfl, rfl, rfl, rfl, trivial⟩ (ih (c + 1) (m + 1) (by omega) (by omega) ((if_neg c_47).symm.trans ((if_pos c_42).symm.trans hR))) | exact e_loc [(4, .int (iN (c + 1 : Nat))), (3, .int (iN (l : Nat))), (2, .int (iN (m : Nat))), (0, .ref o), (1, .int (iN p))] ⟨rfl, rfl, rfl, rfl, rfl, trivial⟩ (ih (c + 1) m (by omega) (by omega) ((if_neg c_42).symm.trans hR))
      · refine e_bipush dX7_crossingAt_50 (by decide) ?_
        refine e_iload_n dX7_crossingAt_52 rfl ?_
        refine e_imul dX7_crossingAt_53 ?_
        refine e_iload dX7_crossingAt_54 rfl ?_
        refine e_iadd dX7_crossingAt_56 ?_
        refine e_iret rfl dX7_crossingAt_57 (by decide) (by decide) ?_
        exact ⟨rfl, by rw [← hR, if_pos c_42, if_pos (Decidable.of_not_not c_47)]; rfl, _, _, _, _, _, _, _, _, _, X⟩
set_option maxRecDepth 20000 in
theorem ca_outer (X : hsX G P E S b P2 E2 S2 F L1 L2 H1 H2 QL QT qa CA CB o h0 h) {p : Int} (rp : r32 p) {R : Nat × Int} : ∀ (f l m : Nat), l + f = (E.length / 2) → m ≤ 20 * l → caO E p f l m = R → Ev (g_B G mX7_crossingAt 1 6 (zK G (rsI [xIOB] R) P E S b P2 E2 S2 F o h0)) 0 0 none h 4 [(3, .int (iN (l : Nat))), (2, .int (iN (m : Nat))), (0, .ref o), (1, .int (iN p))] [] := by
  have e9 := X.yd.ens.1
  intro f
  induction f with
  | zero =>
    intro l m hl hm hR
    refine e_iload_n dX7_crossingAt_4 rfl ?_
    refine e_aload_n dX7_crossingAt_5 rfl ?_
    refine e_getf fX7_12 X.obj rfl dX7_crossingAt_6 ?_
    refine e_pureV qcX7_229 X.yd.obj rfl rfl (S_lineCount X.yd) rfl rfl rfl rfl dX7_crossingAt_9 ?_
    refine e_icmp_ge (tgt := 73) ⟨by omega, by omega⟩ ⟨by omega, by omega⟩ dX7_crossingAt_12 rfl (fun c_12 => ?_) (fun c_12 => absurd (by omega) c_12)
    refine e_throw (text := "there is no such pair") rfl rfl t_110_114 s_244 dX7_crossingAt_73 dX7_crossingAt_76 dX7_crossingAt_77 dX7_crossingAt_79 dX7_crossingAt_82 rfl rfl (by decide) (by decide) ?_
    exact ⟨rfl, by rw [← hR]; rfl, _, _, _, _, _, _, _, _, _, X⟩
  | succ f ih =>
    intro l m hl hm hR
    have hl2 : l < E.length / 2 := by omega
    refine e_iload_n dX7_crossingAt_4 rfl ?_
    refine e_aload_n dX7_crossingAt_5 rfl ?_
    refine e_getf fX7_12 X.obj rfl dX7_crossingAt_6 ?_
    refine e_pureV qcX7_229 X.yd.obj rfl rfl (S_lineCount X.yd) rfl rfl rfl rfl dX7_crossingAt_9 ?_
    refine e_icmp_ge (tgt := 73) ⟨by omega, by omega⟩ ⟨by omega, by omega⟩ dX7_crossingAt_12 rfl (fun c_12 => absurd c_12 (by omega)) (fun c_12 => ?_)
    refine e_iload_n dX7_crossingAt_15 rfl ?_
    refine e_iconst dX7_crossingAt_16 ?_
    refine e_iadd dX7_crossingAt_17 ?_
    refine e_istore dX7_crossingAt_18 rfl ?_
    refine e_loc [(4, .int (iN (l + 1 : Nat))), (3, .int (iN (l : Nat))), (2, .int (iN (m : Nat))), (0, .ref o), (1, .int (iN p))] ⟨rfl, rfl, rfl, rfl, rfl, trivial⟩ (ca_inner X rp hl2 (fun m hm hR => ?_) _ (l + 1) m (by omega) (by omega) hR)
    refine e_iinc dX7_crossingAt_67 rfl ?_
    refine e_goto (tgt := 4) dX7_crossingAt_70 rfl ?_
    exact e_loc [(3, .int (iN (l + 1 : Nat))), (2, .int (iN (m : Nat))), (0, .ref o), (1, .int (iN p))] ⟨rfl, rfl, rfl, rfl, trivial⟩ (ih (l + 1) m (by omega) hm hR)
set_option maxRecDepth 20000 in
theorem C_crossingAt (X : hsX G P E S b P2 E2 S2 F L1 L2 H1 H2 QL QT qa CA CB o h0 h) {p : Int} (rp : r32 p) : Run G mX7_crossingAt [.ref o, .int (iN p)] none h 1 6 (zK G (rsI [xIOB] (k_crossingAt E p)) P E S b P2 E2 S2 F o h0) := by
  refine run_of rfl plX7 rfl ?_
  refine e_iconst dX7_crossingAt_0 ?_
  refine e_istore_n dX7_crossingAt_1 rfl ?_
  refine e_iconst dX7_crossingAt_2 ?_
  refine e_istore_n dX7_crossingAt_3 rfl ?_
  exact e_loc [(3, .int (iN (0 : Nat))), (2, .int (iN (0 : Nat))), (0, .ref o), (1, .int (iN p))] ⟨rfl, rfl, rfl, rfl, trivial⟩ (ca_outer X rp _ 0 0 (Nat.zero_add _) (Nat.le_refl _) rfl)
set_option maxRecDepth 20000 in
theorem C_pair (X : hsX G P E S b P2 E2 S2 F L1 L2 H1 H2 QL QT qa CA CB o h0 h) {a : Int} (ra : r32 a) {u : Prop} [Decidable u] : Run G mX7_pair [.ref o, .int (iN a), .int (iN (bP u))] none h 1 6 (zK G (rsI [xIAE, xNSE] (k_pair P a u)) P E S b P2 E2 S2 F o h0) := by
  refine run_of rfl plX7 rfl ?_
  refine e_iload_n dX7_pair_0 rfl ?_
  refine if c_1 : hpOK a then ?_ else e_throwsS qcX7_58 (T_requireHeap ra c_1) rfl rfl rfl rfl dX7_pair_1 rfl ⟨rfl, zk (show (k_pair P a u) = (1, 0) from (if_neg c_1)) rfl, _, _, _, _, _, _, _, _, _, X⟩
  refine e_doesS qcX7_58 (S_requireHeap ra c_1) rfl rfl rfl rfl dX7_pair_1 ?_
  intro v h9 q9
  obtain ⟨rfl, rfl⟩ := q9
  refine e_aload_n dX7_pair_4 rfl ?_
  refine e_iload_n dX7_pair_5 rfl ?_
  refine if c_6 : 2 ≤ cntN P a P.length then ?_ else e_throwsV qcX7_246 X.obj rfl rfl (T_requireTwoPoints X ra c_6) rfl rfl rfl rfl dX7_pair_6 rfl ⟨rfl, zk (show (k_pair P a u) = (2, 0) from ((if_pos c_1).trans (if_neg c_6))) rfl, _, _, _, _, _, _, _, _, _, X⟩
  refine e_doesV qcX7_246 X.obj rfl rfl (S_requireTwoPoints X ra c_6) rfl rfl rfl rfl dX7_pair_6 ?_
  intro v h9 q9
  obtain ⟨rfl, rfl⟩ := q9
  refine e_aload_n dX7_pair_9 rfl ?_
  refine e_getf fX7_12 X.obj rfl dX7_pair_10 ?_
  refine e_iload_n dX7_pair_13 rfl ?_
  refine e_iload_n dX7_pair_14 rfl ?_
  refine e_pureV qcX7_249 X.yd.obj rfl rfl (S_extremePair X.yd ra) rfl rfl rfl rfl dX7_pair_15 ?_
  refine e_iret rfl dX7_pair_18 (by decide) (by decide) ?_
  exact ⟨rfl, zk (show (k_pair P a u) = (0, (exI P a u P.length).1) from ((if_pos c_1).trans (if_pos c_6))) rfl, _, _, _, _, _, _, _, _, _, X⟩
set_option maxRecDepth 20000 in
theorem C_distance (X : hsX G P E S b P2 E2 S2 F L1 L2 H1 H2 QL QT qa CA CB o h0 h) {a : Int} (ra : r32 a) {u : Prop} [Decidable u] (hh : 2 ≤ cntN P a P.length → 0 ≤ (exI P a u P.length).1 ∧ (exI P a u P.length).1 ≤ 10000 ∧ exT P a u / 100 < P.length ∧ exT P a u % 100 < P.length) : Run G mX7_distance [.ref o, .int (iN a), .int (iN (bP u))] none h 1 6 (zK G (rsI [xIAE, xNSE] (k_distance P a u)) P E S b P2 E2 S2 F o h0) := by
  refine run_of rfl plX7 rfl ?_
  refine e_iload_n dX7_distance_0 rfl ?_
  refine if c_1 : hpOK a then ?_ else e_throwsS qcX7_58 (T_requireHeap ra c_1) rfl rfl rfl rfl dX7_distance_1 rfl ⟨rfl, zk (show (k_distance P a u) = (1, 0) from (if_neg c_1)) rfl, _, _, _, _, _, _, _, _, _, X⟩
  refine e_doesS qcX7_58 (S_requireHeap ra c_1) rfl rfl rfl rfl dX7_distance_1 ?_
  intro v h9 q9
  obtain ⟨rfl, rfl⟩ := q9
  refine e_aload_n dX7_distance_4 rfl ?_
  refine e_iload_n dX7_distance_5 rfl ?_
  refine if c_6 : 2 ≤ cntN P a P.length then ?_ else e_throwsV qcX7_246 X.obj rfl rfl (T_requireTwoPoints X ra c_6) rfl rfl rfl rfl dX7_distance_6 rfl ⟨rfl, zk (show (k_distance P a u) = (2, 0) from ((if_pos c_1).trans (if_neg c_6))) rfl, _, _, _, _, _, _, _, _, _, X⟩
  refine e_doesV qcX7_246 X.obj rfl rfl (S_requireTwoPoints X ra c_6) rfl rfl rfl rfl dX7_distance_6 ?_
  intro v h9 q9
  obtain ⟨rfl, rfl⟩ := q9
  refine e_aload_n dX7_distance_9 rfl ?_
  refine e_getf fX7_12 X.obj rfl dX7_distance_10 ?_
  refine e_iload_n dX7_distance_13 rfl ?_
  refine e_iload_n dX7_distance_14 rfl ?_
  refine e_pureV qcX7_249 X.yd.obj rfl rfl (S_extremePair X.yd ra) rfl rfl rfl rfl dX7_distance_15 ?_
  obtain ⟨h1, h2, h3, h4⟩ := hh c_6
  have e5 : (exI P a u P.length).1 = ((exT P a u : Nat) : Int) := (Int.toNat_of_nonneg h1).symm
  rw [e5]
  refine e_istore_n dX7_distance_18 rfl ?_
  refine e_aload_n dX7_distance_19 rfl ?_
  refine e_getf fX7_12 X.obj rfl dX7_distance_20 ?_
  refine e_iload_n dX7_distance_23 rfl ?_
  refine e_bipush dX7_distance_24 (by decide) ?_
  refine e_idiv ⟨by omega, by omega⟩ ⟨by omega, by omega⟩ (by decide) dX7_distance_26 ?_
  rw [show ((exT P a u : Nat) : Int).tdiv 100 = ((exT P a u / 100 : Nat) : Int) from rfl]
  refine e_iload_n dX7_distance_27 rfl ?_
  refine e_bipush dX7_distance_28 (by decide) ?_
  refine e_irem ⟨by omega, by omega⟩ ⟨by omega, by omega⟩ (by decide) dX7_distance_30 ?_
  rw [show ((exT P a u : Nat) : Int).tmod 100 = ((exT P a u % 100 : Nat) : Int) from rfl]
  refine e_pureV qcX7_253 X.yd.obj rfl rfl (S_squaredDistance X.yd h3 h4) rfl rfl rfl rfl dX7_distance_31 ?_
  refine e_iret rfl dX7_distance_34 (by decide) (by decide) ?_
  exact ⟨rfl, zk (show (k_distance P a u) = (0, sqd P (exT P a u / 100) (exT P a u % 100)) from ((if_pos c_1).trans (if_pos c_6))) rfl, _, _, _, _, _, _, _, _, _, X⟩
set_option maxRecDepth 20000 in
theorem C_box (X : hsX G P E S b P2 E2 S2 F L1 L2 H1 H2 QL QT qa CA CB o h0 h) {a : Int} (ra : r32 a) {w : Int} (rw : r32 w) : Run G mX7_box [.ref o, .int (iN a), .int (iN w)] none h 1 6 (zK G (rsI [xIAE, xNSE] (k_box P a w)) P E S b P2 E2 S2 F o h0) := by
  have rw1 := rw.1
  have rw2 := rw.2
  refine run_of rfl plX7 rfl ?_
  refine e_iload_n dX7_box_0 rfl ?_
  refine if c_1 : hpOK a then ?_ else e_throwsS qcX7_58 (T_requireHeap ra c_1) rfl rfl rfl rfl dX7_box_1 rfl ⟨rfl, zk (show (k_box P a w) = (1, 0) from (if_neg c_1)) rfl, _, _, _, _, _, _, _, _, _, X⟩
  refine e_doesS qcX7_58 (S_requireHeap ra c_1) rfl rfl rfl rfl dX7_box_1 ?_
  intro v h9 q9
  obtain ⟨rfl, rfl⟩ := q9
  refine e_iload_n dX7_box_4 rfl ?_
  refine e_if_lt (tgt := 13) ⟨by omega, by omega⟩ dX7_box_5 rfl (fun c_5 => ?_) (fun c_5 => ?_)
  · refine e_throw (text := "what is out of range") rfl rfl t_102_106 s_104 dX7_box_13 dX7_box_16 dX7_box_17 dX7_box_19 dX7_box_22 rfl rfl (by decide) (by decide) ?_
    exact ⟨rfl, zk (show (k_box P a w) = (1, 0) from ((if_pos c_1).trans (if_neg (by omega)))) rfl, _, _, _, _, _, _, _, _, _, X⟩
  · refine e_iload_n dX7_box_8 rfl ?_
    refine e_iconst dX7_box_9 ?_
    refine e_icmp_le (tgt := 23) ⟨by omega, by omega⟩ ⟨by omega, by omega⟩ dX7_box_10 rfl (fun c_10 => ?_) (fun c_10 => ?_)
    · refine e_aload_n dX7_box_23 rfl ?_
      refine e_iload_n dX7_box_24 rfl ?_
      refine if c_25 : cntN P a P.length ≠ 0 then ?_ else e_throwsV qcX7_125 X.obj rfl rfl (T_requireFilled X ra c_25) rfl rfl rfl rfl dX7_box_25 rfl ⟨rfl, zk (show (k_box P a w) = (2, 0) from (((if_pos c_1).trans (if_pos ⟨by omega, by omega⟩)).trans (if_neg c_25))) rfl, _, _, _, _, _, _, _, _, _, X⟩
      refine e_doesV qcX7_125 X.obj rfl rfl (S_requireFilled X ra c_25) rfl rfl rfl rfl dX7_box_25 ?_
      intro v h9 q9
      obtain ⟨rfl, rfl⟩ := q9
      refine e_aload_n dX7_box_28 rfl ?_
      refine e_iload_n dX7_box_29 rfl ?_
      refine e_doesV qcX7_107 X.obj rfl rfl (S_orderHeap X ra) rfl rfl rfl rfl dX7_box_30 ?_
      intro v h9 q9
      obtain ⟨rfl, X⟩ := q9
      have c3 : 0 ≤ w ∧ w ≤ 3 := ⟨by omega, by omega⟩
      obtain ⟨m, rfl⟩ : ∃ m : Nat, w = (m : Int) := ⟨w.toNat, by omega⟩
      refine e_aload_n dX7_box_33 rfl ?_
      refine e_getf fX7_32 X.obj rfl dX7_box_34 ?_
      refine e_iload_n dX7_box_37 rfl ?_
      refine e_pureS qcX7_256 (S_bound X.od (show m < 4 by omega)) rfl rfl rfl rfl dX7_box_38 ?_
      refine e_iret rfl dX7_box_41 (by decide) (by decide) ?_
      exact ⟨rfl, zk (show (k_box P a (m : Int)) = (0, bnd (putN P a [] P.length) m (putN P a [] P.length).length) from (((if_pos c_1).trans (if_pos c3)).trans (if_pos c_25))) rfl, _, _, _, _, _, _, _, _, _, X⟩
    · refine e_throw (text := "what is out of range") rfl rfl t_102_106 s_104 dX7_box_13 dX7_box_16 dX7_box_17 dX7_box_19 dX7_box_22 rfl rfl (by decide) (by decide) ?_
      exact ⟨rfl, zk (show (k_box P a w) = (1, 0) from ((if_pos c_1).trans (if_neg (by omega)))) rfl, _, _, _, _, _, _, _, _, _, X⟩
theorem fnO_bd {L : PL} (h : okL L) {p : Nat} (hp : 1 ≤ p) : ∀ n, n ≤ L.length → b9 (fnO L p n)
  | 0, _ => (⟨by decide, by decide⟩ : b9 1000)
  | n + 1, hn => min_b9 (fnO_bd h hp n (by omega)) (lfO_bd h hp _ (by omega))
set_option maxRecDepth 20000 in
theorem fn_loop {q : Nat} (hq : 1 ≤ q) (hq2 : q ≤ 100) (ok : okL L1) : ∀ (f n : Nat) (L2 : PL) (h : g_hp), hsX G P E S b P2 E2 S2 F L1 L2 H1 H2 QL QT qa CA CB o h0 h → n + f = L1.length → Ev (g_B G mX7_fence 1 6 (zK G (rsI [xIAE, xNSE] (0, fnO L1 q L1.length)) P E S b P2 E2 S2 F o h0)) 0 0 none h 54 [(4, .int (iN (n : Nat))), (3, .int (iN (fnO L1 q (n)))), (0, .ref o), (2, .int (iN q))] [] := by
  intro f
  induction f with
  | zero =>
    intro n L2 h X hn
    have e9 := X.od.1
    have e8 : n = L1.length := by omega
    rw [e8]
    refine e_iload dX7_fence_54 rfl ?_
    refine e_aload_n dX7_fence_56 rfl ?_
    refine e_getf fX7_32 X.obj rfl dX7_fence_57 ?_
    refine e_pureV qcX7_68 X.od.obj rfl rfl (S_size X.od) rfl rfl rfl rfl dX7_fence_60 ?_
    refine e_icmp_ge (tgt := 84) ⟨by omega, by omega⟩ ⟨by omega, by omega⟩ dX7_fence_63 rfl (fun c_63 => ?_) (fun c_63 => absurd (by omega) c_63)
    refine e_iload_n dX7_fence_84 rfl ?_
    refine e_iret rfl dX7_fence_85 (by decide) (by decide) ?_
    exact ⟨rfl, rfl, _, _, _, _, _, _, _, _, _, X⟩
  | succ f ih =>
    intro n L2 h X hn
    have e9 := X.od.1
    have b1 := fnO_bd ok hq n (by omega)
    have b2 := lfO_bd ok (i := n) hq (L1.length - n) (by omega)
    refine e_iload dX7_fence_54 rfl ?_
    refine e_aload_n dX7_fence_56 rfl ?_
    refine e_getf fX7_32 X.obj rfl dX7_fence_57 ?_
    refine e_pureV qcX7_68 X.od.obj rfl rfl (S_size X.od) rfl rfl rfl rfl dX7_fence_60 ?_
    refine e_icmp_ge (tgt := 84) ⟨by omega, by omega⟩ ⟨by omega, by omega⟩ dX7_fence_63 rfl (fun c_63 => absurd c_63 (by omega)) (fun c_63 => ?_)
    refine e_iload_n dX7_fence_66 rfl ?_
    refine e_aload_n dX7_fence_67 rfl ?_
    refine e_iload dX7_fence_68 rfl ?_
    refine e_iload_n dX7_fence_70 rfl ?_
    refine e_doesV qcX7_263 X.obj rfl rfl (S_leastFenceFrom X hq hq2 (show n ≤ L1.length by omega)) rfl rfl rfl rfl dX7_fence_71 ?_
    intro v h9 q9
    obtain ⟨rfl, L2, X⟩ := q9
    refine e_mmin ⟨by omega, by omega⟩ ⟨by omega, by omega⟩ qcX7_151 rfl dX7_fence_74 ?_
    refine e_istore_n dX7_fence_77 rfl ?_
    refine e_iinc dX7_fence_78 rfl ?_
    refine e_goto (tgt := 54) dX7_fence_81 rfl ?_
    exact e_loc [(4, .int (iN (n + 1 : Nat))), (3, .int (iN (fnO L1 q (n + 1)))), (0, .ref o), (2, .int (iN q))] ⟨rfl, rfl, rfl, rfl, trivial⟩ (ih (n + 1) _ _ X (by omega))
set_option maxRecDepth 20000 in
theorem C_fence (X : hsX G P E S b P2 E2 S2 F L1 L2 H1 H2 QL QT qa CA CB o h0 h) {a : Int} (ra : r32 a) {p : Int} (rp : r32 p) : Run G mX7_fence [.ref o, .int (iN a), .int (iN p)] none h 1 6 (zK G (rsI [xIAE, xNSE] (k_fence P a p)) P E S b P2 E2 S2 F o h0) := by
  have rp1 := rp.1
  have rp2 := rp.2
  refine run_of rfl plX7 rfl ?_
  refine e_iload_n dX7_fence_0 rfl ?_
  refine if c_1 : hpOK a then ?_ else e_throwsS qcX7_58 (T_requireHeap ra c_1) rfl rfl rfl rfl dX7_fence_1 rfl ⟨rfl, zk (show (k_fence P a p) = (1, 0) from (if_neg c_1)) rfl, _, _, _, _, _, _, _, _, _, X⟩
  refine e_doesS qcX7_58 (S_requireHeap ra c_1) rfl rfl rfl rfl dX7_fence_1 ?_
  intro v h9 q9
  obtain ⟨rfl, rfl⟩ := q9
  refine e_iload_n dX7_fence_4 rfl ?_
  refine e_iconst dX7_fence_5 ?_
  refine e_icmp_ge (tgt := 20) ⟨by omega, by omega⟩ ⟨by omega, by omega⟩ dX7_fence_6 rfl (fun c_6 => ?_) (fun c_6 => ?_)
  · refine e_aload_n dX7_fence_20 rfl ?_
    refine e_iload_n dX7_fence_21 rfl ?_
    refine e_doesV qcX7_107 X.obj rfl rfl (S_orderHeap X ra) rfl rfl rfl rfl dX7_fence_22 ?_
    intro v h9 q9
    obtain ⟨rfl, X⟩ := q9
    have e9 := ord_len P a
    have e8 := cntN_le P a P.length
    have e7 := X.yd.pts.1
    refine e_aload_n dX7_fence_25 rfl ?_
    refine e_getf fX7_32 X.obj rfl dX7_fence_26 ?_
    refine e_pureV qcX7_68 X.od.obj rfl rfl (S_size X.od) rfl rfl rfl rfl dX7_fence_29 ?_
    refine e_iload_n dX7_fence_32 rfl ?_
    refine e_icmp_ge (tgt := 47) ⟨by omega, by omega⟩ ⟨by omega, by omega⟩ dX7_fence_33 rfl (fun c_33 => ?_) (fun c_33 => ?_)
    · refine e_sipush dX7_fence_47 (by decide) ?_
      refine e_istore_n dX7_fence_50 rfl ?_
      refine e_iconst dX7_fence_51 ?_
      refine e_istore dX7_fence_52 rfl ?_
      rw [show (k_fence P a p) = (0, fnO (putN P a [] P.length) p.toNat (putN P a [] P.length).length) from ((if_pos c_1).trans (if_pos (by omega))).trans (if_pos (by omega))]
      obtain ⟨q, rfl⟩ : ∃ q : Nat, p = (q : Int) := ⟨p.toNat, by omega⟩
      exact e_loc [(4, .int (iN (0 : Nat))), (3, .int (iN (fnO (putN P a [] P.length) q 0))), (0, .ref o), (2, .int (iN q))] ⟨rfl, rfl, rfl, rfl, trivial⟩ (fn_loop (by omega) (by omega) X.od.2.2.1 _ 0 _ _ X (Nat.zero_add _))
    · refine e_throwNW (text := "the heap has not so many points") rfl rfl t_163_167 s_261 dX7_fence_36 dX7_fence_39 dX7_fence_40 dX7_fence_43 dX7_fence_46 rfl rfl (by decide) (by decide) ?_
      exact ⟨rfl, zk (show (k_fence P a p) = (2, 0) from (((if_pos c_1).trans (if_pos (by omega))).trans (if_neg (by omega)))) rfl, _, _, _, _, _, _, _, _, _, X⟩
  · refine e_throwW (text := "points is below 1") rfl rfl t_102_106 s_259 dX7_fence_9 dX7_fence_12 dX7_fence_13 dX7_fence_16 dX7_fence_19 rfl rfl (by decide) (by decide) ?_
    exact ⟨rfl, zk (show (k_fence P a p) = (1, 0) from ((if_pos c_1).trans (if_neg (by omega)))) rfl, _, _, _, _, _, _, _, _, _, X⟩
set_option maxRecDepth 20000 in
theorem C_apart (X : hsX G P E S b P2 E2 S2 F L1 L2 H1 H2 QL QT qa CA CB o h0 h) {a : Int} (ra : r32 a) {b1 : Int} (rb1 : r32 b1) : Run G mX7_apart [.ref o, .int (iN a), .int (iN b1)] none h 1 6 (zK G (rsI [xIAE, xNSE] (k_apart P a b1)) P E S b P2 E2 S2 F o h0) := by
  letI : Decidable (tch (wrapN 61 (putN P a [] P.length)) (wrapN 61 (putN P b1 [] P.length))) := Classical.propDecidable _
  refine run_of rfl plX7 rfl ?_
  refine e_aload_n dX7_apart_0 rfl ?_
  refine e_iload_n dX7_apart_1 rfl ?_
  refine e_iload_n dX7_apart_2 rfl ?_
  refine if c_1 : hp2 a b1 then (if c_2 : fl2 P a b1 then ?_ else e_throwsV qcX7_134 X.obj rfl rfl (T_requireTwo2 X ra rb1 c_1.1 c_1.2 c_2) rfl rfl rfl rfl dX7_apart_3 rfl ⟨rfl, zk (show (k_apart P a b1) = (2, 0) from ((if_pos c_1).trans (if_neg c_2))) rfl, _, _, _, _, _, _, _, _, _, X⟩) else e_throwsV qcX7_134 X.obj rfl rfl (T_requireTwo1 X ra rb1 c_1) rfl rfl rfl rfl dX7_apart_3 rfl ⟨rfl, zk (show (k_apart P a b1) = (1, 0) from (if_neg c_1)) rfl, _, _, _, _, _, _, _, _, _, X⟩
  refine e_doesV qcX7_134 X.obj rfl rfl (S_requireTwoFilled X ra rb1 ⟨c_1.1, c_1.2, c_2.1, c_2.2⟩) rfl rfl rfl rfl dX7_apart_3 ?_
  intro v h9 q9
  obtain ⟨rfl, rfl⟩ := q9
  refine e_aload_n dX7_apart_6 rfl ?_
  refine e_iload_n dX7_apart_7 rfl ?_
  refine e_iload_n dX7_apart_8 rfl ?_
  refine e_doesV qcX7_141 X.obj rfl rfl (S_wrapTwo X ra rb1) rfl rfl rfl rfl dX7_apart_9 ?_
  intro v h9 q9
  obtain ⟨rfl, X⟩ := q9
  refine e_aload_n dX7_apart_12 rfl ?_
  refine e_getf fX7_38 X.obj rfl dX7_apart_13 ?_
  refine e_aload_n dX7_apart_16 rfl ?_
  refine e_getf fX7_41 X.obj rfl dX7_apart_17 ?_
  refine e_pureS qcX7_266 (S_touch X.fh X.sh) rfl rfl rfl rfl dX7_apart_20 ?_
  refine e_ifP_ne (tgt := 30) dX7_apart_23 rfl (fun c_23 => ?_) (fun c_23 => ?_)
  · have e6 : bC (¬ tch (wrapN 61 (putN P a [] P.length)) (wrapN 61 (putN P b1 [] P.length))) = 0 := bC_f (fun w => w c_23)
    refine e_iconst dX7_apart_30 ?_
    refine e_zret rfl (by first | exact Or.inl rfl | exact Or.inr rfl | exact bP_01 _) dX7_apart_31 (by decide) (by decide) ?_
    rw [← e6]
    exact ⟨rfl, zk (show (k_apart P a b1) = (0, bC (¬ tch (wrapN 61 (putN P a [] P.length)) (wrapN 61 (putN P b1 [] P.length)))) from ((if_pos c_1).trans (if_pos c_2))) rfl, _, _, _, _, _, _, _, _, _, X⟩
  · have e6 : bC (¬ tch (wrapN 61 (putN P a [] P.length)) (wrapN 61 (putN P b1 [] P.length))) = 1 := bC_t c_23
    refine e_iconst dX7_apart_26 ?_
    refine e_goto (tgt := 31) dX7_apart_27 rfl ?_
    refine e_zret rfl (by first | exact Or.inl rfl | exact Or.inr rfl | exact bP_01 _) dX7_apart_31 (by decide) (by decide) ?_
    rw [← e6]
    exact ⟨rfl, zk (show (k_apart P a b1) = (0, bC (¬ tch (wrapN 61 (putN P a [] P.length)) (wrapN 61 (putN P b1 [] P.length)))) from ((if_pos c_1).trans (if_pos c_2))) rfl, _, _, _, _, _, _, _, _, _, X⟩
set_option maxRecDepth 20000 in
theorem C_image (X : hsX G P E S b P2 E2 S2 F L1 L2 H1 H2 QL QT qa CA CB o h0 h) : Run G mX7_image [.ref o] none h 1 6 (zK G (rsI [] (0, (P.length : Int))) P E S 1 P E S F o h0) := by
  refine run_of rfl plX7 rfl ?_
  refine e_aload_n dX7_image_0 rfl ?_
  refine e_getf fX7_16 X.obj rfl dX7_image_1 ?_
  refine e_aload_n dX7_image_4 rfl ?_
  refine e_getf fX7_12 X.obj rfl dX7_image_5 ?_
  refine e_doesV qcX7_270 X.im.obj rfl rfl (S_yardCopy (by omega) X.im X.yd) rfl rfl rfl rfl dX7_image_8 ?_
  intro v h9 q9
  obtain ⟨rfl, g9, f9⟩ := q9
  replace X := X.wI g9 f9
  clear g9 f9
  refine e_aload_n dX7_image_11 rfl ?_
  refine e_iconst dX7_image_12 ?_
  refine e_putf pfX7_19 X.obj rfl rfl rfl dX7_image_13 ?_
  replace X := X.wB 1
  refine e_aload_n dX7_image_16 rfl ?_
  refine e_getf fX7_12 X.obj rfl dX7_image_17 ?_
  refine e_getfN fX7_65 X.yd.obj rfl dX7_image_20 ?_
  refine e_pureV qcX7_68 X.yd.pts.obj rfl rfl (S_size X.yd.pts) rfl rfl rfl rfl dX7_image_23 ?_
  refine e_iret rfl dX7_image_26 (by decide) (by decide) ?_
  exact ⟨rfl, rfl, _, _, _, _, _, _, _, _, _, X⟩
set_option maxRecDepth 20000 in
theorem C_restore (X : hsX G P E S b P2 E2 S2 F L1 L2 H1 H2 QL QT qa CA CB o h0 h) (hb : r32 b) : Run G mX7_restore [.ref o] none h 1 6 (zK G (rsI [xNSE] (k_restore b P2)) (if b = 0 then P else P2) (if b = 0 then E else E2) (if b = 0 then S else S2) b P2 E2 S2 F o h0) := by
  have hb1 := hb.1
  have hb2 := hb.2
  refine run_of rfl plX7 rfl ?_
  refine e_aload_n dX7_restore_0 rfl ?_
  refine e_getf fX7_19 X.obj rfl dX7_restore_1 ?_
  refine e_if_ne (tgt := 18) ⟨by omega, by omega⟩ dX7_restore_4 rfl (fun c_4 => ?_) (fun c_4 => ?_)
  · have c0 : ¬ b = 0 := by omega
    refine e_aload_n dX7_restore_18 rfl ?_
    refine e_getf fX7_12 X.obj rfl dX7_restore_19 ?_
    refine e_aload_n dX7_restore_22 rfl ?_
    refine e_getf fX7_16 X.obj rfl dX7_restore_23 ?_
    refine e_doesV qcX7_270 X.yd.obj rfl rfl (S_yardCopy (by omega) X.yd X.im) rfl rfl rfl rfl dX7_restore_26 ?_
    intro v h9 q9
    obtain ⟨rfl, g9, f9⟩ := q9
    replace X := X.wY g9 f9
    clear g9 f9
    refine e_aload_n dX7_restore_29 rfl ?_
    refine e_getf fX7_12 X.obj rfl dX7_restore_30 ?_
    refine e_getfN fX7_65 X.yd.obj rfl dX7_restore_33 ?_
    refine e_pureV qcX7_68 X.yd.pts.obj rfl rfl (S_size X.yd.pts) rfl rfl rfl rfl dX7_restore_36 ?_
    refine e_iret rfl dX7_restore_39 (by decide) (by decide) ?_
    exact ⟨rfl, zk (show (k_restore b P2) = (0, (P2.length : Int)) from (if_neg c0)) rfl, _, _, _, _, _, _, _, _, _, (by rw [if_neg c0, if_neg c0, if_neg c0]; exact X)⟩
  · have c0 : b = 0 := by omega
    refine e_throwNW (text := "no image was taken") rfl rfl t_163_167 s_274 dX7_restore_7 dX7_restore_10 dX7_restore_11 dX7_restore_14 dX7_restore_17 rfl rfl (by decide) (by decide) ?_
    exact ⟨rfl, zk (show (k_restore b P2) = (1, 0) from (if_pos c0)) rfl, _, _, _, _, _, _, _, _, _, (by rw [if_pos c0, if_pos c0, if_pos c0]; exact X)⟩
set_option maxRecDepth 20000 in
theorem ck_loop (X : hsX G P E S b P2 E2 S2 F L1 L2 H1 H2 QL QT qa CA CB o h0 h) : ∀ (n i : Nat), i + n = F.length → Ev (g_B G mX7_checksum 1 6 (zK G (rsI [] (0, ckN F F.length)) P E S b P2 E2 S2 F o h0)) 0 0 none h 5 [(2, .int (iN (i : Nat))), (1, .int (iN (ckN F (i)))), (0, .ref o)] [] := by
  have h9 := X.fg.1
  intro n
  induction n with
  | zero =>
    intro i hin
    have e9 : i = F.length := by omega
    rw [e9]
    refine e_iload_n dX7_checksum_5 rfl ?_
    refine e_aload_n dX7_checksum_6 rfl ?_
    refine e_getf fX7_28 X.obj rfl dX7_checksum_7 ?_
    refine e_pureV qcX7_68 X.fg.obj rfl rfl (S_size X.fg) rfl rfl rfl rfl dX7_checksum_10 ?_
    refine e_icmp_ge (tgt := 50) ⟨by omega, by omega⟩ ⟨by omega, by omega⟩ dX7_checksum_13 rfl (fun c_13 => ?_) (fun c_13 => absurd (by omega) c_13)
    refine e_iload_n dX7_checksum_50 rfl ?_
    refine e_iret rfl dX7_checksum_51 (by decide) (by decide) ?_
    exact ⟨rfl, rfl, _, _, _, _, _, _, _, _, _, X⟩
  | succ n ih =>
    intro i hin
    have hi : i < F.length := by omega
    refine e_iload_n dX7_checksum_5 rfl ?_
    refine e_aload_n dX7_checksum_6 rfl ?_
    refine e_getf fX7_28 X.obj rfl dX7_checksum_7 ?_
    refine e_pureV qcX7_68 X.fg.obj rfl rfl (S_size X.fg) rfl rfl rfl rfl dX7_checksum_10 ?_
    refine e_icmp_ge (tgt := 50) ⟨by omega, by omega⟩ ⟨by omega, by omega⟩ dX7_checksum_13 rfl (fun c_13 => absurd c_13 (by omega)) (fun c_13 => ?_)
    refine e_bipush dX7_checksum_16 (by decide) ?_
    refine e_iload_n dX7_checksum_18 rfl ?_
    refine e_imul dX7_checksum_19 ?_
    refine e_aload_n dX7_checksum_20 rfl ?_
    refine e_getf fX7_28 X.obj rfl dX7_checksum_21 ?_
    refine e_iload_n dX7_checksum_24 rfl ?_
    refine e_pureV qcX7_96 X.fg.obj rfl rfl (S_xAt X.fg hi) rfl rfl rfl rfl dX7_checksum_25 ?_
    refine e_iadd dX7_checksum_28 ?_
    refine e_istore_n dX7_checksum_29 rfl ?_
    refine e_bipush dX7_checksum_30 (by decide) ?_
    refine e_iload_n dX7_checksum_32 rfl ?_
    refine e_imul dX7_checksum_33 ?_
    refine e_aload_n dX7_checksum_34 rfl ?_
    refine e_getf fX7_28 X.obj rfl dX7_checksum_35 ?_
    refine e_iload_n dX7_checksum_38 rfl ?_
    refine e_pureV qcX7_99 X.fg.obj rfl rfl (S_yAt X.fg hi) rfl rfl rfl rfl dX7_checksum_39 ?_
    refine e_iadd dX7_checksum_42 ?_
    refine e_istore_n dX7_checksum_43 rfl ?_
    refine e_iinc dX7_checksum_44 rfl ?_
    refine e_goto (tgt := 5) dX7_checksum_47 rfl ?_
    exact e_loc [(2, .int (iN (i + 1 : Nat))), (1, .int (iN (ckN F (i + 1)))), (0, .ref o)] ⟨rfl, rfl, rfl, trivial⟩ (ih (i + 1) (by omega))
set_option maxRecDepth 20000 in
theorem C_checksum (X : hsX G P E S b P2 E2 S2 F L1 L2 H1 H2 QL QT qa CA CB o h0 h) : Run G mX7_checksum [.ref o] none h 1 6 (zK G (rsI [] (0, ckN F F.length)) P E S b P2 E2 S2 F o h0) := by
  refine run_of rfl plX7 rfl ?_
  refine e_bipush dX7_checksum_0 (by decide) ?_
  refine e_istore_n dX7_checksum_2 rfl ?_
  refine e_iconst dX7_checksum_3 ?_
  refine e_istore_n dX7_checksum_4 rfl ?_
  exact e_loc [(2, .int (iN (0 : Nat))), (1, .int (iN (ckN F (0)))), (0, .ref o)] ⟨rfl, rfl, rfl, trivial⟩ (ck_loop X _ 0 (Nat.zero_add _))
end PPUB4
