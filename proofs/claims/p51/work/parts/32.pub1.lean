/-! The class: what its public methods answer, and what they leave -/
/-- an answer: 0 and a number, or the place of an exception in a list -/
def rsI (Es : List String) : Nat × Int → g_O
  | (0, v) => .inl (some (.int (iN v)))
  | (c + 1, _) => .inr (Es.getD c "")
def rsL (Es : List String) : Nat × Int → g_O
  | (0, v) => .inl (some (.long (lI v)))
  | (c + 1, _) => .inr (Es.getD c "")
def rsD (Es : List String) : Nat × UInt64 → g_O
  | (0, v) => .inl (some (.double v))
  | (c + 1, _) => .inr (Es.getD c "")
def rsF (Es : List String) : Nat × UInt32 → g_O
  | (0, v) => .inl (some (.float v))
  | (c + 1, _) => .inr (Es.getD c "")
abbrev zK (G : g_X) (A : g_O) (P E : PL) (S : Nat → PL) (b : Int) (P2 E2 : PL) (S2 : Nat → PL) (F : PL) (o : Nat) (h0 : g_hp) : g_Z := fun oc z1 h1 => z1 = none ∧ oc = A ∧ ∃ L1 L2 H1 H2 QL QT qa CA CB, hsX G P E S b P2 E2 S2 F L1 L2 H1 H2 QL QT qa CA CB o h0 h1
theorem zk {Es : List String} {k R : Nat × Int} {oc : g_O} (e : k = R) (w : oc = rsI Es R) : oc = rsI Es k := e ▸ w
noncomputable def cif {α : Type} (p : Prop) (a b : α) : α := @ite α p (Classical.propDecidable p) a b
theorem cif_t {α : Type} {p : Prop} {a b : α} (h : p) : cif p a b = a := @if_pos p (Classical.propDecidable p) h α a b
theorem cif_f {α : Type} {p : Prop} {a b : α} (h : ¬ p) : cif p a b = b := @if_neg p (Classical.propDecidable p) h α a b
theorem zkD {Es : List String} {k R : Nat × UInt64} {oc : g_O} (e : k = R) (w : oc = rsD Es R) : oc = rsD Es k := e ▸ w
theorem zkF {Es : List String} {k R : Nat × UInt32} {oc : g_O} (e : k = R) (w : oc = rsF Es R) : oc = rsF Es k := e ▸ w
theorem zkL {Es : List String} {k R : Nat × Int} {oc : g_O} (e : k = R) (w : oc = rsL Es R) : oc = rsL Es k := e ▸ w
abbrev ptC (P : PL) (a x y : Int) : Prop := hpOK a ∧ nrOK x y ∧ P.length < 60
def k_point (P : PL) (a x y : Int) : Nat × Int := if hpOK a then (if nrOK x y then (if P.length < 60 then (0, (P.length : Int)) else (2, 0)) else (1, 0)) else (1, 0)
def s_point (P : PL) (a x y : Int) : PL := if ptC P a x y then P ++ [(x, y, a)] else P
def s_drop (P : PL) (i : Int) : PL := if isPt P i then P.set i.toNat (pX P i.toNat, pY P i.toNat, -1) else P
def k_drop (P : PL) (i : Int) : Nat × Int := if isPt P i then (0, (cntN (s_drop P i) (pM P i.toNat) (s_drop P i).length : Int)) else (1, 0)
def k_pointOf (P : PL) (i w : Int) : Nat × Int := if isPt P i then (if w = 0 then (0, pM P i.toNat) else if w = 1 then (0, pX P i.toNat) else if w = 2 then (0, pY P i.toNat) else (2, 0)) else (1, 0)
def k_count (P : PL) (a : Int) : Nat × Int := if hpOK a then (0, (cntN P a P.length : Int)) else (1, 0)
def k_sorted (P : PL) (a p : Int) : Nat × Int := if hpOK a then (if crOK (putN P a [] P.length) p then (0, pM (putN P a [] P.length) p.toNat) else (2, 0)) else (1, 0)
abbrev newAt (L : PL) (i : Nat) : Prop := i = 0 ∨ ¬ (pX L (i - 1) = pX L i ∧ pY L (i - 1) = pY L i)
def plN (L : PL) : Nat → Nat
  | 0 => 0
  | n + 1 => if newAt L n then plN L n + 1 else plN L n
theorem plN_le (L : PL) : ∀ n, plN L n ≤ n
  | 0 => Nat.le_refl _
  | n + 1 => by
    have := plN_le L n
    unfold plN
    split <;> omega
def k_places (P : PL) (a : Int) : Nat × Int := if hpOK a then (0, (plN (putN P a [] P.length) (putN P a [] P.length).length : Int)) else (1, 0)
def k_turn (P : PL) (i j l : Int) : Nat × Int := if isPt P i then (if isPt P j then (if isPt P l then (0, sd3 P i.toNat j.toNat P l.toNat) else (1, 0)) else (1, 0)) else (1, 0)
section PPUB1
variable {G : g_X} {P E : PL} {S : Nat → PL} {b : Int} {P2 E2 : PL} {S2 : Nat → PL} {F L1 L2 H1 H2 : PL} {QL : PL} {QT : List Int} {qa : Int} {CA CB : PL} {o : Nat} {h0 h : g_hp}
set_option maxRecDepth 20000 in
theorem C_point (X : hsX G P E S b P2 E2 S2 F L1 L2 H1 H2 QL QT qa CA CB o h0 h) {a : Int} (ra : r32 a) {x : Int} (rx : r32 x) {y : Int} (ry : r32 y) : Run G mX7_point [.ref o, .int (iN a), .int (iN x), .int (iN y)] none h 1 6 (zK G (rsI [xIAE, xISE] (k_point P a x y)) (s_point P a x y) E S b P2 E2 S2 F o h0) := by
  have ra1 := ra.1
  have ra2 := ra.2
  have rx1 := rx.1
  have rx2 := rx.2
  have ry1 := ry.1
  have ry2 := ry.2
  refine run_of rfl plX7 rfl ?_
  refine e_iload_n dX7_point_0 rfl ?_
  refine if c_1 : hpOK a then ?_ else e_throwsS qcX7_58 (T_requireHeap ra c_1) rfl rfl rfl rfl dX7_point_1 rfl ⟨rfl, zk (show (k_point P a x y) = (1, 0) from (if_neg c_1)) rfl, _, _, _, _, _, _, _, _, _, (by rw [show s_point P a x y = P from if_neg (fun w => c_1 w.1)]; exact X)⟩
  refine e_doesS qcX7_58 (S_requireHeap ra c_1) rfl rfl rfl rfl dX7_point_1 ?_
  intro v h9 q9
  obtain ⟨rfl, rfl⟩ := q9
  refine e_iload_n dX7_point_4 rfl ?_
  refine e_iload_n dX7_point_5 rfl ?_
  refine if c_6 : nrOK x y then ?_ else e_throwsS qcX7_61 (T_requireNear rx ry c_6) rfl rfl rfl rfl dX7_point_6 rfl ⟨rfl, zk (show (k_point P a x y) = (1, 0) from ((if_pos c_1).trans (if_neg c_6))) rfl, _, _, _, _, _, _, _, _, _, (by rw [show s_point P a x y = P from if_neg (fun w => c_6 w.2.1)]; exact X)⟩
  refine e_doesS qcX7_61 (S_requireNear rx ry c_6) rfl rfl rfl rfl dX7_point_6 ?_
  intro v h9 q9
  obtain ⟨rfl, rfl⟩ := q9
  refine e_aload_n dX7_point_9 rfl ?_
  refine e_getf fX7_12 X.obj rfl dX7_point_10 ?_
  refine e_getfN fX7_65 X.yd.obj rfl dX7_point_13 ?_
  refine e_pureV qcX7_68 X.yd.pts.obj rfl rfl (S_size X.yd.pts) rfl rfl rfl rfl dX7_point_16 ?_
  refine e_bipush dX7_point_19 (by decide) ?_
  have e9 := X.yd.pts.1
  refine e_icmp_lt (tgt := 34) ⟨by omega, by omega⟩ ⟨by omega, by omega⟩ dX7_point_21 rfl (fun c_21 => ?_) (fun c_21 => ?_)
  · refine e_aload_n dX7_point_34 rfl ?_
    refine e_getf fX7_12 X.obj rfl dX7_point_35 ?_
    refine e_getfN fX7_65 X.yd.obj rfl dX7_point_38 ?_
    refine e_iload_n dX7_point_41 rfl ?_
    refine e_iload_n dX7_point_42 rfl ?_
    refine e_iload_n dX7_point_43 rfl ?_
    refine e_doesV qcX7_79 X.yd.pts.obj rfl rfl (S_append X.yd.pts (by omega) (show bd x from ⟨by omega, by omega⟩) (show bd y from ⟨by omega, by omega⟩) (show bd a from ⟨by omega, by omega⟩)) rfl rfl rfl rfl dX7_point_44 ?_
    intro v h9 q9
    obtain ⟨rfl, g9, f9⟩ := q9
    replace X := X.wP g9 f9
    clear g9 f9
    refine e_aload_n dX7_point_47 rfl ?_
    refine e_getf fX7_12 X.obj rfl dX7_point_48 ?_
    refine e_getfN fX7_65 X.yd.obj rfl dX7_point_51 ?_
    refine e_pureV qcX7_68 X.yd.pts.obj rfl rfl (S_size X.yd.pts) rfl rfl rfl rfl dX7_point_54 ?_
    refine e_iconst dX7_point_57 ?_
    refine e_isub dX7_point_58 ?_
    rw [show (((P ++ [(x, y, a)]).length : Nat) : Int) - 1 = (P.length : Int) from by rw [List.length_append, List.length_singleton]; omega]
    refine e_iret rfl dX7_point_59 (by decide) (by decide) ?_
    exact ⟨rfl, zk (show (k_point P a x y) = (0, (P.length : Int)) from (((if_pos c_1).trans (if_pos c_6)).trans (if_pos (by omega)))) rfl, _, _, _, _, _, _, _, _, _, (by rw [show s_point P a x y = P ++ [(x, y, a)] from if_pos ⟨c_1, c_6, by omega⟩]; exact X)⟩
  · refine e_throw (text := "60 points have come") rfl rfl t_72_76 s_74 dX7_point_24 dX7_point_27 dX7_point_28 dX7_point_30 dX7_point_33 rfl rfl (by decide) (by decide) ?_
    exact ⟨rfl, zk (show (k_point P a x y) = (2, 0) from (((if_pos c_1).trans (if_pos c_6)).trans (if_neg (by omega)))) rfl, _, _, _, _, _, _, _, _, _, (by rw [show s_point P a x y = P from if_neg (fun w => absurd w.2.2 (by omega))]; exact X)⟩
set_option maxRecDepth 20000 in
theorem C_drop (X : hsX G P E S b P2 E2 S2 F L1 L2 H1 H2 QL QT qa CA CB o h0 h) {i : Int} (ri : r32 i) : Run G mX7_drop [.ref o, .int (iN i)] none h 1 6 (zK G (rsI [xIOB] (k_drop P i)) (s_drop P i) E S b P2 E2 S2 F o h0) := by
  refine run_of rfl plX7 rfl ?_
  refine e_aload_n dX7_drop_0 rfl ?_
  refine e_iload_n dX7_drop_1 rfl ?_
  refine if c_2 : isPt P i then ?_ else e_throwsV qcX7_83 X.obj rfl rfl (T_requirePoint X ri c_2) rfl rfl rfl rfl dX7_drop_2 rfl ⟨rfl, zk (show (k_drop P i) = (1, 0) from (if_neg c_2)) rfl, _, _, _, _, _, _, _, _, _, (by rw [show s_drop P i = P from if_neg c_2]; exact X)⟩
  refine e_doesV qcX7_83 X.obj rfl rfl (S_requirePoint X ri c_2) rfl rfl rfl rfl dX7_drop_2 ?_
  intro v h9 q9
  obtain ⟨rfl, rfl⟩ := q9
  obtain ⟨m, rfl⟩ : ∃ m : Nat, i = (m : Int) := ⟨i.toNat, by have := c_2.1; omega⟩
  have hm : m < P.length := by have := c_2.2.1; omega
  have hb := (X.yd.pts.2.2.1.at hm).2.2
  have e7 := X.yd.pts.1
  refine e_aload_n dX7_drop_5 rfl ?_
  refine e_getf fX7_12 X.obj rfl dX7_drop_6 ?_
  refine e_getfN fX7_65 X.yd.obj rfl dX7_drop_9 ?_
  refine e_iload_n dX7_drop_12 rfl ?_
  refine e_pureV qcX7_86 X.yd.pts.obj rfl rfl (S_markAt X.yd.pts hm) rfl rfl rfl rfl dX7_drop_13 ?_
  refine e_istore_n dX7_drop_16 rfl ?_
  refine e_aload_n dX7_drop_17 rfl ?_
  refine e_getf fX7_12 X.obj rfl dX7_drop_18 ?_
  refine e_getfN fX7_65 X.yd.obj rfl dX7_drop_21 ?_
  refine e_iload_n dX7_drop_24 rfl ?_
  refine e_iconst dX7_drop_25 ?_
  refine e_doesV qcX7_90 X.yd.pts.obj rfl rfl (S_mark X.yd.pts hm (show bd (-1) from ⟨by decide, by decide⟩)) rfl rfl rfl rfl dX7_drop_26 ?_
  intro v h9 q9
  obtain ⟨rfl, g9, f9⟩ := q9
  replace X := X.wP g9 f9
  clear g9 f9
  refine e_aload_n dX7_drop_29 rfl ?_
  refine e_getf fX7_12 X.obj rfl dX7_drop_30 ?_
  refine e_iload_n dX7_drop_33 rfl ?_
  refine e_pureV qcX7_93 X.yd.obj rfl rfl (S_heapSize X.yd (show r32 (pM P m) from ⟨by omega, by omega⟩)) rfl rfl rfl rfl dX7_drop_34 ?_
  refine e_iret rfl dX7_drop_37 (by decide) (by decide) ?_
  have e9 : s_drop P (m : Int) = P.set m (pX P m, pY P m, -1) := if_pos c_2
  exact ⟨rfl, zk (show k_drop P (m : Int) = (0, (cntN (P.set m (pX P m, pY P m, -1)) (pM P m) (P.set m (pX P m, pY P m, -1)).length : Int)) from by rw [← e9]; exact if_pos c_2) rfl, _, _, _, _, _, _, _, _, _, (by rw [e9]; exact X)⟩
set_option maxRecDepth 20000 in
theorem C_pointOf (X : hsX G P E S b P2 E2 S2 F L1 L2 H1 H2 QL QT qa CA CB o h0 h) {i : Int} (ri : r32 i) {w : Int} (rw : r32 w) : Run G mX7_pointOf [.ref o, .int (iN i), .int (iN w)] none h 1 6 (zK G (rsI [xIOB, xIAE] (k_pointOf P i w)) P E S b P2 E2 S2 F o h0) := by
  have rw1 := rw.1
  have rw2 := rw.2
  refine run_of rfl plX7 rfl ?_
  refine e_aload_n dX7_pointOf_0 rfl ?_
  refine e_iload_n dX7_pointOf_1 rfl ?_
  refine if c_2 : isPt P i then ?_ else e_throwsV qcX7_83 X.obj rfl rfl (T_requirePoint X ri c_2) rfl rfl rfl rfl dX7_pointOf_2 rfl ⟨rfl, zk (show (k_pointOf P i w) = (1, 0) from (if_neg c_2)) rfl, _, _, _, _, _, _, _, _, _, X⟩
  refine e_doesV qcX7_83 X.obj rfl rfl (S_requirePoint X ri c_2) rfl rfl rfl rfl dX7_pointOf_2 ?_
  intro v h9 q9
  obtain ⟨rfl, rfl⟩ := q9
  obtain ⟨m, rfl⟩ : ∃ m : Nat, i = (m : Int) := ⟨i.toNat, by have := c_2.1; omega⟩
  have hm : m < P.length := by have := c_2.2.1; omega
  refine e_iload_n dX7_pointOf_5 rfl ?_
  by_cases c0 : w = 0
  · rw [show iN w = iN 0 from by rw [c0]]
    refine e_tableIn (off := 26) (tgt := 32) dX7_pointOf_6 (by rw [iN_toInt ⟨by omega, by omega⟩]; omega) (by rw [iN_toInt ⟨by omega, by omega⟩]; omega) (by rw [iN_toInt ⟨by omega, by omega⟩]; rfl) rfl ?_
    refine e_aload_n dX7_pointOf_32 rfl ?_
    refine e_getf fX7_12 X.obj rfl dX7_pointOf_33 ?_
    refine e_getfN fX7_65 X.yd.obj rfl dX7_pointOf_36 ?_
    refine e_iload_n dX7_pointOf_39 rfl ?_
    refine e_pureV qcX7_86 X.yd.pts.obj rfl rfl (S_markAt X.yd.pts hm) rfl rfl rfl rfl dX7_pointOf_40 ?_
    refine e_iret rfl dX7_pointOf_43 (by decide) (by decide) ?_
    exact ⟨rfl, zk (show (k_pointOf P (m : Int) w) = (0, pM P m) from ((if_pos c_2).trans (if_pos c0))) rfl, _, _, _, _, _, _, _, _, _, X⟩
  by_cases c1 : w = 1
  · rw [show iN w = iN 1 from by rw [c1]]
    refine e_tableIn (off := 38) (tgt := 44) dX7_pointOf_6 (by rw [iN_toInt ⟨by omega, by omega⟩]; omega) (by rw [iN_toInt ⟨by omega, by omega⟩]; omega) (by rw [iN_toInt ⟨by omega, by omega⟩]; rfl) rfl ?_
    refine e_aload_n dX7_pointOf_44 rfl ?_
    refine e_getf fX7_12 X.obj rfl dX7_pointOf_45 ?_
    refine e_getfN fX7_65 X.yd.obj rfl dX7_pointOf_48 ?_
    refine e_iload_n dX7_pointOf_51 rfl ?_
    refine e_pureV qcX7_96 X.yd.pts.obj rfl rfl (S_xAt X.yd.pts hm) rfl rfl rfl rfl dX7_pointOf_52 ?_
    refine e_iret rfl dX7_pointOf_55 (by decide) (by decide) ?_
    exact ⟨rfl, zk (show (k_pointOf P (m : Int) w) = (0, pX P m) from (((if_pos c_2).trans (if_neg c0)).trans (if_pos c1))) rfl, _, _, _, _, _, _, _, _, _, X⟩
  by_cases c2 : w = 2
  · rw [show iN w = iN 2 from by rw [c2]]
    refine e_tableIn (off := 50) (tgt := 56) dX7_pointOf_6 (by rw [iN_toInt ⟨by omega, by omega⟩]; omega) (by rw [iN_toInt ⟨by omega, by omega⟩]; omega) (by rw [iN_toInt ⟨by omega, by omega⟩]; rfl) rfl ?_
    refine e_aload_n dX7_pointOf_56 rfl ?_
    refine e_getf fX7_12 X.obj rfl dX7_pointOf_57 ?_
    refine e_getfN fX7_65 X.yd.obj rfl dX7_pointOf_60 ?_
    refine e_iload_n dX7_pointOf_63 rfl ?_
    refine e_pureV qcX7_99 X.yd.pts.obj rfl rfl (S_yAt X.yd.pts hm) rfl rfl rfl rfl dX7_pointOf_64 ?_
    refine e_iret rfl dX7_pointOf_67 (by decide) (by decide) ?_
    exact ⟨rfl, zk (show (k_pointOf P (m : Int) w) = (0, pY P m) from ((((if_pos c_2).trans (if_neg c0)).trans (if_neg c1)).trans (if_pos c2))) rfl, _, _, _, _, _, _, _, _, _, X⟩
  refine e_tableOut (tgt := 68) dX7_pointOf_6 (by rw [iN_toInt ⟨by omega, by omega⟩]; omega) rfl ?_
  refine e_throw (text := "what is out of range") rfl rfl t_102_106 s_104 dX7_pointOf_68 dX7_pointOf_71 dX7_pointOf_72 dX7_pointOf_74 dX7_pointOf_77 rfl rfl (by decide) (by decide) ?_
  exact ⟨rfl, zk (show (k_pointOf P (m : Int) w) = (2, 0) from ((((if_pos c_2).trans (if_neg c0)).trans (if_neg c1)).trans (if_neg c2))) rfl, _, _, _, _, _, _, _, _, _, X⟩
set_option maxRecDepth 20000 in
theorem C_count (X : hsX G P E S b P2 E2 S2 F L1 L2 H1 H2 QL QT qa CA CB o h0 h) {a : Int} (ra : r32 a) : Run G mX7_count [.ref o, .int (iN a)] none h 1 6 (zK G (rsI [xIAE] (k_count P a)) P E S b P2 E2 S2 F o h0) := by
  refine run_of rfl plX7 rfl ?_
  refine e_iload_n dX7_count_0 rfl ?_
  refine if c_1 : hpOK a then ?_ else e_throwsS qcX7_58 (T_requireHeap ra c_1) rfl rfl rfl rfl dX7_count_1 rfl ⟨rfl, zk (show (k_count P a) = (1, 0) from (if_neg c_1)) rfl, _, _, _, _, _, _, _, _, _, X⟩
  refine e_doesS qcX7_58 (S_requireHeap ra c_1) rfl rfl rfl rfl dX7_count_1 ?_
  intro v h9 q9
  obtain ⟨rfl, rfl⟩ := q9
  refine e_aload_n dX7_count_4 rfl ?_
  refine e_getf fX7_12 X.obj rfl dX7_count_5 ?_
  refine e_iload_n dX7_count_8 rfl ?_
  refine e_pureV qcX7_93 X.yd.obj rfl rfl (S_heapSize X.yd ra) rfl rfl rfl rfl dX7_count_9 ?_
  refine e_iret rfl dX7_count_12 (by decide) (by decide) ?_
  exact ⟨rfl, zk (show (k_count P a) = (0, ((cntN P a P.length) : Int)) from (if_pos c_1)) rfl, _, _, _, _, _, _, _, _, _, X⟩
set_option maxRecDepth 20000 in
theorem C_sorted (X : hsX G P E S b P2 E2 S2 F L1 L2 H1 H2 QL QT qa CA CB o h0 h) {a : Int} (ra : r32 a) {p : Int} (rp : r32 p) : Run G mX7_sorted [.ref o, .int (iN a), .int (iN p)] none h 1 6 (zK G (rsI [xIAE, xIOB] (k_sorted P a p)) P E S b P2 E2 S2 F o h0) := by
  have rp1 := rp.1
  have rp2 := rp.2
  refine run_of rfl plX7 rfl ?_
  refine e_iload_n dX7_sorted_0 rfl ?_
  refine if c_1 : hpOK a then ?_ else e_throwsS qcX7_58 (T_requireHeap ra c_1) rfl rfl rfl rfl dX7_sorted_1 rfl ⟨rfl, zk (show (k_sorted P a p) = (1, 0) from (if_neg c_1)) rfl, _, _, _, _, _, _, _, _, _, X⟩
  refine e_doesS qcX7_58 (S_requireHeap ra c_1) rfl rfl rfl rfl dX7_sorted_1 ?_
  intro v h9 q9
  obtain ⟨rfl, rfl⟩ := q9
  refine e_aload_n dX7_sorted_4 rfl ?_
  refine e_iload_n dX7_sorted_5 rfl ?_
  refine e_doesV qcX7_107 X.obj rfl rfl (S_orderHeap X ra) rfl rfl rfl rfl dX7_sorted_6 ?_
  intro v h9 q9
  obtain ⟨rfl, X⟩ := q9
  have e9 := ord_len P a
  have e8 := cntN_le P a P.length
  have e7 := X.yd.pts.1
  refine e_iload_n dX7_sorted_9 rfl ?_
  refine e_if_lt (tgt := 24) ⟨by omega, by omega⟩ dX7_sorted_10 rfl (fun c_10 => ?_) (fun c_10 => ?_)
  · refine e_throw (text := "there is no such place") rfl rfl t_110_114 s_112 dX7_sorted_24 dX7_sorted_27 dX7_sorted_28 dX7_sorted_30 dX7_sorted_33 rfl rfl (by decide) (by decide) ?_
    exact ⟨rfl, zk (show (k_sorted P a p) = (2, 0) from ((if_pos c_1).trans (if_neg (by omega)))) rfl, _, _, _, _, _, _, _, _, _, X⟩
  · refine e_iload_n dX7_sorted_13 rfl ?_
    refine e_aload_n dX7_sorted_14 rfl ?_
    refine e_getf fX7_32 X.obj rfl dX7_sorted_15 ?_
    refine e_pureV qcX7_68 X.od.obj rfl rfl (S_size X.od) rfl rfl rfl rfl dX7_sorted_18 ?_
    refine e_icmp_lt (tgt := 34) ⟨by omega, by omega⟩ ⟨by omega, by omega⟩ dX7_sorted_21 rfl (fun c_21 => ?_) (fun c_21 => ?_)
    · have c3 : crOK (putN P a [] P.length) p := ⟨by omega, c_21⟩
      obtain ⟨m, rfl⟩ : ∃ m : Nat, p = (m : Int) := ⟨p.toNat, by omega⟩
      refine e_aload_n dX7_sorted_34 rfl ?_
      refine e_getf fX7_32 X.obj rfl dX7_sorted_35 ?_
      refine e_iload_n dX7_sorted_38 rfl ?_
      refine e_pureV qcX7_86 X.od.obj rfl rfl (S_markAt X.od (show m < _ by have := c3.2; omega)) rfl rfl rfl rfl dX7_sorted_39 ?_
      refine e_iret rfl dX7_sorted_42 (by decide) (by decide) ?_
      exact ⟨rfl, zk (show (k_sorted P a (m : Int)) = (0, pM (putN P a [] P.length) m) from ((if_pos c_1).trans (if_pos c3))) rfl, _, _, _, _, _, _, _, _, _, X⟩
    · refine e_throw (text := "there is no such place") rfl rfl t_110_114 s_112 dX7_sorted_24 dX7_sorted_27 dX7_sorted_28 dX7_sorted_30 dX7_sorted_33 rfl rfl (by decide) (by decide) ?_
      exact ⟨rfl, zk (show (k_sorted P a p) = (2, 0) from ((if_pos c_1).trans (if_neg (by omega)))) rfl, _, _, _, _, _, _, _, _, _, X⟩
set_option maxRecDepth 20000 in
theorem pc_loop (X : hsX G P E S b P2 E2 S2 F L1 L2 H1 H2 QL QT qa CA CB o h0 h) : ∀ (n i : Nat), i + n = L1.length → Ev (g_B G mX7_places 1 6 (zK G (rsI [xIAE] (0, (plN L1 L1.length : Int))) P E S b P2 E2 S2 F o h0)) 0 0 none h 13 [(3, .int (iN (i : Nat))), (2, .int (iN (plN L1 (i) : Nat))), (0, .ref o)] [] := by
  have h9 := X.od.1
  intro n
  induction n with
  | zero =>
    intro i hin
    have e9 : i = L1.length := by omega
    rw [e9]
    refine e_iload_n dX7_places_13 rfl ?_
    refine e_aload_n dX7_places_14 rfl ?_
    refine e_getf fX7_32 X.obj rfl dX7_places_15 ?_
    refine e_pureV qcX7_68 X.od.obj rfl rfl (S_size X.od) rfl rfl rfl rfl dX7_places_18 ?_
    refine e_icmp_ge (tgt := 66) ⟨by omega, by omega⟩ ⟨by omega, by omega⟩ dX7_places_21 rfl (fun c_21 => ?_) (fun c_21 => absurd (by omega) c_21)
    refine e_iload_n dX7_places_66 rfl ?_
    refine e_iret rfl dX7_places_67 (by decide) (by decide) ?_
    exact ⟨rfl, rfl, _, _, _, _, _, _, _, _, _, X⟩
  | succ n ih =>
    intro i hin
    have hi : i < L1.length := by omega
    have hb := X.od.2.2.1.at hi
    have hp := plN_le L1 i
    refine e_iload_n dX7_places_13 rfl ?_
    refine e_aload_n dX7_places_14 rfl ?_
    refine e_getf fX7_32 X.obj rfl dX7_places_15 ?_
    refine e_pureV qcX7_68 X.od.obj rfl rfl (S_size X.od) rfl rfl rfl rfl dX7_places_18 ?_
    refine e_icmp_ge (tgt := 66) ⟨by omega, by omega⟩ ⟨by omega, by omega⟩ dX7_places_21 rfl (fun c_21 => absurd c_21 (by omega)) (fun c_21 => ?_)
    refine e_iload_n dX7_places_24 rfl ?_
    refine e_if_eq (tgt := 57) ⟨by omega, by omega⟩ dX7_places_25 rfl (fun c_25 => ?_) (fun c_25 => ?_)
    · have e6 : plN L1 (i + 1) = plN L1 i + 1 := if_pos (Or.inl (by omega))
      refine e_iinc dX7_places_57 rfl ?_
      refine e_iinc dX7_places_60 rfl ?_
      refine e_goto (tgt := 13) dX7_places_63 rfl ?_
      exact e_loc [(3, .int (iN (i + 1 : Nat))), (2, .int (iN (plN L1 (i + 1) : Nat))), (0, .ref o)] ⟨rfl, by rw [e6]; rfl, rfl, trivial⟩ (ih (i + 1) (by omega))
    · have e5 : (i : Int) - 1 = ((i - 1 : Nat) : Int) := by omega
      refine e_aload_n dX7_places_28 rfl ?_
      refine e_getf fX7_32 X.obj rfl dX7_places_29 ?_
      refine e_iload_n dX7_places_32 rfl ?_
      refine e_iconst dX7_places_33 ?_
      refine e_isub dX7_places_34 ?_
      rw [e5]
      refine e_aload_n dX7_places_35 rfl ?_
      refine e_getf fX7_32 X.obj rfl dX7_places_36 ?_
      refine e_iload_n dX7_places_39 rfl ?_
      refine e_pureV qcX7_96 X.od.obj rfl rfl (S_xAt X.od hi) rfl rfl rfl rfl dX7_places_40 ?_
      refine e_aload_n dX7_places_43 rfl ?_
      refine e_getf fX7_32 X.obj rfl dX7_places_44 ?_
      refine e_iload_n dX7_places_47 rfl ?_
      refine e_pureV qcX7_99 X.od.obj rfl rfl (S_yAt X.od hi) rfl rfl rfl rfl dX7_places_48 ?_
      refine e_pureV qcX7_115 X.od.obj rfl rfl (S_isAt X.od (show i - 1 < L1.length by omega) ⟨by omega, by omega⟩ ⟨by omega, by omega⟩) rfl rfl rfl rfl dX7_places_51 ?_
      refine e_ifP_ne (tgt := 60) dX7_places_54 rfl (fun c_54 => ?_) (fun c_54 => ?_)
      · have e6 : plN L1 (i + 1) = plN L1 i := if_neg (fun w => w.elim (fun w => absurd w (by omega)) (fun w => w c_54))
        refine e_iinc dX7_places_60 rfl ?_
        refine e_goto (tgt := 13) dX7_places_63 rfl ?_
        exact e_loc [(3, .int (iN (i + 1 : Nat))), (2, .int (iN (plN L1 (i + 1) : Nat))), (0, .ref o)] ⟨rfl, by rw [e6]; rfl, rfl, trivial⟩ (ih (i + 1) (by omega))
      · have e6 : plN L1 (i + 1) = plN L1 i + 1 := if_pos (Or.inr c_54)
        refine e_iinc dX7_places_57 rfl ?_
        refine e_iinc dX7_places_60 rfl ?_
        refine e_goto (tgt := 13) dX7_places_63 rfl ?_
        exact e_loc [(3, .int (iN (i + 1 : Nat))), (2, .int (iN (plN L1 (i + 1) : Nat))), (0, .ref o)] ⟨rfl, by rw [e6]; rfl, rfl, trivial⟩ (ih (i + 1) (by omega))
set_option maxRecDepth 20000 in
theorem C_places (X : hsX G P E S b P2 E2 S2 F L1 L2 H1 H2 QL QT qa CA CB o h0 h) {a : Int} (ra : r32 a) : Run G mX7_places [.ref o, .int (iN a)] none h 1 6 (zK G (rsI [xIAE] (k_places P a)) P E S b P2 E2 S2 F o h0) := by
  refine run_of rfl plX7 rfl ?_
  refine e_iload_n dX7_places_0 rfl ?_
  refine if c_1 : hpOK a then ?_ else e_throwsS qcX7_58 (T_requireHeap ra c_1) rfl rfl rfl rfl dX7_places_1 rfl ⟨rfl, zk (show (k_places P a) = (1, 0) from (if_neg c_1)) rfl, _, _, _, _, _, _, _, _, _, X⟩
  refine e_doesS qcX7_58 (S_requireHeap ra c_1) rfl rfl rfl rfl dX7_places_1 ?_
  intro v h9 q9
  obtain ⟨rfl, rfl⟩ := q9
  refine e_aload_n dX7_places_4 rfl ?_
  refine e_iload_n dX7_places_5 rfl ?_
  refine e_doesV qcX7_107 X.obj rfl rfl (S_orderHeap X ra) rfl rfl rfl rfl dX7_places_6 ?_
  intro v h9 q9
  obtain ⟨rfl, X⟩ := q9
  refine e_iconst dX7_places_9 ?_
  refine e_istore_n dX7_places_10 rfl ?_
  refine e_iconst dX7_places_11 ?_
  refine e_istore_n dX7_places_12 rfl ?_
  rw [show (k_places P a) = (0, (plN (putN P a [] P.length) (putN P a [] P.length).length : Int)) from if_pos c_1]
  exact e_loc [(3, .int (iN (0 : Nat))), (2, .int (iN (plN (putN P a [] P.length) 0 : Nat))), (0, .ref o)] ⟨rfl, rfl, rfl, trivial⟩ (pc_loop X _ 0 (Nat.zero_add _))
set_option maxRecDepth 20000 in
theorem C_turn (X : hsX G P E S b P2 E2 S2 F L1 L2 H1 H2 QL QT qa CA CB o h0 h) {i : Int} (ri : r32 i) {j : Int} (rj : r32 j) {l : Int} (rl : r32 l) : Run G mX7_turn [.ref o, .int (iN i), .int (iN j), .int (iN l)] none h 1 6 (zK G (rsI [xIOB] (k_turn P i j l)) P E S b P2 E2 S2 F o h0) := by
  refine run_of rfl plX7 rfl ?_
  refine e_aload_n dX7_turn_0 rfl ?_
  refine e_iload_n dX7_turn_1 rfl ?_
  refine if c_2 : isPt P i then ?_ else e_throwsV qcX7_83 X.obj rfl rfl (T_requirePoint X ri c_2) rfl rfl rfl rfl dX7_turn_2 rfl ⟨rfl, zk (show (k_turn P i j l) = (1, 0) from (if_neg c_2)) rfl, _, _, _, _, _, _, _, _, _, X⟩
  refine e_doesV qcX7_83 X.obj rfl rfl (S_requirePoint X ri c_2) rfl rfl rfl rfl dX7_turn_2 ?_
  intro v h9 q9
  obtain ⟨rfl, rfl⟩ := q9
  refine e_aload_n dX7_turn_5 rfl ?_
  refine e_iload_n dX7_turn_6 rfl ?_
  refine if c_7 : isPt P j then ?_ else e_throwsV qcX7_83 X.obj rfl rfl (T_requirePoint X rj c_7) rfl rfl rfl rfl dX7_turn_7 rfl ⟨rfl, zk (show (k_turn P i j l) = (1, 0) from ((if_pos c_2).trans (if_neg c_7))) rfl, _, _, _, _, _, _, _, _, _, X⟩
  refine e_doesV qcX7_83 X.obj rfl rfl (S_requirePoint X rj c_7) rfl rfl rfl rfl dX7_turn_7 ?_
  intro v h9 q9
  obtain ⟨rfl, rfl⟩ := q9
  refine e_aload_n dX7_turn_10 rfl ?_
  refine e_iload_n dX7_turn_11 rfl ?_
  refine if c_12 : isPt P l then ?_ else e_throwsV qcX7_83 X.obj rfl rfl (T_requirePoint X rl c_12) rfl rfl rfl rfl dX7_turn_12 rfl ⟨rfl, zk (show (k_turn P i j l) = (1, 0) from (((if_pos c_2).trans (if_pos c_7)).trans (if_neg c_12))) rfl, _, _, _, _, _, _, _, _, _, X⟩
  refine e_doesV qcX7_83 X.obj rfl rfl (S_requirePoint X rl c_12) rfl rfl rfl rfl dX7_turn_12 ?_
  intro v h9 q9
  obtain ⟨rfl, rfl⟩ := q9
  obtain ⟨m, rfl⟩ : ∃ m : Nat, i = (m : Int) := ⟨i.toNat, by have := c_2.1; omega⟩
  have hm : m < P.length := by have := c_2.2.1; omega
  obtain ⟨m2, rfl⟩ : ∃ m2 : Nat, j = (m2 : Int) := ⟨j.toNat, by have := c_7.1; omega⟩
  have hm2 : m2 < P.length := by have := c_7.2.1; omega
  obtain ⟨m3, rfl⟩ : ∃ m3 : Nat, l = (m3 : Int) := ⟨l.toNat, by have := c_12.1; omega⟩
  have hm3 : m3 < P.length := by have := c_12.2.1; omega
  refine e_aload_n dX7_turn_15 rfl ?_
  refine e_getf fX7_12 X.obj rfl dX7_turn_16 ?_
  refine e_getfN fX7_65 X.yd.obj rfl dX7_turn_19 ?_
  refine e_iload_n dX7_turn_22 rfl ?_
  refine e_iload_n dX7_turn_23 rfl ?_
  refine e_aload_n dX7_turn_24 rfl ?_
  refine e_getf fX7_12 X.obj rfl dX7_turn_25 ?_
  refine e_getfN fX7_65 X.yd.obj rfl dX7_turn_28 ?_
  refine e_iload_n dX7_turn_31 rfl ?_
  refine e_pureS qcX7_119 (S_side X.yd.pts X.yd.pts hm hm2 hm3) rfl rfl rfl rfl dX7_turn_32 ?_
  refine e_iret rfl dX7_turn_35 (by decide) (by decide) ?_
  exact ⟨rfl, zk (show (k_turn P (m : Int) (m2 : Int) (m3 : Int)) = (0, sd3 P m m2 P m3) from (((if_pos c_2).trans (if_pos c_7)).trans (if_pos c_12))) rfl, _, _, _, _, _, _, _, _, _, X⟩
end PPUB1
