/-! The class: hulls, sums, layers -/
theorem cntN_two (P : PL) {a b : Int} (hab : ¬ b = a) : ∀ n, cntN P a n + cntN P b n ≤ n
  | 0 => Nat.le_refl _
  | n + 1 => by
    have := cntN_two P hab n
    unfold cntN
    split
    · rename_i c
      rw [if_neg (fun w => hab (w.symm.trans c))]
      omega
    · split <;> omega
def k_hull (P : PL) (a : Int) : Nat × Int := if hpOK a then (if cntN P a P.length ≠ 0 then (0, ((wrapN 61 (putN P a [] P.length)).length : Int)) else (2, 0)) else (1, 0)
def s_hull (P : PL) (a : Int) (F : PL) : PL := if hpOK a ∧ cntN P a P.length ≠ 0 then wrapN 61 (putN P a [] P.length) else F
abbrev hp2 (a b1 : Int) : Prop := hpOK a ∧ hpOK b1
abbrev fl2 (P : PL) (a b1 : Int) : Prop := cntN P a P.length ≠ 0 ∧ cntN P b1 P.length ≠ 0
def jnL (P : PL) (a b1 : Int) : PL := if b1 = a then (putN P a [] P.length) else putN P b1 (putN P a [] P.length) P.length
def k_join (P : PL) (a b1 : Int) : Nat × Int := if hp2 a b1 then (if fl2 P a b1 then (0, ((wrapN 61 (jnL P a b1)).length : Int)) else (2, 0)) else (1, 0)
def s_join (P : PL) (a b1 : Int) (F : PL) : PL := if hp2 a b1 ∧ fl2 P a b1 then wrapN 61 (jnL P a b1) else F
abbrev smL (P : PL) (a b1 : Int) : PL := addN 61 (wrapN 61 (putN P a [] P.length)) (wrapN 61 (putN P b1 [] P.length))
def k_sum (P : PL) (a b1 : Int) : Nat × Int := if hp2 a b1 then (if fl2 P a b1 then (0, ((smL P a b1).length : Int)) else (2, 0)) else (1, 0)
def s_sum (P : PL) (a b1 : Int) (F : PL) : PL := if hp2 a b1 ∧ fl2 P a b1 then smL P a b1 else F
noncomputable abbrev pl1 (L : PL) : PL := peelN (wrapN 61 L) L.length L
noncomputable def lyC : Nat → PL → Nat
  | 0, _ => 0
  | f + 1, L => if 0 < L.length then lyC f (pl1 L) + 1 else 0
noncomputable def lyR : Nat → PL → PL
  | 0, L => L
  | f + 1, L => if 0 < L.length then lyR f (pl1 L) else L
noncomputable def k_layers (P : PL) (a : Int) : Nat × Int := if hpOK a then (0, (lyC 60 (putN P a [] P.length) : Int)) else (1, 0)
noncomputable abbrev lyL (P : PL) (a l : Int) : PL := lyR (min l 60).toNat (putN P a [] P.length)
noncomputable def k_layer (P : PL) (a l : Int) : Nat × Int := if hpOK a then (if 0 ≤ l ∧ (lyL P a l).length ≠ 0 then (0, ((wrapN 61 (lyL P a l)).length : Int)) else (2, 0)) else (1, 0)
noncomputable def s_layer (P : PL) (a l : Int) (F : PL) : PL := if hpOK a ∧ 0 ≤ l ∧ (lyL P a l).length ≠ 0 then wrapN 61 (lyL P a l) else F
def hoN (L : PL) : Nat → PL
  | 0 => []
  | n + 1 => insE (hoN L n) (pX L n, pY L n, (n : Int))
theorem hoN_len (L : PL) : ∀ n, (hoN L n).length = n
  | 0 => rfl
  | n + 1 => by unfold hoN; rw [insE_len, hoN_len L n]
abbrev hoL (L : PL) : PL := hoN L L.length
def k_hullOf (S : Nat → PL) (j : Int) : Nat × Int := if pgOK j then (if (S j.toNat).length ≠ 0 then (0, ((wrapN 61 (hoL (S j.toNat))).length : Int)) else (2, 0)) else (1, 0)
def s_hullOf (S : Nat → PL) (j : Int) (F : PL) : PL := if pgOK j ∧ (S j.toNat).length ≠ 0 then wrapN 61 (hoL (S j.toNat)) else F
section PPUB2
variable {G : g_X} {P E : PL} {S : Nat → PL} {b : Int} {P2 E2 : PL} {S2 : Nat → PL} {F L1 L2 H1 H2 : PL} {QL : PL} {QT : List Int} {qa : Int} {CA CB : PL} {o : Nat} {h0 h : g_hp}
theorem hsX.wL (X : hsX G P E S b P2 E2 S2 F L1 L2 H1 H2 QL QT qa CA CB o h0 h) {L9 L8 : PL} {h1 : g_hp} (r : rowAt G 60 L9 (o + 65) h1) (r1 : rowAt G 61 L8 (o + 73) h1) (f : g_f2 (o + 65) (o + 73) h h1) : hsX G P E S b P2 E2 S2 F L9 L2 L8 H2 QL QT qa CA CB o h0 h1 :=
  ⟨(f _ (by omega) (by omega)).trans X.obj, X.yd.kept (fun _ _ _ => f _ (by omega) (by omega)), X.im.kept (fun _ _ _ => f _ (by omega) (by omega)), X.fg.kept (fun _ _ _ => f _ (by omega) (by omega)), r, X.ht.kept (fun _ _ _ => f _ (by omega) (by omega)), r1, X.sh.kept (fun _ _ _ => f _ (by omega) (by omega)), X.pt.kept (fun _ _ _ => f _ (by omega) (by omega)), X.cn.kept (fun _ _ _ => f _ (by omega) (by omega)), X.fr.tr (fun _ _ => f _ (by omega) (by omega))⟩
set_option maxRecDepth 20000 in
theorem C_hull (X : hsX G P E S b P2 E2 S2 F L1 L2 H1 H2 QL QT qa CA CB o h0 h) {a : Int} (ra : r32 a) : Run G mX7_hull [.ref o, .int (iN a)] none h 1 6 (zK G (rsI [xIAE, xNSE] (k_hull P a)) P E S b P2 E2 S2 (s_hull P a F) o h0) := by
  refine run_of rfl plX7 rfl ?_
  refine e_iload_n dX7_hull_0 rfl ?_
  refine if c_1 : hpOK a then ?_ else e_throwsS qcX7_58 (T_requireHeap ra c_1) rfl rfl rfl rfl dX7_hull_1 rfl ⟨rfl, zk (show (k_hull P a) = (1, 0) from (if_neg c_1)) rfl, _, _, _, _, _, _, _, _, _, (by rw [show s_hull P a F = F from if_neg (fun w => c_1 w.1)]; exact X)⟩
  refine e_doesS qcX7_58 (S_requireHeap ra c_1) rfl rfl rfl rfl dX7_hull_1 ?_
  intro v h9 q9
  obtain ⟨rfl, rfl⟩ := q9
  refine e_aload_n dX7_hull_4 rfl ?_
  refine e_iload_n dX7_hull_5 rfl ?_
  refine if c_6 : cntN P a P.length ≠ 0 then ?_ else e_throwsV qcX7_125 X.obj rfl rfl (T_requireFilled X ra c_6) rfl rfl rfl rfl dX7_hull_6 rfl ⟨rfl, zk (show (k_hull P a) = (2, 0) from ((if_pos c_1).trans (if_neg c_6))) rfl, _, _, _, _, _, _, _, _, _, (by rw [show s_hull P a F = F from if_neg (fun w => c_6 w.2)]; exact X)⟩
  refine e_doesV qcX7_125 X.obj rfl rfl (S_requireFilled X ra c_6) rfl rfl rfl rfl dX7_hull_6 ?_
  intro v h9 q9
  obtain ⟨rfl, rfl⟩ := q9
  refine e_aload_n dX7_hull_9 rfl ?_
  refine e_iload_n dX7_hull_10 rfl ?_
  refine e_doesV qcX7_107 X.obj rfl rfl (S_orderHeap X ra) rfl rfl rfl rfl dX7_hull_11 ?_
  intro v h9 q9
  obtain ⟨rfl, X⟩ := q9
  refine e_aload_n dX7_hull_14 rfl ?_
  refine e_getf fX7_32 X.obj rfl dX7_hull_15 ?_
  refine e_aload_n dX7_hull_18 rfl ?_
  refine e_getf fX7_28 X.obj rfl dX7_hull_19 ?_
  refine e_doesS qcX7_128 (S_wrap X.fg X.od (by omega) (by omega)) rfl rfl rfl rfl dX7_hull_22 ?_
  intro v h9 q9
  obtain ⟨rfl, g9, f9⟩ := q9
  replace X := X.wF g9 f9
  clear g9 f9
  refine e_aload_n dX7_hull_25 rfl ?_
  refine e_getf fX7_28 X.obj rfl dX7_hull_26 ?_
  refine e_pureV qcX7_68 X.fg.obj rfl rfl (S_size X.fg) rfl rfl rfl rfl dX7_hull_29 ?_
  refine e_iret rfl dX7_hull_32 (by decide) (by decide) ?_
  exact ⟨rfl, zk (show (k_hull P a) = (0, ((wrapN 61 (putN P a [] P.length)).length : Int)) from ((if_pos c_1).trans (if_pos c_6))) rfl, _, _, _, _, _, _, _, _, _, (by rw [show s_hull P a F = wrapN 61 (putN P a [] P.length) from if_pos ⟨c_1, c_6⟩]; exact X)⟩
set_option maxRecDepth 20000 in
theorem C_join (X : hsX G P E S b P2 E2 S2 F L1 L2 H1 H2 QL QT qa CA CB o h0 h) {a : Int} (ra : r32 a) {b1 : Int} (rb1 : r32 b1) : Run G mX7_join [.ref o, .int (iN a), .int (iN b1)] none h 1 6 (zK G (rsI [xIAE, xNSE] (k_join P a b1)) P E S b P2 E2 S2 (s_join P a b1 F) o h0) := by
  have ra1 := ra.1
  have ra2 := ra.2
  have rb11 := rb1.1
  have rb12 := rb1.2
  refine run_of rfl plX7 rfl ?_
  refine e_aload_n dX7_join_0 rfl ?_
  refine e_iload_n dX7_join_1 rfl ?_
  refine e_iload_n dX7_join_2 rfl ?_
  refine if c_1 : hp2 a b1 then (if c_2 : fl2 P a b1 then ?_ else e_throwsV qcX7_134 X.obj rfl rfl (T_requireTwo2 X ra rb1 c_1.1 c_1.2 c_2) rfl rfl rfl rfl dX7_join_3 rfl ⟨rfl, zk (show (k_join P a b1) = (2, 0) from ((if_pos c_1).trans (if_neg c_2))) rfl, _, _, _, _, _, _, _, _, _, (by rw [show s_join P a b1 F = F from if_neg (fun w => c_2 w.2)]; exact X)⟩) else e_throwsV qcX7_134 X.obj rfl rfl (T_requireTwo1 X ra rb1 c_1) rfl rfl rfl rfl dX7_join_3 rfl ⟨rfl, zk (show (k_join P a b1) = (1, 0) from (if_neg c_1)) rfl, _, _, _, _, _, _, _, _, _, (by rw [show s_join P a b1 F = F from if_neg (fun w => c_1 w.1)]; exact X)⟩
  refine e_doesV qcX7_134 X.obj rfl rfl (S_requireTwoFilled X ra rb1 ⟨c_1.1, c_1.2, c_2.1, c_2.2⟩) rfl rfl rfl rfl dX7_join_3 ?_
  intro v h9 q9
  obtain ⟨rfl, rfl⟩ := q9
  refine e_aload_n dX7_join_6 rfl ?_
  refine e_iload_n dX7_join_7 rfl ?_
  refine e_doesV qcX7_107 X.obj rfl rfl (S_orderHeap X ra) rfl rfl rfl rfl dX7_join_8 ?_
  intro v h9 q9
  obtain ⟨rfl, X⟩ := q9
  have e9 := ord_len P a
  have e8 := cntN_le P a P.length
  have e7 := X.yd.pts.1
  refine e_iload_n dX7_join_11 rfl ?_
  refine e_iload_n dX7_join_12 rfl ?_
  refine e_icmp_eq (tgt := 28) ⟨by omega, by omega⟩ ⟨by omega, by omega⟩ dX7_join_13 rfl (fun c_13 => ?_) (fun c_13 => ?_)
  · have e6 : jnL P a b1 = (putN P a [] P.length) := if_pos c_13
    refine e_aload_n dX7_join_28 rfl ?_
    refine e_getf fX7_32 X.obj rfl dX7_join_29 ?_
    refine e_aload_n dX7_join_32 rfl ?_
    refine e_getf fX7_28 X.obj rfl dX7_join_33 ?_
    refine e_doesS qcX7_128 (S_wrap X.fg X.od (by omega) (by omega)) rfl rfl rfl rfl dX7_join_36 ?_
    intro v h9 q9
    obtain ⟨rfl, g9, f9⟩ := q9
    replace X := X.wF g9 f9
    clear g9 f9
    refine e_aload_n dX7_join_39 rfl ?_
    refine e_getf fX7_28 X.obj rfl dX7_join_40 ?_
    refine e_pureV qcX7_68 X.fg.obj rfl rfl (S_size X.fg) rfl rfl rfl rfl dX7_join_43 ?_
    refine e_iret rfl dX7_join_46 (by decide) (by decide) ?_
    rw [← e6] at *
    exact ⟨rfl, zk (show (k_join P a b1) = (0, ((wrapN 61 (jnL P a b1)).length : Int)) from ((if_pos c_1).trans (if_pos c_2))) rfl, _, _, _, _, _, _, _, _, _, (by rw [show s_join P a b1 F = wrapN 61 (jnL P a b1) from if_pos ⟨c_1, c_2⟩]; exact X)⟩
  · have e6 : jnL P a b1 = putN P b1 (putN P a [] P.length) P.length := if_neg c_13
    have e5 := cntN_two P c_13 P.length
    refine e_aload_n dX7_join_16 rfl ?_
    refine e_getf fX7_12 X.obj rfl dX7_join_17 ?_
    refine e_iload_n dX7_join_20 rfl ?_
    refine e_aload_n dX7_join_21 rfl ?_
    refine e_getf fX7_32 X.obj rfl dX7_join_22 ?_
    refine e_doesV qcX7_137 X.yd.obj rfl rfl (S_putInOrder X.yd rb1 (by omega) X.od (by omega)) rfl rfl rfl rfl dX7_join_25 ?_
    intro v h9 q9
    obtain ⟨rfl, g9, f9⟩ := q9
    replace X := X.wO g9 f9
    clear g9 f9
    refine e_aload_n dX7_join_28 rfl ?_
    refine e_getf fX7_32 X.obj rfl dX7_join_29 ?_
    refine e_aload_n dX7_join_32 rfl ?_
    refine e_getf fX7_28 X.obj rfl dX7_join_33 ?_
    refine e_doesS qcX7_128 (S_wrap X.fg X.od (by omega) (by omega)) rfl rfl rfl rfl dX7_join_36 ?_
    intro v h9 q9
    obtain ⟨rfl, g9, f9⟩ := q9
    replace X := X.wF g9 f9
    clear g9 f9
    refine e_aload_n dX7_join_39 rfl ?_
    refine e_getf fX7_28 X.obj rfl dX7_join_40 ?_
    refine e_pureV qcX7_68 X.fg.obj rfl rfl (S_size X.fg) rfl rfl rfl rfl dX7_join_43 ?_
    refine e_iret rfl dX7_join_46 (by decide) (by decide) ?_
    rw [← e6] at *
    exact ⟨rfl, zk (show (k_join P a b1) = (0, ((wrapN 61 (jnL P a b1)).length : Int)) from ((if_pos c_1).trans (if_pos c_2))) rfl, _, _, _, _, _, _, _, _, _, (by rw [show s_join P a b1 F = wrapN 61 (jnL P a b1) from if_pos ⟨c_1, c_2⟩]; exact X)⟩
set_option maxRecDepth 20000 in
theorem C_sum (X : hsX G P E S b P2 E2 S2 F L1 L2 H1 H2 QL QT qa CA CB o h0 h) {a : Int} (ra : r32 a) {b1 : Int} (rb1 : r32 b1) (hh : ∀ v, cntN P v P.length ≠ 0 → okH (wrapN 61 (putN P v [] P.length)) ∧ 0 < (wrapN 61 (putN P v [] P.length)).length) : Run G mX7_sum [.ref o, .int (iN a), .int (iN b1)] none h 1 6 (zK G (rsI [xIAE, xNSE] (k_sum P a b1)) P E S b P2 E2 S2 (s_sum P a b1 F) o h0) := by
  refine run_of rfl plX7 rfl ?_
  refine e_aload_n dX7_sum_0 rfl ?_
  refine e_iload_n dX7_sum_1 rfl ?_
  refine e_iload_n dX7_sum_2 rfl ?_
  refine if c_1 : hp2 a b1 then (if c_2 : fl2 P a b1 then ?_ else e_throwsV qcX7_134 X.obj rfl rfl (T_requireTwo2 X ra rb1 c_1.1 c_1.2 c_2) rfl rfl rfl rfl dX7_sum_3 rfl ⟨rfl, zk (show (k_sum P a b1) = (2, 0) from ((if_pos c_1).trans (if_neg c_2))) rfl, _, _, _, _, _, _, _, _, _, (by rw [show s_sum P a b1 F = F from if_neg (fun w => c_2 w.2)]; exact X)⟩) else e_throwsV qcX7_134 X.obj rfl rfl (T_requireTwo1 X ra rb1 c_1) rfl rfl rfl rfl dX7_sum_3 rfl ⟨rfl, zk (show (k_sum P a b1) = (1, 0) from (if_neg c_1)) rfl, _, _, _, _, _, _, _, _, _, (by rw [show s_sum P a b1 F = F from if_neg (fun w => c_1 w.1)]; exact X)⟩
  refine e_doesV qcX7_134 X.obj rfl rfl (S_requireTwoFilled X ra rb1 ⟨c_1.1, c_1.2, c_2.1, c_2.2⟩) rfl rfl rfl rfl dX7_sum_3 ?_
  intro v h9 q9
  obtain ⟨rfl, rfl⟩ := q9
  refine e_aload_n dX7_sum_6 rfl ?_
  refine e_iload_n dX7_sum_7 rfl ?_
  refine e_iload_n dX7_sum_8 rfl ?_
  refine e_doesV qcX7_141 X.obj rfl rfl (S_wrapTwo X ra rb1) rfl rfl rfl rfl dX7_sum_9 ?_
  intro v h9 q9
  obtain ⟨rfl, X⟩ := q9
  have q1 := hh a c_2.1
  have q2 := hh b1 c_2.2
  have q3 := X.fh.1
  have q4 := X.sh.1
  refine e_aload_n dX7_sum_12 rfl ?_
  refine e_getf fX7_38 X.obj rfl dX7_sum_13 ?_
  refine e_aload_n dX7_sum_16 rfl ?_
  refine e_getf fX7_41 X.obj rfl dX7_sum_17 ?_
  refine e_aload_n dX7_sum_20 rfl ?_
  refine e_getf fX7_28 X.obj rfl dX7_sum_21 ?_
  refine e_doesS qcX7_144 (S_addUp X.fh X.sh q1.1 q2.1 q1.2 q2.2 (by omega) (by omega) (by omega) (by omega) X.fg) rfl rfl rfl rfl dX7_sum_24 ?_
  intro v h9 q9
  obtain ⟨rfl, g9, f9⟩ := q9
  replace X := X.wF g9 f9
  clear g9 f9
  refine e_aload_n dX7_sum_27 rfl ?_
  refine e_getf fX7_28 X.obj rfl dX7_sum_28 ?_
  refine e_pureV qcX7_68 X.fg.obj rfl rfl (S_size X.fg) rfl rfl rfl rfl dX7_sum_31 ?_
  refine e_iret rfl dX7_sum_34 (by decide) (by decide) ?_
  exact ⟨rfl, zk (show (k_sum P a b1) = (0, ((smL P a b1).length : Int)) from ((if_pos c_1).trans (if_pos c_2))) rfl, _, _, _, _, _, _, _, _, _, (by rw [show s_sum P a b1 F = smL P a b1 from if_pos ⟨c_1, c_2⟩]; exact X)⟩
set_option maxRecDepth 20000 in
theorem ly_loop {R : Nat} : ∀ (f i : Nat) (L1 H1 : PL) (h : g_hp), hsX G P E S b P2 E2 S2 F L1 L2 H1 H2 QL QT qa CA CB o h0 h → i + f = 60 → i + lyC f L1 = R → Ev (g_B G mX7_layers 1 6 (zK G (rsI [xIAE] (0, (R : Int))) P E S b P2 E2 S2 F o h0)) 0 0 none h 13 [(3, .int (iN (i : Nat))), (2, .int (iN (i : Nat))), (0, .ref o)] [] := by
  intro f
  induction f with
  | zero =>
    intro i L1 H1 h X hif hR
    have e9 : R = i := by rw [← hR]; rfl
    subst e9
    refine e_iload_n dX7_layers_13 rfl ?_
    refine e_bipush dX7_layers_14 (by decide) ?_
    refine e_icmp_ge (tgt := 49) ⟨by omega, by omega⟩ ⟨by omega, by omega⟩ dX7_layers_16 rfl (fun c_16 => ?_) (fun c_16 => absurd (by omega) c_16)
    refine e_iload_n dX7_layers_49 rfl ?_
    refine e_iret rfl dX7_layers_50 (by decide) (by decide) ?_
    exact ⟨rfl, rfl, _, _, _, _, _, _, _, _, _, X⟩
  | succ f ih =>
    intro i L1 H1 h X hif hR
    have e9 := X.od.1
    refine e_iload_n dX7_layers_13 rfl ?_
    refine e_bipush dX7_layers_14 (by decide) ?_
    refine e_icmp_ge (tgt := 49) ⟨by omega, by omega⟩ ⟨by omega, by omega⟩ dX7_layers_16 rfl (fun c_16 => absurd c_16 (by omega)) (fun c_16 => ?_)
    refine e_aload_n dX7_layers_19 rfl ?_
    refine e_getf fX7_32 X.obj rfl dX7_layers_20 ?_
    refine e_pureV qcX7_68 X.od.obj rfl rfl (S_size X.od) rfl rfl rfl rfl dX7_layers_23 ?_
    refine e_if_le (tgt := 49) ⟨by omega, by omega⟩ dX7_layers_26 rfl (fun c_26 => ?_) (fun c_26 => ?_)
    · rw [show lyC (f + 1) L1 = 0 from if_neg (by omega)] at hR
      have e5 : R = i := hR.symm
      subst e5
      refine e_iload_n dX7_layers_49 rfl ?_
      refine e_iret rfl dX7_layers_50 (by decide) (by decide) ?_
      exact ⟨rfl, rfl, _, _, _, _, _, _, _, _, _, X⟩
    · refine e_aload_n dX7_layers_29 rfl ?_
      refine e_getf fX7_32 X.obj rfl dX7_layers_30 ?_
      refine e_aload_n dX7_layers_33 rfl ?_
      refine e_getf fX7_38 X.obj rfl dX7_layers_34 ?_
      refine e_doesS qcX7_148 (S_peel X.od X.fh (by omega) (by omega)) rfl rfl rfl rfl dX7_layers_37 ?_
      intro v h9 q9
      obtain ⟨rfl, g9, g8, f9⟩ := q9
      replace X := X.wL g9 g8 f9
      clear g9 g8 f9
      refine e_iinc dX7_layers_40 rfl ?_
      refine e_iinc dX7_layers_43 rfl ?_
      refine e_goto (tgt := 13) dX7_layers_46 rfl ?_
      exact e_loc [(3, .int (iN (i + 1 : Nat))), (2, .int (iN (i + 1 : Nat))), (0, .ref o)] ⟨rfl, rfl, rfl, trivial⟩ (ih (i + 1) _ _ _ X (by omega) (by rw [← hR, show lyC (f + 1) L1 = lyC f (pl1 L1) + 1 from if_pos (by omega)]; show i + 1 + lyC f (pl1 L1) = _; omega))
set_option maxRecDepth 20000 in
theorem C_layers (X : hsX G P E S b P2 E2 S2 F L1 L2 H1 H2 QL QT qa CA CB o h0 h) {a : Int} (ra : r32 a) : Run G mX7_layers [.ref o, .int (iN a)] none h 1 6 (zK G (rsI [xIAE] (k_layers P a)) P E S b P2 E2 S2 F o h0) := by
  refine run_of rfl plX7 rfl ?_
  refine e_iload_n dX7_layers_0 rfl ?_
  refine if c_1 : hpOK a then ?_ else e_throwsS qcX7_58 (T_requireHeap ra c_1) rfl rfl rfl rfl dX7_layers_1 rfl ⟨rfl, zk (show (k_layers P a) = (1, 0) from (if_neg c_1)) rfl, _, _, _, _, _, _, _, _, _, X⟩
  refine e_doesS qcX7_58 (S_requireHeap ra c_1) rfl rfl rfl rfl dX7_layers_1 ?_
  intro v h9 q9
  obtain ⟨rfl, rfl⟩ := q9
  refine e_aload_n dX7_layers_4 rfl ?_
  refine e_iload_n dX7_layers_5 rfl ?_
  refine e_doesV qcX7_107 X.obj rfl rfl (S_orderHeap X ra) rfl rfl rfl rfl dX7_layers_6 ?_
  intro v h9 q9
  obtain ⟨rfl, X⟩ := q9
  refine e_iconst dX7_layers_9 ?_
  refine e_istore_n dX7_layers_10 rfl ?_
  refine e_iconst dX7_layers_11 ?_
  refine e_istore_n dX7_layers_12 rfl ?_
  rw [show (k_layers P a) = (0, (lyC 60 (putN P a [] P.length) : Int)) from if_pos c_1]
  exact e_loc [(3, .int (iN (0 : Nat))), (2, .int (iN (0 : Nat))), (0, .ref o)] ⟨rfl, rfl, rfl, trivial⟩ (ly_loop 60 0 _ _ _ X rfl (Nat.zero_add _))
set_option maxRecDepth 20000 in
theorem lr_loop {Z : g_Z} {l : Int} {R : PL} (rl : r32 l) (kk : ∀ H1 h, hsX G P E S b P2 E2 S2 F R L2 H1 H2 QL QT qa CA CB o h0 h → Ev (g_B G mX7_layer 1 6 Z) 0 0 none h 52 [(0, .ref o), (2, .int (iN l))] []) : ∀ (f i : Nat) (L1 H1 : PL) (h : g_hp), hsX G P E S b P2 E2 S2 F L1 L2 H1 H2 QL QT qa CA CB o h0 h → i + f = (min l 60).toNat → lyR f L1 = R → Ev (g_B G mX7_layer 1 6 Z) 0 0 none h 19 [(4, .int (iN (i : Nat))), (3, .int (iN (min l 60))), (0, .ref o), (2, .int (iN l))] [] := by
  have rl1 := rl.1
  have rl2 := rl.2
  have m1 : min l 60 ≤ 60 := Int.min_le_right _ _
  have m2 : min l 60 ≤ l := Int.min_le_left _ _
  have m3 : -2147483648 ≤ min l 60 := Int.le_min.mpr ⟨rl1, by decide⟩
  intro f
  induction f with
  | zero =>
    intro i L1 H1 h X hif hR
    have e9 : R = L1 := by rw [← hR]; rfl
    subst e9
    refine e_iload dX7_layer_19 rfl ?_
    refine e_iload_n dX7_layer_21 rfl ?_
    refine e_icmp_ge (tgt := 52) ⟨by omega, by omega⟩ ⟨by omega, by omega⟩ dX7_layer_22 rfl (fun c_22 => ?_) (fun c_22 => absurd (by omega) c_22)
    exact e_loc [(0, .ref o), (2, .int (iN l))] ⟨rfl, rfl, trivial⟩ (kk _ _ X)
  | succ f ih =>
    intro i L1 H1 h X hif hR
    have e9 := X.od.1
    refine e_iload dX7_layer_19 rfl ?_
    refine e_iload_n dX7_layer_21 rfl ?_
    refine e_icmp_ge (tgt := 52) ⟨by omega, by omega⟩ ⟨by omega, by omega⟩ dX7_layer_22 rfl (fun c_22 => absurd c_22 (by omega)) (fun c_22 => ?_)
    refine e_aload_n dX7_layer_25 rfl ?_
    refine e_getf fX7_32 X.obj rfl dX7_layer_26 ?_
    refine e_pureV qcX7_68 X.od.obj rfl rfl (S_size X.od) rfl rfl rfl rfl dX7_layer_29 ?_
    refine e_if_le (tgt := 52) ⟨by omega, by omega⟩ dX7_layer_32 rfl (fun c_32 => ?_) (fun c_32 => ?_)
    · rw [show lyR (f + 1) L1 = L1 from if_neg (by omega)] at hR
      subst hR
      exact e_loc [(0, .ref o), (2, .int (iN l))] ⟨rfl, rfl, trivial⟩ (kk _ _ X)
    · refine e_aload_n dX7_layer_35 rfl ?_
      refine e_getf fX7_32 X.obj rfl dX7_layer_36 ?_
      refine e_aload_n dX7_layer_39 rfl ?_
      refine e_getf fX7_38 X.obj rfl dX7_layer_40 ?_
      refine e_doesS qcX7_148 (S_peel X.od X.fh (by omega) (by omega)) rfl rfl rfl rfl dX7_layer_43 ?_
      intro v h9 q9
      obtain ⟨rfl, g9, g8, f9⟩ := q9
      replace X := X.wL g9 g8 f9
      clear g9 g8 f9
      refine e_iinc dX7_layer_46 rfl ?_
      refine e_goto (tgt := 19) dX7_layer_49 rfl ?_
      exact e_loc [(4, .int (iN (i + 1 : Nat))), (3, .int (iN (min l 60))), (0, .ref o), (2, .int (iN l))] ⟨rfl, rfl, rfl, rfl, trivial⟩ (ih (i + 1) _ _ _ X (by omega) (by rw [← hR]; exact (show lyR (f + 1) L1 = lyR f (pl1 L1) from if_pos (by omega)).symm))
set_option maxRecDepth 20000 in
theorem C_layer (X : hsX G P E S b P2 E2 S2 F L1 L2 H1 H2 QL QT qa CA CB o h0 h) {a : Int} (ra : r32 a) {l : Int} (rl : r32 l) : Run G mX7_layer [.ref o, .int (iN a), .int (iN l)] none h 1 6 (zK G (rsI [xIAE, xIOB] (k_layer P a l)) P E S b P2 E2 S2 (s_layer P a l F) o h0) := by
  have rl1 := rl.1
  have rl2 := rl.2
  refine run_of rfl plX7 rfl ?_
  refine e_iload_n dX7_layer_0 rfl ?_
  refine if c_1 : hpOK a then ?_ else e_throwsS qcX7_58 (T_requireHeap ra c_1) rfl rfl rfl rfl dX7_layer_1 rfl ⟨rfl, zk (show (k_layer P a l) = (1, 0) from (if_neg c_1)) rfl, _, _, _, _, _, _, _, _, _, (by rw [show s_layer P a l F = F from if_neg (fun w => c_1 w.1)]; exact X)⟩
  refine e_doesS qcX7_58 (S_requireHeap ra c_1) rfl rfl rfl rfl dX7_layer_1 ?_
  intro v h9 q9
  obtain ⟨rfl, rfl⟩ := q9
  refine e_aload_n dX7_layer_4 rfl ?_
  refine e_iload_n dX7_layer_5 rfl ?_
  refine e_doesV qcX7_107 X.obj rfl rfl (S_orderHeap X ra) rfl rfl rfl rfl dX7_layer_6 ?_
  intro v h9 q9
  obtain ⟨rfl, X⟩ := q9
  refine e_iload_n dX7_layer_9 rfl ?_
  refine e_bipush dX7_layer_10 (by decide) ?_
  refine e_mmin rl ⟨by decide, by decide⟩ qcX7_151 rfl dX7_layer_12 ?_
  refine e_istore_n dX7_layer_15 rfl ?_
  refine e_iconst dX7_layer_16 ?_
  refine e_istore dX7_layer_17 rfl ?_
  refine e_loc [(4, .int (iN (0 : Nat))), (3, .int (iN (min l 60))), (0, .ref o), (2, .int (iN l))] ⟨rfl, rfl, rfl, rfl, trivial⟩ (lr_loop (R := lyL P a l) rl (fun H1 h X => ?_) _ 0 _ _ _ X (Nat.zero_add _) rfl)
  have e9 := X.od.1
  refine e_iload_n dX7_layer_52 rfl ?_
  refine e_if_lt (tgt := 66) ⟨by omega, by omega⟩ dX7_layer_53 rfl (fun c_53 => ?_) (fun c_53 => ?_)
  · refine e_throw (text := "there is no such layer") rfl rfl t_110_114 s_157 dX7_layer_66 dX7_layer_69 dX7_layer_70 dX7_layer_72 dX7_layer_75 rfl rfl (by decide) (by decide) ?_
    first | exact ⟨rfl, zk (show (k_layer P a l) = (2, 0) from ((if_pos c_1).trans (if_neg (fun w => absurd w.1 (by omega))))) rfl, _, _, _, _, _, _, _, _, _, (by rw [show s_layer P a l F = F from if_neg (fun w => absurd w.2.1 (by omega))]; exact X)⟩ | exact ⟨rfl, zk (show (k_layer P a l) = (2, 0) from ((if_pos c_1).trans (if_neg (fun w => absurd w.2 (by omega))))) rfl, _, _, _, _, _, _, _, _, _, (by rw [show s_layer P a l F = F from if_neg (fun w => absurd w.2.2 (by omega))]; exact X)⟩
  · refine e_aload_n dX7_layer_56 rfl ?_
    refine e_getf fX7_32 X.obj rfl dX7_layer_57 ?_
    refine e_pureV qcX7_68 X.od.obj rfl rfl (S_size X.od) rfl rfl rfl rfl dX7_layer_60 ?_
    refine e_if_ne (tgt := 76) ⟨by omega, by omega⟩ dX7_layer_63 rfl (fun c_63 => ?_) (fun c_63 => ?_)
    · refine e_aload_n dX7_layer_76 rfl ?_
      refine e_getf fX7_32 X.obj rfl dX7_layer_77 ?_
      refine e_aload_n dX7_layer_80 rfl ?_
      refine e_getf fX7_28 X.obj rfl dX7_layer_81 ?_
      refine e_doesS qcX7_128 (S_wrap X.fg X.od (by omega) (by omega)) rfl rfl rfl rfl dX7_layer_84 ?_
      intro v h9 q9
      obtain ⟨rfl, g9, f9⟩ := q9
      replace X := X.wF g9 f9
      clear g9 f9
      refine e_aload_n dX7_layer_87 rfl ?_
      refine e_getf fX7_28 X.obj rfl dX7_layer_88 ?_
      refine e_pureV qcX7_68 X.fg.obj rfl rfl (S_size X.fg) rfl rfl rfl rfl dX7_layer_91 ?_
      refine e_iret rfl dX7_layer_94 (by decide) (by decide) ?_
      exact ⟨rfl, zk (show (k_layer P a l) = (0, ((wrapN 61 (lyL P a l)).length : Int)) from ((if_pos c_1).trans (if_pos ⟨by omega, by omega⟩))) rfl, _, _, _, _, _, _, _, _, _, (by rw [show s_layer P a l F = wrapN 61 (lyL P a l) from if_pos ⟨c_1, by omega, by omega⟩]; exact X)⟩
    · refine e_throw (text := "there is no such layer") rfl rfl t_110_114 s_157 dX7_layer_66 dX7_layer_69 dX7_layer_70 dX7_layer_72 dX7_layer_75 rfl rfl (by decide) (by decide) ?_
      first | exact ⟨rfl, zk (show (k_layer P a l) = (2, 0) from ((if_pos c_1).trans (if_neg (fun w => absurd w.1 (by omega))))) rfl, _, _, _, _, _, _, _, _, _, (by rw [show s_layer P a l F = F from if_neg (fun w => absurd w.2.1 (by omega))]; exact X)⟩ | exact ⟨rfl, zk (show (k_layer P a l) = (2, 0) from ((if_pos c_1).trans (if_neg (fun w => absurd w.2 (by omega))))) rfl, _, _, _, _, _, _, _, _, _, (by rw [show s_layer P a l F = F from if_neg (fun w => absurd w.2.2 (by omega))]; exact X)⟩
set_option maxRecDepth 20000 in
theorem ho_loop {Z : g_Z} {j : Int} (hj : j.toNat < 4) (kk : ∀ h, hsX G P E S b P2 E2 S2 F (hoL (S j.toNat)) L2 H1 H2 QL QT qa CA CB o h0 h → Ev (g_B G mX7_hullOf 1 6 Z) 0 0 none h 64 [(0, .ref o)] []) : ∀ (n i : Nat) (h : g_hp), hsX G P E S b P2 E2 S2 F (hoN (S j.toNat) i) L2 H1 H2 QL QT qa CA CB o h0 h → i + n = (S j.toNat).length → Ev (g_B G mX7_hullOf 1 6 Z) 0 0 none h 32 [(3, .int (iN (i : Nat))), (0, .ref o), (2, .ref (o + 1 + 14 + 4 * j.toNat))] [] := by
  intro n
  induction n with
  | zero =>
    intro i h X hin
    have e9 := (X.pol hj).1
    have e8 : i = (S j.toNat).length := by omega
    rw [e8] at X
    refine e_iload_n dX7_hullOf_32 rfl ?_
    refine e_aload_n dX7_hullOf_33 rfl ?_
    refine e_pureV qcX7_68 (X.pol hj).obj rfl rfl (S_size (X.pol hj)) rfl rfl rfl rfl dX7_hullOf_34 ?_
    refine e_icmp_ge (tgt := 64) ⟨by omega, by omega⟩ ⟨by omega, by omega⟩ dX7_hullOf_37 rfl (fun c_37 => ?_) (fun c_37 => absurd (by omega) c_37)
    exact e_loc [(0, .ref o)] ⟨rfl, trivial⟩ (kk _ X)
  | succ n ih =>
    intro i h X hin
    have e9 := (X.pol hj).1
    have hi : i < (S j.toNat).length := by omega
    have hb := (X.pol hj).2.2.1.at hi
    refine e_iload_n dX7_hullOf_32 rfl ?_
    refine e_aload_n dX7_hullOf_33 rfl ?_
    refine e_pureV qcX7_68 (X.pol hj).obj rfl rfl (S_size (X.pol hj)) rfl rfl rfl rfl dX7_hullOf_34 ?_
    refine e_icmp_ge (tgt := 64) ⟨by omega, by omega⟩ ⟨by omega, by omega⟩ dX7_hullOf_37 rfl (fun c_37 => absurd c_37 (by omega)) (fun c_37 => ?_)
    refine e_aload_n dX7_hullOf_40 rfl ?_
    refine e_getf fX7_32 X.obj rfl dX7_hullOf_41 ?_
    refine e_aload_n dX7_hullOf_44 rfl ?_
    refine e_iload_n dX7_hullOf_45 rfl ?_
    refine e_pureV qcX7_96 (X.pol hj).obj rfl rfl (S_xAt (X.pol hj) hi) rfl rfl rfl rfl dX7_hullOf_46 ?_
    refine e_aload_n dX7_hullOf_49 rfl ?_
    refine e_iload_n dX7_hullOf_50 rfl ?_
    refine e_pureV qcX7_99 (X.pol hj).obj rfl rfl (S_yAt (X.pol hj) hi) rfl rfl rfl rfl dX7_hullOf_51 ?_
    refine e_iload_n dX7_hullOf_54 rfl ?_
    refine e_doesV qcX7_171 X.od.obj rfl rfl (S_insertInOrder X.od (by rw [hoN_len]; omega) hb.1 hb.2.1 (show bd (i : Int) from ⟨by omega, by omega⟩)) rfl rfl rfl rfl dX7_hullOf_55 ?_
    intro v h9 q9
    obtain ⟨rfl, g9, f9⟩ := q9
    replace X := X.wO g9 f9
    clear g9 f9
    refine e_iinc dX7_hullOf_58 rfl ?_
    refine e_goto (tgt := 32) dX7_hullOf_61 rfl ?_
    exact e_loc [(3, .int (iN (i + 1 : Nat))), (0, .ref o), (2, .ref (o + 1 + 14 + 4 * j.toNat))] ⟨rfl, rfl, rfl, trivial⟩ (ih (i + 1) _ X (by omega))
set_option maxRecDepth 20000 in
theorem C_hullOf (X : hsX G P E S b P2 E2 S2 F L1 L2 H1 H2 QL QT qa CA CB o h0 h) {j : Int} (rj : r32 j) : Run G mX7_hullOf [.ref o, .int (iN j)] none h 1 6 (zK G (rsI [xIAE, xNSE] (k_hullOf S j)) P E S b P2 E2 S2 (s_hullOf S j F) o h0) := by
  refine run_of rfl plX7 rfl ?_
  refine e_aload_n dX7_hullOf_0 rfl ?_
  refine e_iload_n dX7_hullOf_1 rfl ?_
  refine if c_2 : pgOK j then ?_ else e_throwsV qcX7_159 X.obj rfl rfl (T_requirePolygon X rj c_2) rfl rfl rfl rfl dX7_hullOf_2 rfl ⟨rfl, zk (show (k_hullOf S j) = (1, 0) from (if_neg c_2)) rfl, _, _, _, _, _, _, _, _, _, (by rw [show s_hullOf S j F = F from if_neg (fun w => c_2 w.1)]; exact X)⟩
  refine e_pureV qcX7_159 X.obj rfl rfl (S_requirePolygon X rj c_2) rfl rfl rfl rfl dX7_hullOf_2 ?_
  have hj : j.toNat < 4 := by omega
  have e9 := (X.pol hj).1
  refine e_astore_n dX7_hullOf_5 rfl ?_
  refine e_aload_n dX7_hullOf_6 rfl ?_
  refine e_pureV qcX7_68 (X.pol hj).obj rfl rfl (S_size (X.pol hj)) rfl rfl rfl rfl dX7_hullOf_7 ?_
  refine e_if_ne (tgt := 23) ⟨by omega, by omega⟩ dX7_hullOf_10 rfl (fun c_10 => ?_) (fun c_10 => ?_)
  · refine e_aload_n dX7_hullOf_23 rfl ?_
    refine e_getf fX7_32 X.obj rfl dX7_hullOf_24 ?_
    refine e_doesV qcX7_168 X.od.obj rfl rfl (S_reset X.od) rfl rfl rfl rfl dX7_hullOf_27 ?_
    intro v h9 q9
    obtain ⟨rfl, g9, f9⟩ := q9
    replace X := X.wO g9 f9
    clear g9 f9
    refine e_iconst dX7_hullOf_30 ?_
    refine e_istore_n dX7_hullOf_31 rfl ?_
    refine e_loc [(3, .int (iN (0 : Nat))), (0, .ref o), (2, .ref (o + 1 + 14 + 4 * j.toNat))] ⟨rfl, rfl, rfl, trivial⟩ (ho_loop hj (fun h X => ?_) _ 0 _ X (Nat.zero_add _))
    refine e_aload_n dX7_hullOf_64 rfl ?_
    refine e_getf fX7_32 X.obj rfl dX7_hullOf_65 ?_
    refine e_aload_n dX7_hullOf_68 rfl ?_
    refine e_getf fX7_28 X.obj rfl dX7_hullOf_69 ?_
    refine e_doesS qcX7_128 (S_wrap X.fg X.od (by omega) (by omega)) rfl rfl rfl rfl dX7_hullOf_72 ?_
    intro v h9 q9
    obtain ⟨rfl, g9, f9⟩ := q9
    replace X := X.wF g9 f9
    clear g9 f9
    refine e_aload_n dX7_hullOf_75 rfl ?_
    refine e_getf fX7_28 X.obj rfl dX7_hullOf_76 ?_
    refine e_pureV qcX7_68 X.fg.obj rfl rfl (S_size X.fg) rfl rfl rfl rfl dX7_hullOf_79 ?_
    refine e_iret rfl dX7_hullOf_82 (by decide) (by decide) ?_
    exact ⟨rfl, zk (show (k_hullOf S j) = (0, ((wrapN 61 (hoL (S j.toNat))).length : Int)) from ((if_pos c_2).trans (if_pos (by omega)))) rfl, _, _, _, _, _, _, _, _, _, (by rw [show s_hullOf S j F = wrapN 61 (hoL (S j.toNat)) from if_pos ⟨c_2, by omega⟩]; exact X)⟩
  · refine e_throwN (text := "the polygon has no corners") rfl rfl t_163_167 s_165 dX7_hullOf_13 dX7_hullOf_16 dX7_hullOf_17 dX7_hullOf_19 dX7_hullOf_22 rfl rfl (by decide) (by decide) ?_
    exact ⟨rfl, zk (show (k_hullOf S j) = (2, 0) from ((if_pos c_2).trans (if_neg (by omega)))) rfl, _, _, _, _, _, _, _, _, _, (by rw [show s_hullOf S j F = F from if_neg (fun w => absurd w.2 (by omega))]; exact X)⟩
end PPUB2
