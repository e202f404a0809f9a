/-! The class: checks of several things, two hulls, strays, faults, a fence from a side -/
section PHS2
variable {G : g_X} {P E : PL} {S : Nat → PL} {b : Int} {P2 E2 : PL} {S2 : Nat → PL} {F L1 L2 H1 H2 : PL} {QL : PL} {QT : List Int} {qa : Int} {CA CB : PL} {o : Nat} {h0 h : g_hp}
set_option maxRecDepth 20000 in
theorem S_requireTwoFilled (X : hsX G P E S b P2 E2 S2 F L1 L2 H1 H2 QL QT qa CA CB o h0 h) {a b1 : Int} (ha : r32 a) (hb : r32 b1) (c : hpOK a ∧ hpOK b1 ∧ cntN P a P.length ≠ 0 ∧ cntN P b1 P.length ≠ 0) : Does G mX7_requireTwoFilled [.ref o, .int (iN a), .int (iN b1)] h (fun v h1 => v = none ∧ h1 = h) := by
  intro z
  refine run_of rfl plX7 rfl ?_
  refine e_iload_n dX7_requireTwoFilled_0 rfl ?_
  refine e_doesS qcX7_58 (S_requireHeap ha c.1) rfl rfl rfl rfl dX7_requireTwoFilled_1 ?_
  intro v h9 q9
  obtain ⟨rfl, rfl⟩ := q9
  refine e_iload_n dX7_requireTwoFilled_4 rfl ?_
  refine e_doesS qcX7_58 (S_requireHeap hb c.2.1) rfl rfl rfl rfl dX7_requireTwoFilled_5 ?_
  intro v h9 q9
  obtain ⟨rfl, rfl⟩ := q9
  refine e_aload_n dX7_requireTwoFilled_8 rfl ?_
  refine e_iload_n dX7_requireTwoFilled_9 rfl ?_
  refine e_doesV qcX7_125 X.obj rfl rfl (S_requireFilled X ha c.2.2.1) rfl rfl rfl rfl dX7_requireTwoFilled_10 ?_
  intro v h9 q9
  obtain ⟨rfl, rfl⟩ := q9
  refine e_aload_n dX7_requireTwoFilled_13 rfl ?_
  refine e_iload_n dX7_requireTwoFilled_14 rfl ?_
  refine e_doesV qcX7_125 X.obj rfl rfl (S_requireFilled X hb c.2.2.2) rfl rfl rfl rfl dX7_requireTwoFilled_15 ?_
  intro v h9 q9
  obtain ⟨rfl, rfl⟩ := q9
  refine e_vret rfl dX7_requireTwoFilled_18 (by decide) (by decide) ?_
  exact ⟨none, rfl, rfl, rfl, rfl⟩
set_option maxRecDepth 20000 in
theorem T_requireTwo1 (X : hsX G P E S b P2 E2 S2 F L1 L2 H1 H2 QL QT qa CA CB o h0 h) {a b1 : Int} (ha : r32 a) (hb : r32 b1) (c : ¬ (hpOK a ∧ hpOK b1)) : Throws G mX7_requireTwoFilled [.ref o, .int (iN a), .int (iN b1)] h xIAE := by
  intro z
  refine run_of rfl plX7 rfl ?_
  refine e_iload_n dX7_requireTwoFilled_0 rfl ?_
  refine if c_1 : hpOK a then ?_ else e_throwsS qcX7_58 (T_requireHeap ha c_1) rfl rfl rfl rfl dX7_requireTwoFilled_1 rfl ⟨rfl, rfl, rfl⟩
  refine e_doesS qcX7_58 (S_requireHeap ha c_1) rfl rfl rfl rfl dX7_requireTwoFilled_1 ?_
  intro v h9 q9
  obtain ⟨rfl, rfl⟩ := q9
  refine e_iload_n dX7_requireTwoFilled_4 rfl ?_
  exact e_throwsS qcX7_58 (T_requireHeap hb (fun w => c ⟨c_1, w⟩)) rfl rfl rfl rfl dX7_requireTwoFilled_5 rfl ⟨rfl, rfl, rfl⟩
set_option maxRecDepth 20000 in
theorem T_requireTwo2 (X : hsX G P E S b P2 E2 S2 F L1 L2 H1 H2 QL QT qa CA CB o h0 h) {a b1 : Int} (ha : r32 a) (hb : r32 b1) (c1 : hpOK a) (c2 : hpOK b1) (c : ¬ (cntN P a P.length ≠ 0 ∧ cntN P b1 P.length ≠ 0)) : Throws G mX7_requireTwoFilled [.ref o, .int (iN a), .int (iN b1)] h xNSE := by
  intro z
  refine run_of rfl plX7 rfl ?_
  refine e_iload_n dX7_requireTwoFilled_0 rfl ?_
  refine e_doesS qcX7_58 (S_requireHeap ha c1) rfl rfl rfl rfl dX7_requireTwoFilled_1 ?_
  intro v h9 q9
  obtain ⟨rfl, rfl⟩ := q9
  refine e_iload_n dX7_requireTwoFilled_4 rfl ?_
  refine e_doesS qcX7_58 (S_requireHeap hb c2) rfl rfl rfl rfl dX7_requireTwoFilled_5 ?_
  intro v h9 q9
  obtain ⟨rfl, rfl⟩ := q9
  refine e_aload_n dX7_requireTwoFilled_8 rfl ?_
  refine e_iload_n dX7_requireTwoFilled_9 rfl ?_
  refine if c_10 : cntN P a P.length ≠ 0 then ?_ else e_throwsV qcX7_125 X.obj rfl rfl (T_requireFilled X ha c_10) rfl rfl rfl rfl dX7_requireTwoFilled_10 rfl ⟨rfl, rfl, rfl⟩
  refine e_doesV qcX7_125 X.obj rfl rfl (S_requireFilled X ha c_10) rfl rfl rfl rfl dX7_requireTwoFilled_10 ?_
  intro v h9 q9
  obtain ⟨rfl, rfl⟩ := q9
  refine e_aload_n dX7_requireTwoFilled_13 rfl ?_
  refine e_iload_n dX7_requireTwoFilled_14 rfl ?_
  exact e_throwsV qcX7_125 X.obj rfl rfl (T_requireFilled X hb (fun w => c ⟨c_10, w⟩)) rfl rfl rfl rfl dX7_requireTwoFilled_15 rfl ⟨rfl, rfl, rfl⟩
set_option maxRecDepth 20000 in
theorem S_requirePolygon (X : hsX G P E S b P2 E2 S2 F L1 L2 H1 H2 QL QT qa CA CB o h0 h) {j : Int} (ha : r32 j) (c : pgOK j) : Pure G mX7_requirePolygon [.ref o, .int (iN j)] h (.ref (o + 1 + 14 + 4 * j.toNat)) := by
  have a1 := ha.1
  have a2 := ha.2
  intro z
  refine run_of rfl plX7 rfl ?_
  refine e_iload_n dX7_requirePolygon_0 rfl ?_
  refine e_if_lt (tgt := 9) ⟨by omega, by omega⟩ dX7_requirePolygon_1 rfl (fun c_1 => ?_) (fun c_1 => ?_)
  · exact absurd c (by omega)
  · refine e_iload_n dX7_requirePolygon_4 rfl ?_
    refine e_iconst dX7_requirePolygon_5 ?_
    refine e_icmp_lt (tgt := 20) ⟨by omega, by omega⟩ ⟨by omega, by omega⟩ dX7_requirePolygon_6 rfl (fun c_6 => ?_) (fun c_6 => ?_)
    · refine e_aload_n dX7_requirePolygon_20 rfl ?_
      refine e_getf fX7_12 X.obj rfl dX7_requirePolygon_21 ?_
      refine e_iload_n dX7_requirePolygon_24 rfl ?_
      rw [show (iN j) = iN (j.toNat : Int) from by rw [Int.toNat_of_nonneg c.1]]
      refine e_pureV qcX7_283 X.yd.obj rfl rfl (S_polygonAt X.yd (show j.toNat < 4 by omega)) rfl rfl rfl rfl dX7_requirePolygon_25 ?_
      refine e_aret rfl dX7_requirePolygon_28 (by decide) (by decide) ?_
      exact ⟨rfl, rfl, rfl⟩
    · exact absurd c (by omega)
set_option maxRecDepth 20000 in
theorem T_requirePolygon (X : hsX G P E S b P2 E2 S2 F L1 L2 H1 H2 QL QT qa CA CB o h0 h) {j : Int} (ha : r32 j) (c : ¬ pgOK j) : Throws G mX7_requirePolygon [.ref o, .int (iN j)] h xIAE := by
  have a1 := ha.1
  have a2 := ha.2
  intro z
  refine run_of rfl plX7 rfl ?_
  refine e_iload_n dX7_requirePolygon_0 rfl ?_
  refine e_if_lt (tgt := 9) ⟨by omega, by omega⟩ dX7_requirePolygon_1 rfl (fun c_1 => ?_) (fun c_1 => ?_)
  · refine e_throwW (text := "polygon is out of range") rfl rfl t_102_106 s_306 dX7_requirePolygon_9 dX7_requirePolygon_12 dX7_requirePolygon_13 dX7_requirePolygon_16 dX7_requirePolygon_19 rfl rfl (by decide) (by decide) ?_
    exact ⟨rfl, rfl, rfl⟩
  · refine e_iload_n dX7_requirePolygon_4 rfl ?_
    refine e_iconst dX7_requirePolygon_5 ?_
    refine e_icmp_lt (tgt := 20) ⟨by omega, by omega⟩ ⟨by omega, by omega⟩ dX7_requirePolygon_6 rfl (fun c_6 => ?_) (fun c_6 => ?_)
    · exact absurd (show pgOK j by omega) c
    · refine e_throwW (text := "polygon is out of range") rfl rfl t_102_106 s_306 dX7_requirePolygon_9 dX7_requirePolygon_12 dX7_requirePolygon_13 dX7_requirePolygon_16 dX7_requirePolygon_19 rfl rfl (by decide) (by decide) ?_
      exact ⟨rfl, rfl, rfl⟩
set_option maxRecDepth 20000 in
theorem S_requireSimple (X : hsX G P E S b P2 E2 S2 F L1 L2 H1 H2 QL QT qa CA CB o h0 h) {j : Int} (ha : r32 j) (c : pgOK j) (c2 : closes (S j.toNat)) : Pure G mX7_requireSimple [.ref o, .int (iN j)] h (.ref (o + 1 + 14 + 4 * j.toNat)) := by
  letI : Decidable (closes (S j.toNat)) := Classical.propDecidable _
  intro z
  refine run_of rfl plX7 rfl ?_
  refine e_aload_n dX7_requireSimple_0 rfl ?_
  refine e_iload_n dX7_requireSimple_1 rfl ?_
  refine e_pureV qcX7_159 X.obj rfl rfl (S_requirePolygon X ha c) rfl rfl rfl rfl dX7_requireSimple_2 ?_
  refine e_astore_n dX7_requireSimple_5 rfl ?_
  refine e_aload_n dX7_requireSimple_6 rfl ?_
  refine e_pureS qcX7_206 (S_closesSimply (X.pol (show j.toNat < 4 by omega))) rfl rfl rfl rfl dX7_requireSimple_7 ?_
  refine e_ifP_ne (tgt := 24) dX7_requireSimple_10 rfl (fun c_10 => ?_) (fun c_10 => ?_)
  · refine e_aload_n dX7_requireSimple_24 rfl ?_
    refine e_aret rfl dX7_requireSimple_25 (by decide) (by decide) ?_
    exact ⟨rfl, rfl, rfl⟩
  · exact absurd c2 c_10
set_option maxRecDepth 20000 in
theorem T_requireSimple1 (X : hsX G P E S b P2 E2 S2 F L1 L2 H1 H2 QL QT qa CA CB o h0 h) {j : Int} (ha : r32 j) (c : ¬ pgOK j) : Throws G mX7_requireSimple [.ref o, .int (iN j)] h xIAE := by
  intro z
  refine run_of rfl plX7 rfl ?_
  refine e_aload_n dX7_requireSimple_0 rfl ?_
  refine e_iload_n dX7_requireSimple_1 rfl ?_
  exact e_throwsV qcX7_159 X.obj rfl rfl (T_requirePolygon X ha c) rfl rfl rfl rfl dX7_requireSimple_2 rfl ⟨rfl, rfl, rfl⟩
set_option maxRecDepth 20000 in
theorem T_requireSimple2 (X : hsX G P E S b P2 E2 S2 F L1 L2 H1 H2 QL QT qa CA CB o h0 h) {j : Int} (ha : r32 j) (c : pgOK j) (c2 : ¬ closes (S j.toNat)) : Throws G mX7_requireSimple [.ref o, .int (iN j)] h xISE := by
  letI : Decidable (closes (S j.toNat)) := Classical.propDecidable _
  intro z
  refine run_of rfl plX7 rfl ?_
  refine e_aload_n dX7_requireSimple_0 rfl ?_
  refine e_iload_n dX7_requireSimple_1 rfl ?_
  refine e_pureV qcX7_159 X.obj rfl rfl (S_requirePolygon X ha c) rfl rfl rfl rfl dX7_requireSimple_2 ?_
  refine e_astore_n dX7_requireSimple_5 rfl ?_
  refine e_aload_n dX7_requireSimple_6 rfl ?_
  refine e_pureS qcX7_206 (S_closesSimply (X.pol (show j.toNat < 4 by omega))) rfl rfl rfl rfl dX7_requireSimple_7 ?_
  refine e_ifP_ne (tgt := 24) dX7_requireSimple_10 rfl (fun c_10 => ?_) (fun c_10 => ?_)
  · exact absurd c_10 c2
  · refine e_throwW (text := "the polygon is not simple") rfl rfl t_72_76 s_308 dX7_requireSimple_13 dX7_requireSimple_16 dX7_requireSimple_17 dX7_requireSimple_20 dX7_requireSimple_23 rfl rfl (by decide) (by decide) ?_
    exact ⟨rfl, rfl, rfl⟩
set_option maxRecDepth 20000 in
theorem S_wrapTwo (X : hsX G P E S b P2 E2 S2 F L1 L2 H1 H2 QL QT qa CA CB o h0 h) {a b1 : Int} (ha : r32 a) (hb : r32 b1) : Does G mX7_wrapTwo [.ref o, .int (iN a), .int (iN b1)] h (fun v h1 => v = none ∧ hsX G P E S b P2 E2 S2 F (putN P b1 [] P.length) L2 (wrapN 61 (putN P a [] P.length)) (wrapN 61 (putN P b1 [] P.length)) QL QT qa CA CB o h0 h1) := by
  intro z
  refine run_of rfl plX7 rfl ?_
  refine e_aload_n dX7_wrapTwo_0 rfl ?_
  refine e_iload_n dX7_wrapTwo_1 rfl ?_
  refine e_doesV qcX7_107 X.obj rfl rfl (S_orderHeap X ha) rfl rfl rfl rfl dX7_wrapTwo_2 ?_
  intro v h9 q9
  obtain ⟨rfl, X⟩ := q9
  refine e_aload_n dX7_wrapTwo_5 rfl ?_
  refine e_getf fX7_32 X.obj rfl dX7_wrapTwo_6 ?_
  refine e_aload_n dX7_wrapTwo_9 rfl ?_
  refine e_getf fX7_38 X.obj rfl dX7_wrapTwo_10 ?_
  refine e_doesS qcX7_128 (S_wrap X.fh X.od (by omega) (by omega)) rfl rfl rfl rfl dX7_wrapTwo_13 ?_
  intro v h9 q9
  obtain ⟨rfl, g9, f9⟩ := q9
  replace X := X.w1 g9 f9
  clear g9 f9
  refine e_aload_n dX7_wrapTwo_16 rfl ?_
  refine e_iload_n dX7_wrapTwo_17 rfl ?_
  refine e_doesV qcX7_107 X.obj rfl rfl (S_orderHeap X hb) rfl rfl rfl rfl dX7_wrapTwo_18 ?_
  intro v h9 q9
  obtain ⟨rfl, X⟩ := q9
  refine e_aload_n dX7_wrapTwo_21 rfl ?_
  refine e_getf fX7_32 X.obj rfl dX7_wrapTwo_22 ?_
  refine e_aload_n dX7_wrapTwo_25 rfl ?_
  refine e_getf fX7_41 X.obj rfl dX7_wrapTwo_26 ?_
  refine e_doesS qcX7_128 (S_wrap X.sh X.od (by omega) (by omega)) rfl rfl rfl rfl dX7_wrapTwo_29 ?_
  intro v h9 q9
  obtain ⟨rfl, g9, f9⟩ := q9
  replace X := X.w2 g9 f9
  clear g9 f9
  refine e_vret rfl dX7_wrapTwo_32 (by decide) (by decide) ?_
  exact ⟨none, rfl, rfl, rfl, X⟩
abbrev noStray (L : PL) : Prop := ∀ i, i < L.length → 0 ≤ wI (wrapN 61 L) 1 (pX L i) (pY L i)
set_option maxRecDepth 20000 in
theorem st_loop {z : Option Nat} {a : Int} {L : PL} {h1 : g_hp} (X : hsX G P E S b P2 E2 S2 F L L2 (wrapN 61 L) H2 QL QT qa CA CB o h0 h1) (hL : L = (putN P a [] P.length)) (ns : noStray L) : ∀ (n i : Nat), i + n = L.length → Ev (g_B G mX7_hasStray 0 0 (fun o1 z1 h1 => ∃ v, o1 = .inl v ∧ z1 = z ∧ (v = some (.int (iN 0)) ∧ hsX G P E S b P2 E2 S2 F (putN P a [] P.length) L2 (wrapN 61 (putN P a [] P.length)) H2 QL QT qa CA CB o h0 h1))) 0 0 z h1 18 [(2, .int (iN (i : Nat))), (0, .ref o), (1, .int (iN a))] [] := by
  have h9 := X.od.1
  intro n
  induction n with
  | zero =>
    intro i hin
    subst hL
    refine e_iload_n dX7_hasStray_18 rfl ?_
    refine e_aload_n dX7_hasStray_19 rfl ?_
    refine e_getf fX7_32 X.obj rfl dX7_hasStray_20 ?_
    refine e_pureV qcX7_68 X.od.obj rfl rfl (S_size X.od) rfl rfl rfl rfl dX7_hasStray_23 ?_
    refine e_icmp_ge (tgt := 66) ⟨by omega, by omega⟩ ⟨by omega, by omega⟩ dX7_hasStray_26 rfl (fun c_26 => ?_) (fun c_26 => absurd (by omega) c_26)
    refine e_iconst dX7_hasStray_66 ?_
    refine e_zret rfl (by first | exact Or.inl rfl | exact Or.inr rfl | exact bP_01 _) dX7_hasStray_67 (by decide) (by decide) ?_
    exact ⟨_, rfl, rfl, rfl, X⟩
  | succ n ih =>
    intro i hin
    have hi : i < L.length := by omega
    have hb := X.od.2.2.1.at hi
    have hw := ns i hi
    have hw2 := wI_b (wrapN 61 L) 1 (pX L i) (pY L i)
    refine e_iload_n dX7_hasStray_18 rfl ?_
    refine e_aload_n dX7_hasStray_19 rfl ?_
    refine e_getf fX7_32 X.obj rfl dX7_hasStray_20 ?_
    refine e_pureV qcX7_68 X.od.obj rfl rfl (S_size X.od) rfl rfl rfl rfl dX7_hasStray_23 ?_
    refine e_icmp_ge (tgt := 66) ⟨by omega, by omega⟩ ⟨by omega, by omega⟩ dX7_hasStray_26 rfl (fun c_26 => absurd c_26 (by omega)) (fun c_26 => ?_)
    refine e_aload_n dX7_hasStray_29 rfl ?_
    refine e_getf fX7_38 X.obj rfl dX7_hasStray_30 ?_
    refine e_iconst dX7_hasStray_33 ?_
    refine e_aload_n dX7_hasStray_34 rfl ?_
    refine e_getf fX7_32 X.obj rfl dX7_hasStray_35 ?_
    refine e_iload_n dX7_hasStray_38 rfl ?_
    refine e_pureV qcX7_96 X.od.obj rfl rfl (S_xAt X.od hi) rfl rfl rfl rfl dX7_hasStray_39 ?_
    refine e_i2l ⟨by omega, by omega⟩ dX7_hasStray_42 ?_
    refine e_aload_n dX7_hasStray_43 rfl ?_
    refine e_getf fX7_32 X.obj rfl dX7_hasStray_44 ?_
    refine e_iload_n dX7_hasStray_47 rfl ?_
    refine e_pureV qcX7_99 X.od.obj rfl rfl (S_yAt X.od hi) rfl rfl rfl rfl dX7_hasStray_48 ?_
    refine e_i2l ⟨by omega, by omega⟩ dX7_hasStray_51 ?_
    refine e_pureS qcX7_194 (S_whereIs (s := 1) X.fh ⟨by omega, by omega⟩ ⟨by omega, by omega⟩ ⟨by omega, by omega⟩) rfl rfl rfl rfl dX7_hasStray_52 ?_
    refine e_if_ge (tgt := 60) ⟨by omega, by omega⟩ dX7_hasStray_55 rfl (fun c_55 => ?_) (fun c_55 => absurd hw c_55)
    refine e_iinc dX7_hasStray_60 rfl ?_
    refine e_goto (tgt := 18) dX7_hasStray_63 rfl ?_
    exact e_loc [(2, .int (iN (i + 1 : Nat))), (0, .ref o), (1, .int (iN a))] ⟨rfl, rfl, rfl, trivial⟩ (ih (i + 1) (by omega))
set_option maxRecDepth 20000 in
theorem S_hasStray (X : hsX G P E S b P2 E2 S2 F L1 L2 H1 H2 QL QT qa CA CB o h0 h) {a : Int} (ha : r32 a) (ns : noStray (putN P a [] P.length)) : Does G mX7_hasStray [.ref o, .int (iN a)] h (fun v h1 => v = some (.int (iN 0)) ∧ hsX G P E S b P2 E2 S2 F (putN P a [] P.length) L2 (wrapN 61 (putN P a [] P.length)) H2 QL QT qa CA CB o h0 h1) := by
  intro z
  refine run_of rfl plX7 rfl ?_
  refine e_aload_n dX7_hasStray_0 rfl ?_
  refine e_iload_n dX7_hasStray_1 rfl ?_
  refine e_doesV qcX7_107 X.obj rfl rfl (S_orderHeap X ha) rfl rfl rfl rfl dX7_hasStray_2 ?_
  intro v h9 q9
  obtain ⟨rfl, X⟩ := q9
  refine e_aload_n dX7_hasStray_5 rfl ?_
  refine e_getf fX7_32 X.obj rfl dX7_hasStray_6 ?_
  refine e_aload_n dX7_hasStray_9 rfl ?_
  refine e_getf fX7_38 X.obj rfl dX7_hasStray_10 ?_
  refine e_doesS qcX7_128 (S_wrap X.fh X.od (by omega) (by omega)) rfl rfl rfl rfl dX7_hasStray_13 ?_
  intro v h9 q9
  obtain ⟨rfl, g9, f9⟩ := q9
  replace X := X.w1 g9 f9
  clear g9 f9
  refine e_iconst dX7_hasStray_16 ?_
  refine e_istore_n dX7_hasStray_17 rfl ?_
  exact e_loc [(2, .int (iN (0 : Nat))), (0, .ref o), (1, .int (iN a))] ⟨rfl, rfl, rfl, trivial⟩ (st_loop X rfl ns _ 0 (Nat.zero_add _))
noncomputable abbrev parD (L : PL) : PT := parF (sg (da L)) 16 L [] 0
abbrev noFault (L : PL) : Prop := 2 * ceS L (ceN L) + srd L - 2 = ((da L).natAbs : Int) ∧ (parD L).2.2 = ((da L).natAbs : Int)
set_option maxRecDepth 20000 in
theorem S_faultsOf (X : hsX G P E S b P2 E2 S2 F L1 L2 H1 H2 QL QT qa CA CB o h0 h) {j : Nat} (hj : j < 4) (hS : okS (S j)) (nf : noFault (S j)) : Does G mX7_faultsOf [.ref o, .ref (o + 1 + 14 + 4 * j)] h (fun v h1 => v = some (.int (iN 0)) ∧ ∃ QL QT qa CA CB, hsX G P E S b P2 E2 S2 F L1 L2 H1 H2 QL QT qa CA CB o h0 h1) := by
  have hl := (X.pol hj).1
  have db := da_bd (X.pol hj).2.2.1 (by omega)
  obtain ⟨n1, n2⟩ := nf
  intro z
  refine run_of rfl plX7 rfl ?_
  refine e_aload_n dX7_faultsOf_0 rfl ?_
  refine e_pureS qcX7_178 (S_doubledArea (X.pol hj)) rfl rfl rfl rfl dX7_faultsOf_1 ?_
  refine e_mabs ⟨by omega, by omega⟩ qcX7_276 rfl dX7_faultsOf_4 ?_
  refine e_istore_n dX7_faultsOf_7 rfl ?_
  refine e_iconst dX7_faultsOf_8 ?_
  refine e_istore_n dX7_faultsOf_9 rfl ?_
  refine e_iconst dX7_faultsOf_10 ?_
  refine e_aload_n dX7_faultsOf_11 rfl ?_
  refine e_getf fX7_54 X.obj rfl dX7_faultsOf_12 ?_
  refine e_aload_n dX7_faultsOf_15 rfl ?_
  refine e_doesV qcX7_310 X.cn.1 rfl rfl (S_countInside (X.pol hj) hS hl (by omega) X.cn) rfl rfl rfl rfl dX7_faultsOf_16 ?_
  intro v h9 q9
  obtain ⟨rfl, ⟨A9, B9, g9⟩, f9⟩ := q9
  replace X := X.wC g9 f9
  clear g9 f9
  refine e_imul dX7_faultsOf_19 ?_
  refine e_aload_n dX7_faultsOf_20 rfl ?_
  refine e_pureS qcX7_188 (S_stepsRound (X.pol hj)) rfl rfl rfl rfl dX7_faultsOf_21 ?_
  refine e_iadd dX7_faultsOf_24 ?_
  refine e_iconst dX7_faultsOf_25 ?_
  refine e_isub dX7_faultsOf_26 ?_
  refine e_iload_n dX7_faultsOf_27 rfl ?_
  rw [n1]
  refine e_icmp_eq (tgt := 34) ⟨by omega, by omega⟩ ⟨by omega, by omega⟩ dX7_faultsOf_28 rfl (fun c_28 => ?_) (fun c_28 => absurd rfl c_28)
  refine e_aload_n dX7_faultsOf_34 rfl ?_
  refine e_getf fX7_47 X.obj rfl dX7_faultsOf_35 ?_
  refine e_aload_n dX7_faultsOf_38 rfl ?_
  refine e_doesV qcX7_213 X.pt.obj rfl rfl (S_part X.pt (X.pol hj) (by omega) hl) rfl rfl rfl rfl dX7_faultsOf_39 ?_
  intro v h9 q9
  obtain ⟨rfl, g9, f9⟩ := q9
  replace X := X.wQ g9 f9
  clear g9 f9
  refine e_aload_n dX7_faultsOf_42 rfl ?_
  refine e_getf fX7_47 X.obj rfl dX7_faultsOf_43 ?_
  refine e_pureV qcX7_313 X.pt.obj rfl rfl (S_areas X.pt) rfl rfl rfl rfl dX7_faultsOf_46 ?_
  refine e_iload_n dX7_faultsOf_49 rfl ?_
  refine e_i2l ⟨by omega, by omega⟩ dX7_faultsOf_50 ?_
  rw [n2]
  refine e_lif_eq (tgt := 58) ⟨by omega, by omega⟩ ⟨by omega, by omega⟩ dX7_faultsOf_51 dX7_faultsOf_52 rfl (fun c_51 => ?_) (fun c_51 => absurd rfl c_51)
  refine e_iload_n dX7_faultsOf_58 rfl ?_
  refine e_iret rfl dX7_faultsOf_59 (by decide) (by decide) ?_
  exact ⟨_, rfl, rfl, rfl, _, _, _, _, _, X⟩
/-- the y's of n places from the i-th on, in order -/
def htN (L : PL) (i : Nat) : Nat → PL
  | 0 => []
  | n + 1 => insE (htN L i n) (pY L (i + n), 0, 0)
theorem htN_len (L : PL) (i : Nat) : ∀ n, (htN L i n).length = n
  | 0 => rfl
  | n + 1 => by unfold htN; rw [insE_len, htN_len L i n]
def lfI (T : PL) (w : Int) (p : Nat) (m : Int) : Nat → Int
  | 0 => m
  | n + 1 => min (lfI T w p m n) (w + (pX T (n + p - 1) - pX T n))
def lfO (L : PL) (i p : Nat) : Nat → Int
  | 0 => 1000
  | n + 1 => lfI (htN L i (n + 1)) (pX L (i + n) - pX L i) p (lfO L i p n) (n + 2 - p)
abbrev b9 (v : Int) : Prop := -8000 ≤ v ∧ v ≤ 8000
theorem min_b9 {a b : Int} (h1 : b9 a) (h2 : b9 b) : b9 (min a b) := ⟨Int.le_min.mpr ⟨h1.1, h2.1⟩, Int.le_trans (Int.min_le_left _ _) h1.2⟩
theorem lfI_bd {T : PL} {w m : Int} {p : Nat} (hT : okL T) (hw : -4000 ≤ w ∧ w ≤ 4000) (hp : 1 ≤ p) (hm : b9 m) : ∀ n, n + p ≤ T.length + 1 → b9 (lfI T w p m n)
  | 0, _ => hm
  | n + 1, h => by
    have i1 := (hT.at (show n < T.length by omega)).1
    have i2 := (hT.at (show n + p - 1 < T.length by omega)).1
    refine min_b9 (lfI_bd hT hw hp hm n (by omega)) ⟨?_, ?_⟩
    · show (-8000 : Int) ≤ _ + (_ - _); omega
    · show _ + (_ - _) ≤ (8000 : Int); omega
theorem okL_insE {L : PL} {e : Int × Int × Int} (h : okL L) (he : bd e.1 ∧ bd e.2.1 ∧ bd e.2.2) : okL (insE L e) := okL_insAt h he
theorem htN_ok {L : PL} (h : okL L) (i : Nat) : ∀ n, i + n ≤ L.length → okL (htN L i n)
  | 0, _ => fun _ h => absurd h List.not_mem_nil
  | n + 1, hn => okL_insE (htN_ok h i n (by omega)) ⟨(h.at (show i + n < L.length by omega)).2.1, (⟨by decide, by decide⟩ : bd 0), (⟨by decide, by decide⟩ : bd 0)⟩
theorem lfO_bd {L : PL} (h : okL L) {i p : Nat} (hp : 1 ≤ p) : ∀ n, i + n ≤ L.length → b9 (lfO L i p n)
  | 0, _ => (⟨by decide, by decide⟩ : b9 1000)
  | n + 1, hn => by
    have i1 := (h.at (show i < L.length by omega)).1
    have i2 := (h.at (show i + n < L.length by omega)).1
    unfold lfO
    by_cases c : p ≤ n + 2
    · exact lfI_bd (htN_ok h i (n + 1) hn) ⟨by omega, by omega⟩ hp (lfO_bd h hp n (by omega)) _ (by rw [htN_len]; omega)
    · rw [show n + 2 - p = 0 by omega]
      exact lfO_bd h hp n (by omega)
set_option maxRecDepth 20000 in
theorem lf_inner {z : Option Nat} {i p n : Nat} (hp : 1 ≤ p) (hp2 : p ≤ 100) (hn : i + n < L1.length) (hs : L1.length ≤ 60) (ok : okL L1) {h1 : g_hp} (X : hsX G P E S b P2 E2 S2 F L1 (htN L1 i (n + 1)) H1 H2 QL QT qa CA CB o h0 h1) (k : Ev (g_B G mX7_leastFenceFrom 0 0 (fun o1 z1 h1 => ∃ v, o1 = .inl v ∧ z1 = z ∧ (v = some (.int (iN (lfO L1 i p (L1.length - i)))) ∧ ∃ L2, hsX G P E S b P2 E2 S2 F L1 L2 H1 H2 QL QT qa CA CB o h0 h1))) 0 0 z h1 122 [(3, .int (iN (lfO L1 i p (n + 1)))), (4, .int (iN (i + n : Nat))), (0, .ref o), (1, .int (iN i)), (2, .int (iN p))] []) : ∀ (c low : Nat), low + c = n + 2 - p → Ev (g_B G mX7_leastFenceFrom 0 0 (fun o1 z1 h1 => ∃ v, o1 = .inl v ∧ z1 = z ∧ (v = some (.int (iN (lfO L1 i p (L1.length - i)))) ∧ ∃ L2, hsX G P E S b P2 E2 S2 F L1 L2 H1 H2 QL QT qa CA CB o h0 h1))) 0 0 z h1 67 [(6, .int (iN (low : Nat))), (5, .int (iN (pX L1 (i + n) - pX L1 i))), (3, .int (iN (lfI (htN L1 i (n + 1)) (pX L1 (i + n) - pX L1 i) p (lfO L1 i p n) low))), (4, .int (iN (i + n : Nat))), (0, .ref o), (1, .int (iN i)), (2, .int (iN p))] [] := by
  have hl : (htN L1 i (n + 1)).length = n + 1 := htN_len _ _ _
  have i1 := (ok.at (show i < L1.length by omega)).1
  have i2 := (ok.at hn).1
  intro c
  induction c with
  | zero =>
    intro low hc
    have e9 : low = n + 2 - p := by omega
    refine e_iload dX7_leastFenceFrom_67 rfl ?_
    refine e_iload_n dX7_leastFenceFrom_69 rfl ?_
    refine e_iadd dX7_leastFenceFrom_70 ?_
    refine e_aload_n dX7_leastFenceFrom_71 rfl ?_
    refine e_getf fX7_35 X.obj rfl dX7_leastFenceFrom_72 ?_
    refine e_pureV qcX7_68 X.ht.obj rfl rfl (S_size X.ht) rfl rfl rfl rfl dX7_leastFenceFrom_75 ?_
    refine e_icmp_gt (tgt := 122) ⟨by omega, by omega⟩ ⟨by omega, by omega⟩ dX7_leastFenceFrom_78 rfl (fun c_78 => ?_) (fun c_78 => absurd (by omega) c_78)
    exact e_loc [(3, .int (iN (lfI (htN L1 i (n + 1)) (pX L1 (i + n) - pX L1 i) p (lfO L1 i p n) low))), (4, .int (iN (i + n : Nat))), (0, .ref o), (1, .int (iN i)), (2, .int (iN p))] ⟨rfl, rfl, rfl, rfl, rfl, trivial⟩ (by rw [e9]; exact k)
  | succ c ih =>
    intro low hc
    have hi := (htN_ok ok i (n + 1) (by omega)).at (show low < _ by rw [hl]; omega)
    have hj := (htN_ok ok i (n + 1) (by omega)).at (show low + p - 1 < _ by rw [hl]; omega)
    have hm := lfI_bd (T := htN L1 i (n + 1)) (w := pX L1 (i + n) - pX L1 i) (m := lfO L1 i p n) (htN_ok ok i (n + 1) (by omega)) ⟨by omega, by omega⟩ hp (lfO_bd ok hp n (by omega)) low (by rw [hl]; omega)
    refine e_iload dX7_leastFenceFrom_67 rfl ?_
    refine e_iload_n dX7_leastFenceFrom_69 rfl ?_
    refine e_iadd dX7_leastFenceFrom_70 ?_
    refine e_aload_n dX7_leastFenceFrom_71 rfl ?_
    refine e_getf fX7_35 X.obj rfl dX7_leastFenceFrom_72 ?_
    refine e_pureV qcX7_68 X.ht.obj rfl rfl (S_size X.ht) rfl rfl rfl rfl dX7_leastFenceFrom_75 ?_
    refine e_icmp_gt (tgt := 122) ⟨by omega, by omega⟩ ⟨by omega, by omega⟩ dX7_leastFenceFrom_78 rfl (fun c_78 => absurd c_78 (by omega)) (fun c_78 => ?_)
    refine e_aload_n dX7_leastFenceFrom_81 rfl ?_
    refine e_getf fX7_35 X.obj rfl dX7_leastFenceFrom_82 ?_
    refine e_iload dX7_leastFenceFrom_85 rfl ?_
    refine e_iload_n dX7_leastFenceFrom_87 rfl ?_
    refine e_iadd dX7_leastFenceFrom_88 ?_
    refine e_iconst dX7_leastFenceFrom_89 ?_
    refine e_isub dX7_leastFenceFrom_90 ?_
    rw [show (low : Int) + (p : Int) - 1 = ((low + p - 1 : Nat) : Int) by omega]
    refine e_pureV qcX7_96 X.ht.obj rfl rfl (S_xAt X.ht (show low + p - 1 < _ by rw [hl]; omega)) rfl rfl rfl rfl dX7_leastFenceFrom_91 ?_
    refine e_aload_n dX7_leastFenceFrom_94 rfl ?_
    refine e_getf fX7_35 X.obj rfl dX7_leastFenceFrom_95 ?_
    refine e_iload dX7_leastFenceFrom_98 rfl ?_
    refine e_pureV qcX7_96 X.ht.obj rfl rfl (S_xAt X.ht (show low < _ by rw [hl]; omega)) rfl rfl rfl rfl dX7_leastFenceFrom_100 ?_
    refine e_isub dX7_leastFenceFrom_103 ?_
    refine e_istore dX7_leastFenceFrom_104 rfl ?_
    refine e_iload_n dX7_leastFenceFrom_106 rfl ?_
    refine e_iload dX7_leastFenceFrom_107 rfl ?_
    refine e_iload dX7_leastFenceFrom_109 rfl ?_
    refine e_iadd dX7_leastFenceFrom_111 ?_
    refine e_mmin ⟨by omega, by omega⟩ ⟨by omega, by omega⟩ qcX7_151 rfl dX7_leastFenceFrom_112 ?_
    refine e_istore_n dX7_leastFenceFrom_115 rfl ?_
    refine e_iinc dX7_leastFenceFrom_116 rfl ?_
    refine e_goto (tgt := 67) dX7_leastFenceFrom_119 rfl ?_
    exact e_loc [(6, .int (iN (low + 1 : Nat))), (5, .int (iN (pX L1 (i + n) - pX L1 i))), (3, .int (iN (lfI (htN L1 i (n + 1)) (pX L1 (i + n) - pX L1 i) p (lfO L1 i p n) (low + 1)))), (4, .int (iN (i + n : Nat))), (0, .ref o), (1, .int (iN i)), (2, .int (iN p))] ⟨rfl, rfl, rfl, rfl, rfl, rfl, rfl, trivial⟩ (ih (low + 1) (by omega))
set_option maxRecDepth 20000 in
theorem lf_loop {z : Option Nat} {i p : Nat} (hp : 1 ≤ p) (hp2 : p ≤ 100) (hs : L1.length ≤ 60) (ok : okL L1) : ∀ (c n : Nat) (h1 : g_hp), i + n + c = L1.length → hsX G P E S b P2 E2 S2 F L1 (htN L1 i n) H1 H2 QL QT qa CA CB o h0 h1 → Ev (g_B G mX7_leastFenceFrom 0 0 (fun o1 z1 h1 => ∃ v, o1 = .inl v ∧ z1 = z ∧ (v = some (.int (iN (lfO L1 i p (L1.length - i)))) ∧ ∃ L2, hsX G P E S b P2 E2 S2 F L1 L2 H1 H2 QL QT qa CA CB o h0 h1))) 0 0 z h1 14 [(3, .int (iN (lfO L1 i p n))), (4, .int (iN (i + n : Nat))), (0, .ref o), (1, .int (iN i)), (2, .int (iN p))] [] := by
  intro c
  induction c with
  | zero =>
    intro n h1 hc X
    have e9 : n = L1.length - i := by omega
    refine e_iload dX7_leastFenceFrom_14 rfl ?_
    refine e_aload_n dX7_leastFenceFrom_16 rfl ?_
    refine e_getf fX7_32 X.obj rfl dX7_leastFenceFrom_17 ?_
    refine e_pureV qcX7_68 X.od.obj rfl rfl (S_size X.od) rfl rfl rfl rfl dX7_leastFenceFrom_20 ?_
    refine e_icmp_ge (tgt := 128) ⟨by omega, by omega⟩ ⟨by omega, by omega⟩ dX7_leastFenceFrom_23 rfl (fun c_23 => ?_) (fun c_23 => absurd (by omega) c_23)
    refine e_iload_n dX7_leastFenceFrom_128 rfl ?_
    refine e_iret rfl dX7_leastFenceFrom_129 (by decide) (by decide) ?_
    exact ⟨_, rfl, rfl, by rw [e9], _, X⟩
  | succ c ih =>
    intro n h1 hc X
    have hn : i + n < L1.length := by omega
    have hb := (ok.at hn).2.1
    refine e_iload dX7_leastFenceFrom_14 rfl ?_
    refine e_aload_n dX7_leastFenceFrom_16 rfl ?_
    refine e_getf fX7_32 X.obj rfl dX7_leastFenceFrom_17 ?_
    refine e_pureV qcX7_68 X.od.obj rfl rfl (S_size X.od) rfl rfl rfl rfl dX7_leastFenceFrom_20 ?_
    refine e_icmp_ge (tgt := 128) ⟨by omega, by omega⟩ ⟨by omega, by omega⟩ dX7_leastFenceFrom_23 rfl (fun c_23 => absurd c_23 (by omega)) (fun c_23 => ?_)
    refine e_aload_n dX7_leastFenceFrom_26 rfl ?_
    refine e_getf fX7_35 X.obj rfl dX7_leastFenceFrom_27 ?_
    refine e_aload_n dX7_leastFenceFrom_30 rfl ?_
    refine e_getf fX7_32 X.obj rfl dX7_leastFenceFrom_31 ?_
    refine e_iload dX7_leastFenceFrom_34 rfl ?_
    refine e_pureV qcX7_99 X.od.obj rfl rfl (S_yAt X.od hn) rfl rfl rfl rfl dX7_leastFenceFrom_36 ?_
    refine e_iconst dX7_leastFenceFrom_39 ?_
    refine e_iconst dX7_leastFenceFrom_40 ?_
    refine e_doesV qcX7_171 X.ht.obj rfl rfl (S_insertInOrder X.ht (by rw [htN_len]; omega) hb ⟨by decide, by decide⟩ ⟨by decide, by decide⟩) rfl rfl rfl rfl dX7_leastFenceFrom_41 ?_
    intro v h9 q9
    obtain ⟨rfl, g9, f9⟩ := q9
    replace X := X.wH g9 f9
    clear g9 f9
    refine e_aload_n dX7_leastFenceFrom_44 rfl ?_
    refine e_getf fX7_32 X.obj rfl dX7_leastFenceFrom_45 ?_
    refine e_iload dX7_leastFenceFrom_48 rfl ?_
    refine e_pureV qcX7_96 X.od.obj rfl rfl (S_xAt X.od hn) rfl rfl rfl rfl dX7_leastFenceFrom_50 ?_
    refine e_aload_n dX7_leastFenceFrom_53 rfl ?_
    refine e_getf fX7_32 X.obj rfl dX7_leastFenceFrom_54 ?_
    refine e_iload_n dX7_leastFenceFrom_57 rfl ?_
    refine e_pureV qcX7_96 X.od.obj rfl rfl (S_xAt X.od (show i < L1.length by omega)) rfl rfl rfl rfl dX7_leastFenceFrom_58 ?_
    refine e_isub dX7_leastFenceFrom_61 ?_
    refine e_istore dX7_leastFenceFrom_62 rfl ?_
    refine e_iconst dX7_leastFenceFrom_64 ?_
    refine e_istore dX7_leastFenceFrom_65 rfl ?_
    exact e_loc [(6, .int (iN (0 : Nat))), (5, .int (iN (pX L1 (i + n) - pX L1 i))), (3, .int (iN (lfI (htN L1 i (n + 1)) (pX L1 (i + n) - pX L1 i) p (lfO L1 i p n) 0))), (4, .int (iN (i + n : Nat))), (0, .ref o), (1, .int (iN i)), (2, .int (iN p))] ⟨rfl, rfl, rfl, rfl, rfl, rfl, rfl, trivial⟩ (lf_inner hp hp2 hn hs ok X (by
      refine e_iinc dX7_leastFenceFrom_122 rfl ?_
      refine e_goto (tgt := 14) dX7_leastFenceFrom_125 rfl ?_
      exact e_loc [(3, .int (iN (lfO L1 i p (n + 1)))), (4, .int (iN (i + (n + 1) : Nat))), (0, .ref o), (1, .int (iN i)), (2, .int (iN p))] ⟨rfl, rfl, rfl, rfl, rfl, trivial⟩ (ih (n + 1) _ (by omega) X)) (n + 2 - p) 0 (Nat.zero_add _))
set_option maxRecDepth 20000 in
theorem S_leastFenceFrom (X : hsX G P E S b P2 E2 S2 F L1 L2 H1 H2 QL QT qa CA CB o h0 h) {i p : Nat} (hp : 1 ≤ p) (hp2 : p ≤ 100) (hi : i ≤ L1.length) : Does G mX7_leastFenceFrom [.ref o, .int (iN i), .int (iN p)] h (fun v h1 => v = some (.int (iN (lfO L1 i p (L1.length - i)))) ∧ ∃ L2, hsX G P E S b P2 E2 S2 F L1 L2 H1 H2 QL QT qa CA CB o h0 h1) := by
  intro z
  refine run_of rfl plX7 rfl ?_
  refine e_sipush dX7_leastFenceFrom_0 (by decide) ?_
  refine e_istore_n dX7_leastFenceFrom_3 rfl ?_
  refine e_aload_n dX7_leastFenceFrom_4 rfl ?_
  refine e_getf fX7_35 X.obj rfl dX7_leastFenceFrom_5 ?_
  refine e_doesV qcX7_168 X.ht.obj rfl rfl (S_reset X.ht) rfl rfl rfl rfl dX7_leastFenceFrom_8 ?_
  intro v h9 q9
  obtain ⟨rfl, g9, f9⟩ := q9
  replace X := X.wH g9 f9
  clear g9 f9
  refine e_iload_n dX7_leastFenceFrom_11 rfl ?_
  refine e_istore dX7_leastFenceFrom_12 rfl ?_
  exact e_loc [(3, .int (iN (lfO L1 i p 0))), (4, .int (iN (i + 0 : Nat))), (0, .ref o), (1, .int (iN i)), (2, .int (iN p))] ⟨rfl, rfl, rfl, rfl, rfl, trivial⟩ (lf_loop hp hp2 X.od.1 X.od.2.2.1 (L1.length - i) 0 _ (by omega) X)
end PHS2
