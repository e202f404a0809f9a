/-! The class: the mean, how much is filled, errors -/
section PPUB5
variable {G : g_X} {P E : PL} {S : Nat → PL} {b : Int} {P2 E2 : PL} {S2 : Nat → PL} {F L1 L2 H1 H2 : PL} {QL : PL} {QT : List Int} {qa : Int} {CA CB : PL} {o : Nat} {h0 h : g_hp}
set_option maxRecDepth 20000 in
theorem mf_loop (X : hsX G P E S b P2 E2 S2 F L1 L2 H1 H2 QL QT qa CA CB o h0 h) (hn : vf_n64 (mfD L1)) (hl : 0 < L1.length) : ∀ (n i : Nat), i + n = L1.length → Ev (g_B G mX7_meanFar 1 6 (zK G (rsD [xIAE] (0, mfD L1)) P E S b P2 E2 S2 F o h0)) 0 0 none h 28 [(4, .int (iN (i : Nat))), (3, .int (iN (mfN L1 (i)))), (0, .ref o), (2, .int (iN L1.length))] [] := by
  have h9 := X.od.1
  have hb0 := X.od.2.2.1.at hl
  intro n
  induction n with
  | zero =>
    intro i hin
    have e9 : i = L1.length := by omega
    rw [e9]
    refine e_iload dX7_meanFar_28 rfl ?_
    refine e_iload_n dX7_meanFar_30 rfl ?_
    refine e_icmp_ge (tgt := 86) ⟨by omega, by omega⟩ ⟨by omega, by omega⟩ dX7_meanFar_31 rfl (fun c_31 => ?_) (fun c_31 => absurd (by omega) c_31)
    refine e_iload_n dX7_meanFar_86 rfl ?_
    refine e_i2d dX7_meanFar_87 ?_
    refine e_iload_n dX7_meanFar_88 rfl ?_
    refine e_i2d dX7_meanFar_89 ?_
    refine e_ddiv hn dX7_meanFar_90 ?_
    refine e_dret rfl dX7_meanFar_91 (by decide) (by decide) ?_
    exact ⟨rfl, rfl, _, _, _, _, _, _, _, _, _, X⟩
  | succ n ih =>
    intro i hin
    have hi : i < L1.length := by omega
    have hb := X.od.2.2.1.at hi
    refine e_iload dX7_meanFar_28 rfl ?_
    refine e_iload_n dX7_meanFar_30 rfl ?_
    refine e_icmp_ge (tgt := 86) ⟨by omega, by omega⟩ ⟨by omega, by omega⟩ dX7_meanFar_31 rfl (fun c_31 => absurd c_31 (by omega)) (fun c_31 => ?_)
    refine e_iload_n dX7_meanFar_34 rfl ?_
    refine e_aload_n dX7_meanFar_35 rfl ?_
    refine e_getf fX7_32 X.obj rfl dX7_meanFar_36 ?_
    refine e_iload dX7_meanFar_39 rfl ?_
    refine e_pureV qcX7_96 X.od.obj rfl rfl (S_xAt X.od hi) rfl rfl rfl rfl dX7_meanFar_41 ?_
    refine e_aload_n dX7_meanFar_44 rfl ?_
    refine e_getf fX7_32 X.obj rfl dX7_meanFar_45 ?_
    refine e_iconst dX7_meanFar_48 ?_
    refine e_pureV qcX7_96 X.od.obj rfl rfl (S_xAt X.od (i := 0) hl) rfl rfl rfl rfl dX7_meanFar_49 ?_
    refine e_isub dX7_meanFar_52 ?_
    refine e_mabs ⟨by omega, by omega⟩ qcX7_276 rfl dX7_meanFar_53 ?_
    refine e_aload_n dX7_meanFar_56 rfl ?_
    refine e_getf fX7_32 X.obj rfl dX7_meanFar_57 ?_
    refine e_iload dX7_meanFar_60 rfl ?_
    refine e_pureV qcX7_99 X.od.obj rfl rfl (S_yAt X.od hi) rfl rfl rfl rfl dX7_meanFar_62 ?_
    refine e_aload_n dX7_meanFar_65 rfl ?_
    refine e_getf fX7_32 X.obj rfl dX7_meanFar_66 ?_
    refine e_iconst dX7_meanFar_69 ?_
    refine e_pureV qcX7_99 X.od.obj rfl rfl (S_yAt X.od (i := 0) hl) rfl rfl rfl rfl dX7_meanFar_70 ?_
    refine e_isub dX7_meanFar_73 ?_
    refine e_mabs ⟨by omega, by omega⟩ qcX7_276 rfl dX7_meanFar_74 ?_
    refine e_iadd dX7_meanFar_77 ?_
    refine e_iadd dX7_meanFar_78 ?_
    refine e_istore_n dX7_meanFar_79 rfl ?_
    refine e_iinc dX7_meanFar_80 rfl ?_
    refine e_goto (tgt := 28) dX7_meanFar_83 rfl ?_
    exact e_loc [(4, .int (iN (i + 1 : Nat))), (3, .int (iN (mfN L1 (i + 1)))), (0, .ref o), (2, .int (iN L1.length))] ⟨rfl, rfl, rfl, rfl, trivial⟩ (ih (i + 1) (by omega))
set_option maxRecDepth 20000 in
theorem C_meanFar (X : hsX G P E S b P2 E2 S2 F L1 L2 H1 H2 QL QT qa CA CB o h0 h) {a : Int} (ra : r32 a) (hn : 0 < (putN P a [] P.length).length → vf_n64 (mfD (putN P a [] P.length))) : Run G mX7_meanFar [.ref o, .int (iN a)] none h 1 6 (zK G (rsD [xIAE] (k_meanFar P a)) P E S b P2 E2 S2 F o h0) := by
  refine run_of rfl plX7 rfl ?_
  refine e_iload_n dX7_meanFar_0 rfl ?_
  refine if c_1 : hpOK a then ?_ else e_throwsS qcX7_58 (T_requireHeap ra c_1) rfl rfl rfl rfl dX7_meanFar_1 rfl ⟨rfl, zkD (show (k_meanFar P a) = (1, 0) from (if_neg c_1)) rfl, _, _, _, _, _, _, _, _, _, X⟩
  refine e_doesS qcX7_58 (S_requireHeap ra c_1) rfl rfl rfl rfl dX7_meanFar_1 ?_
  intro v h9 q9
  obtain ⟨rfl, rfl⟩ := q9
  refine e_aload_n dX7_meanFar_4 rfl ?_
  refine e_iload_n dX7_meanFar_5 rfl ?_
  refine e_doesV qcX7_107 X.obj rfl rfl (S_orderHeap X ra) rfl rfl rfl rfl dX7_meanFar_6 ?_
  intro v h9 q9
  obtain ⟨rfl, X⟩ := q9
  have e9 := ord_len P a
  have e8 := cntN_le P a P.length
  have e7 := X.yd.pts.1
  refine e_aload_n dX7_meanFar_9 rfl ?_
  refine e_getf fX7_32 X.obj rfl dX7_meanFar_10 ?_
  refine e_pureV qcX7_68 X.od.obj rfl rfl (S_size X.od) rfl rfl rfl rfl dX7_meanFar_13 ?_
  refine e_istore_n dX7_meanFar_16 rfl ?_
  refine e_iload_n dX7_meanFar_17 rfl ?_
  refine e_if_ne (tgt := 23) ⟨by omega, by omega⟩ dX7_meanFar_18 rfl (fun c_18 => ?_) (fun c_18 => ?_)
  · refine e_iconst dX7_meanFar_23 ?_
    refine e_istore_n dX7_meanFar_24 rfl ?_
    refine e_iconst dX7_meanFar_25 ?_
    refine e_istore dX7_meanFar_26 rfl ?_
    rw [show (k_meanFar P a) = (0, mfD (putN P a [] P.length)) from (if_pos c_1).trans (if_neg (by omega))]
    exact e_loc [(4, .int (iN (0 : Nat))), (3, .int (iN (mfN (putN P a [] P.length) 0))), (0, .ref o), (2, .int (iN (putN P a [] P.length).length))] ⟨rfl, rfl, rfl, rfl, trivial⟩ (mf_loop X (hn (by omega)) (by omega) _ 0 (Nat.zero_add _))
  · refine e_dconst0 dX7_meanFar_21 ?_
    refine e_dret rfl dX7_meanFar_22 (by decide) (by decide) ?_
    exact ⟨rfl, zkD (show (k_meanFar P a) = (0, FP.dconst0) from ((if_pos c_1).trans (if_pos (by omega)))) rfl, _, _, _, _, _, _, _, _, _, X⟩
set_option maxRecDepth 20000 in
theorem C_fills (X : hsX G P E S b P2 E2 S2 F L1 L2 H1 H2 QL QT qa CA CB o h0 h) (hn : ¬ bxF F ≤ 0 → vf_n32 (FP.fdiv (FP.i2f (iN (da F))) (FP.i2f (iN (bxF F))))) : Run G mX7_fills [.ref o] none h 1 6 (zK G (rsF [] (0, k_fills F)) P E S b P2 E2 S2 F o h0) := by
  have q0 := bnd_bd X.fg.2.2.1 0 F.length (Nat.le_refl _)
  have q1 := bnd_bd X.fg.2.2.1 1 F.length (Nat.le_refl _)
  have q2 := bnd_bd X.fg.2.2.1 2 F.length (Nat.le_refl _)
  have q3 := bnd_bd X.fg.2.2.1 3 F.length (Nat.le_refl _)
  have qb := mul_bd (A := 8000) (B := 4000) (a := 2 * (bnd F 1 F.length - bnd F 0 F.length)) (b := bnd F 3 F.length - bnd F 2 F.length) ⟨by omega, by omega⟩ ⟨by omega, by omega⟩
  refine run_of rfl plX7 rfl ?_
  refine e_aload_n dX7_fills_0 rfl ?_
  refine e_getf fX7_28 X.obj rfl dX7_fills_1 ?_
  refine e_iconst dX7_fills_4 ?_
  refine e_pureS qcX7_256 (S_bound X.fg (w := 1) (by decide)) rfl rfl rfl rfl dX7_fills_5 ?_
  refine e_aload_n dX7_fills_8 rfl ?_
  refine e_getf fX7_28 X.obj rfl dX7_fills_9 ?_
  refine e_iconst dX7_fills_12 ?_
  refine e_pureS qcX7_256 (S_bound X.fg (w := 0) (by decide)) rfl rfl rfl rfl dX7_fills_13 ?_
  refine e_isub dX7_fills_16 ?_
  refine e_istore_n dX7_fills_17 rfl ?_
  refine e_aload_n dX7_fills_18 rfl ?_
  refine e_getf fX7_28 X.obj rfl dX7_fills_19 ?_
  refine e_iconst dX7_fills_22 ?_
  refine e_pureS qcX7_256 (S_bound X.fg (w := 3) (by decide)) rfl rfl rfl rfl dX7_fills_23 ?_
  refine e_aload_n dX7_fills_26 rfl ?_
  refine e_getf fX7_28 X.obj rfl dX7_fills_27 ?_
  refine e_iconst dX7_fills_30 ?_
  refine e_pureS qcX7_256 (S_bound X.fg (w := 2) (by decide)) rfl rfl rfl rfl dX7_fills_31 ?_
  refine e_isub dX7_fills_34 ?_
  refine e_istore_n dX7_fills_35 rfl ?_
  refine e_iconst dX7_fills_36 ?_
  refine e_iload_n dX7_fills_37 rfl ?_
  refine e_imul dX7_fills_38 ?_
  refine e_iload_n dX7_fills_39 rfl ?_
  refine e_imul dX7_fills_40 ?_
  refine e_istore_n dX7_fills_41 rfl ?_
  refine e_iload_n dX7_fills_42 rfl ?_
  refine e_if_gt (tgt := 48) (show r32 (bxF F) from ⟨by show _ ≤ 2 * _ * _; omega, by show 2 * _ * _ < _; omega⟩) dX7_fills_43 rfl (fun c_43 => ?_) (fun c_43 => ?_)
  · refine e_aload_n dX7_fills_48 rfl ?_
    refine e_getf fX7_28 X.obj rfl dX7_fills_49 ?_
    refine e_pureS qcX7_178 (S_doubledArea X.fg) rfl rfl rfl rfl dX7_fills_52 ?_
    refine e_i2f dX7_fills_55 ?_
    refine e_iload_n dX7_fills_56 rfl ?_
    refine e_i2f dX7_fills_57 ?_
    refine e_fdiv (hn (Int.not_le.mpr c_43)) dX7_fills_58 ?_
    refine e_fret rfl dX7_fills_59 (by decide) (by decide) ?_
    exact ⟨rfl, zkF (show ((0 : Nat), k_fills F) = (0, FP.fdiv (FP.i2f (iN (da F))) (FP.i2f (iN (bxF F)))) from congrArg (fun v => ((0 : Nat), v)) (if_neg (Int.not_le.mpr c_43))) rfl, _, _, _, _, _, _, _, _, _, X⟩
  · refine e_fconst0 dX7_fills_46 ?_
    refine e_fret rfl dX7_fills_47 (by decide) (by decide) ?_
    exact ⟨rfl, zkF (show ((0 : Nat), k_fills F) = (0, FP.fconst0) from congrArg (fun v => ((0 : Nat), v)) (if_pos (Int.not_lt.mp c_43))) rfl, _, _, _, _, _, _, _, _, _, X⟩
set_option maxRecDepth 20000 in
theorem er_two (nf : ∀ j, j < 4 → closes (S j) → okS (S j) ∧ noFault (S j)) : ∀ (n i : Nat) (h : g_hp), (∃ L1 L2 H1 H2 QL QT qa CA CB, hsX G P E S b P2 E2 S2 F L1 L2 H1 H2 QL QT qa CA CB o h0 h) → i + n = 4 → Ev (g_B G mX7_errors 1 6 (zK G (rsI [] (0, 0)) P E S b P2 E2 S2 F o h0)) 0 0 none h 28 [(2, .int (iN (i : Nat))), (1, .int (iN 0)), (0, .ref o)] [] := by
  intro n
  induction n with
  | zero =>
    intro i h X hin
    obtain ⟨L1, L2, H1, H2, QL, QT, qa, CA, CB, X⟩ := X
    refine e_iload_n dX7_errors_28 rfl ?_
    refine e_iconst dX7_errors_29 ?_
    refine e_icmp_ge (tgt := 63) ⟨by omega, by omega⟩ ⟨by omega, by omega⟩ dX7_errors_30 rfl (fun c_30 => ?_) (fun c_30 => absurd (by omega) c_30)
    refine e_iload_n dX7_errors_63 rfl ?_
    refine e_iret rfl dX7_errors_64 (by decide) (by decide) ?_
    exact ⟨rfl, rfl, _, _, _, _, _, _, _, _, _, X⟩
  | succ n ih =>
    intro i h X hin
    obtain ⟨L1, L2, H1, H2, QL, QT, qa, CA, CB, X⟩ := X
    have hi : i < 4 := by omega
    letI : Decidable (closes (S i)) := Classical.propDecidable _
    refine e_iload_n dX7_errors_28 rfl ?_
    refine e_iconst dX7_errors_29 ?_
    refine e_icmp_ge (tgt := 63) ⟨by omega, by omega⟩ ⟨by omega, by omega⟩ dX7_errors_30 rfl (fun c_30 => absurd c_30 (by omega)) (fun c_30 => ?_)
    refine e_aload_n dX7_errors_33 rfl ?_
    refine e_getf fX7_12 X.obj rfl dX7_errors_34 ?_
    refine e_iload_n dX7_errors_37 rfl ?_
    refine e_pureV qcX7_283 X.yd.obj rfl rfl (S_polygonAt X.yd hi) rfl rfl rfl rfl dX7_errors_38 ?_
    refine e_astore_n dX7_errors_41 rfl ?_
    refine e_aload_n dX7_errors_42 rfl ?_
    refine e_pureS qcX7_206 (S_closesSimply (X.pol hi)) rfl rfl rfl rfl dX7_errors_43 ?_
    refine e_ifP_eq (tgt := 57) dX7_errors_46 rfl (fun c_46 => ?_) (fun c_46 => ?_)
    · refine e_iinc dX7_errors_57 rfl ?_
      refine e_goto (tgt := 28) dX7_errors_60 rfl ?_
      exact e_loc [(2, .int (iN (i + 1 : Nat))), (1, .int (iN 0)), (0, .ref o)] ⟨rfl, rfl, rfl, trivial⟩ (ih (i + 1) _ ⟨_, _, _, _, _, _, _, _, _, X⟩ (by omega))
    · refine e_iload_n dX7_errors_49 rfl ?_
      refine e_aload_n dX7_errors_50 rfl ?_
      refine e_aload_n dX7_errors_51 rfl ?_
      refine e_doesV qcX7_286 X.obj rfl rfl (S_faultsOf X hi (nf i hi c_46).1 (nf i hi c_46).2) rfl rfl rfl rfl dX7_errors_52 ?_
      intro v h9 q9
      obtain ⟨rfl, QL, QT, qa, CA, CB, X⟩ := q9
      refine e_iadd dX7_errors_55 ?_
      refine e_istore_n dX7_errors_56 rfl ?_
      refine e_iinc dX7_errors_57 rfl ?_
      refine e_goto (tgt := 28) dX7_errors_60 rfl ?_
      exact e_loc [(2, .int (iN (i + 1 : Nat))), (1, .int (iN 0)), (0, .ref o)] ⟨rfl, rfl, rfl, trivial⟩ (ih (i + 1) _ ⟨_, _, _, _, _, _, _, _, _, X⟩ (by omega))
set_option maxRecDepth 20000 in
theorem er_one (ns : ∀ v : Nat, v < 3 → noStray (putN P v [] P.length)) (nf : ∀ j, j < 4 → closes (S j) → okS (S j) ∧ noFault (S j)) : ∀ (n i : Nat) (h : g_hp), (∃ L1 L2 H1 H2 QL QT qa CA CB, hsX G P E S b P2 E2 S2 F L1 L2 H1 H2 QL QT qa CA CB o h0 h) → i + n = 3 → Ev (g_B G mX7_errors 1 6 (zK G (rsI [] (0, 0)) P E S b P2 E2 S2 F o h0)) 0 0 none h 4 [(2, .int (iN (i : Nat))), (1, .int (iN 0)), (0, .ref o)] [] := by
  intro n
  induction n with
  | zero =>
    intro i h X hin
    obtain ⟨L1, L2, H1, H2, QL, QT, qa, CA, CB, X⟩ := X
    refine e_iload_n dX7_errors_4 rfl ?_
    refine e_iconst dX7_errors_5 ?_
    refine e_icmp_ge (tgt := 26) ⟨by omega, by omega⟩ ⟨by omega, by omega⟩ dX7_errors_6 rfl (fun c_6 => ?_) (fun c_6 => absurd (by omega) c_6)
    refine e_iconst dX7_errors_26 ?_
    refine e_istore_n dX7_errors_27 rfl ?_
    exact e_loc [(2, .int (iN (0 : Nat))), (1, .int (iN 0)), (0, .ref o)] ⟨rfl, rfl, rfl, trivial⟩ (er_two nf 4 0 _ ⟨_, _, _, _, _, _, _, _, _, X⟩ rfl)
  | succ n ih =>
    intro i h X hin
    obtain ⟨L1, L2, H1, H2, QL, QT, qa, CA, CB, X⟩ := X
    have hi : i < 3 := by omega
    refine e_iload_n dX7_errors_4 rfl ?_
    refine e_iconst dX7_errors_5 ?_
    refine e_icmp_ge (tgt := 26) ⟨by omega, by omega⟩ ⟨by omega, by omega⟩ dX7_errors_6 rfl (fun c_6 => absurd c_6 (by omega)) (fun c_6 => ?_)
    refine e_aload_n dX7_errors_9 rfl ?_
    refine e_iload_n dX7_errors_10 rfl ?_
    refine e_doesV qcX7_279 X.obj rfl rfl (S_hasStray X (show r32 (i : Int) from ⟨by omega, by omega⟩) (ns i hi)) rfl rfl rfl rfl dX7_errors_11 ?_
    intro v h9 q9
    obtain ⟨rfl, X⟩ := q9
    refine e_if_eq (tgt := 20) ⟨by decide, by decide⟩ dX7_errors_14 rfl (fun c_14 => ?_) (fun c_14 => absurd rfl c_14)
    refine e_iinc dX7_errors_20 rfl ?_
    refine e_goto (tgt := 4) dX7_errors_23 rfl ?_
    exact e_loc [(2, .int (iN (i + 1 : Nat))), (1, .int (iN 0)), (0, .ref o)] ⟨rfl, rfl, rfl, trivial⟩ (ih (i + 1) _ ⟨_, _, _, _, _, _, _, _, _, X⟩ (by omega))
set_option maxRecDepth 20000 in
theorem C_errors (X : hsX G P E S b P2 E2 S2 F L1 L2 H1 H2 QL QT qa CA CB o h0 h) (ns : ∀ v : Nat, v < 3 → noStray (putN P v [] P.length)) (nf : ∀ j, j < 4 → closes (S j) → okS (S j) ∧ noFault (S j)) : Run G mX7_errors [.ref o] none h 1 6 (zK G (rsI [] (0, 0)) P E S b P2 E2 S2 F o h0) := by
  refine run_of rfl plX7 rfl ?_
  refine e_iconst dX7_errors_0 ?_
  refine e_istore_n dX7_errors_1 rfl ?_
  refine e_iconst dX7_errors_2 ?_
  refine e_istore_n dX7_errors_3 rfl ?_
  exact e_loc [(2, .int (iN (0 : Nat))), (1, .int (iN 0)), (0, .ref o)] ⟨rfl, rfl, rfl, trivial⟩ (er_one ns nf 3 0 _ ⟨_, _, _, _, _, _, _, _, _, X⟩ rfl)
end PPUB5
