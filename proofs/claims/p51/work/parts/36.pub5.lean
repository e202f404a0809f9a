/-! The class: the mean, how much is filled, errors -/
section PPUB5
variable {G : g_X} {P E : PL} {S : Nat → PL} {b : Int} {P2 E2 : PL} {S2 : Nat → PL} {F L1 L2 H1 H2 : PL} {QL : PL} {QT : List Int} {qa : Int} {CA CB : PL} {o : Nat} {h0 h : g_hp}
set_option maxRecDepth 20000 in
theorem C_fills (X : hsX G P E S b P2 E2 S2 F L1 L2 H1 H2 QL QT qa CA CB o h0 h) (hn : ¬ bxF F ≤ 0 → vf_n32 (FP.fdiv (FP.i2f (iN (da F))) (FP.i2f (iN (bxF F))))) : Run G mX7_fills [.ref o] none h 1 6 (zK G (rsF [] (0, k_fills F)) P E S b P2 E2 S2 F o h0) := by
  have q0 := bnd_bd X.fg.2.2.1 0 F.length (Nat.le_refl _)
  have q1 := bnd_bd X.fg.2.2.1 1 F.length (Nat.le_refl _)
  have q2 := bnd_bd X.fg.2.2.1 2 F.length (Nat.le_refl _)
  have q3 := bnd_bd X.fg.2.2.1 3 F.length (Nat.le_refl _)
  have qb := mul_bd (A := 8000) (B := 4000) (a := 2 * (bnd F 1 F.length - bnd F 0 F.length)) (b := bnd F 3 F.length - bnd F 2 F.length) ⟨by omega, by omega⟩ ⟨by omega, by omega⟩
  refine run_of rfl plX7 rfl ?_
  refine e_aload_n dX7_fills_0 rfl ?_
  refine e_getf fX7_28 X.obj rfl dX7_fills_1 ?_
  refine e_iconst dX7_fills_4 ?_
  refine e_pureS qcX7_256 (S_bound X.fg (w := 1) (by decide)) rfl rfl rfl rfl dX7_fills_5 ?_
  refine e_aload_n dX7_fills_8 rfl ?_
  refine e_getf fX7_28 X.obj rfl dX7_fills_9 ?_
  refine e_iconst dX7_fills_12 ?_
  refine e_pureS qcX7_256 (S_bound X.fg (w := 0) (by decide)) rfl rfl rfl rfl dX7_fills_13 ?_
  refine e_isub dX7_fills_16 ?_
  refine e_istore_n dX7_fills_17 rfl ?_
  refine e_aload_n dX7_fills_18 rfl ?_
  refine e_getf fX7_28 X.obj rfl dX7_fills_19 ?_
  refine e_iconst dX7_fills_22 ?_
  refine e_pureS qcX7_256 (S_bound X.fg (w := 3) (by decide)) rfl rfl rfl rfl dX7_fills_23 ?_
  refine e_aload_n dX7_fills_26 rfl ?_
  refine e_getf fX7_28 X.obj rfl dX7_fills_27 ?_
  refine e_iconst dX7_fills_30 ?_
  refine e_pureS qcX7_256 (S_bound X.fg (w := 2) (by decide)) rfl rfl rfl rfl dX7_fills_31 ?_
  refine e_isub dX7_fills_34 ?_
  refine e_istore_n dX7_fills_35 rfl ?_
  refine e_iconst dX7_fills_36 ?_
  refine e_iload_n dX7_fills_37 rfl ?_
  refine e_imul dX7_fills_38 ?_
  refine e_iload_n dX7_fills_39 rfl ?_
  refine e_imul dX7_fills_40 ?_
  refine e_istore_n dX7_fills_41 rfl ?_
  refine e_iload_n dX7_fills_42 rfl ?_
  refine e_if_gt (tgt := 48) (show r32 (bxF F) from ⟨by show _ ≤ 2 * _ * _; omega, by show 2 * _ * _ < _; omega⟩) dX7_fills_43 rfl (fun c_43 => ?_) (fun c_43 => ?_)
  · refine e_aload_n dX7_fills_48 rfl ?_
    refine e_getf fX7_28 X.obj rfl dX7_fills_49 ?_
    refine e_pureS qcX7_178 (S_doubledArea X.fg) rfl rfl rfl rfl dX7_fills_52 ?_
    refine e_i2f dX7_fills_55 ?_
    refine e_iload_n dX7_fills_56 rfl ?_
    refine e_i2f dX7_fills_57 ?_
    refine e_fdiv (hn (Int.not_le.mpr c_43)) dX7_fills_58 ?_
    refine e_fret rfl dX7_fills_59 (by decide) (by decide) ?_
    exact ⟨rfl, zkF (show ((0 : Nat), k_fills F) = (0, FP.fdiv (FP.i2f (iN (da F))) (FP.i2f (iN (bxF F)))) from congrArg (fun v => ((0 : Nat), v)) (if_neg (Int.not_le.mpr c_43))) rfl, _, _, _, _, _, _, _, _, _, X⟩
  · refine e_fconst0 dX7_fills_46 ?_
    refine e_fret rfl dX7_fills_47 (by decide) (by decide) ?_
    exact ⟨rfl, zkF (show ((0 : Nat), k_fills F) = (0, FP.fconst0) from congrArg (fun v => ((0 : Nat), v)) (if_pos (Int.not_lt.mp c_43))) rfl, _, _, _, _, _, _, _, _, _, X⟩
set_option maxRecDepth 20000 in
theorem er_two (nf : ∀ j, j < 4 → closes (S j) → okS (S j) ∧ noFault (S j)) : ∀ (n i : Nat) (h : g_hp), (∃ L1 L2 H1 H2 QL QT qa CA CB, hsX G P E S b P2 E2 S2 F L1 L2 H1 H2 QL QT qa CA CB o h0 h) → i + n = 4 → Ev (g_B G mX7_errors 1 6 (zK G (rsI [] (0, 0)) P E S b P2 E2 S2 F o h0)) 0 0 none h 28 [(2, .int (iN (i : Nat))), (1, .int (iN 0)), (0, .ref o)] [] := by
  intro n
  induction n with
  | zero =>
    intro i h X hin
    obtain ⟨L1, L2, H1, H2, QL, QT, qa, CA, CB, X⟩ := X
    refine e_iload_n dX7_errors_28 rfl ?_
    refine e_iconst dX7_errors_29 ?_
    refine e_icmp_ge (tgt := 63) ⟨by omega, by omega⟩ ⟨by omega, by omega⟩ dX7_errors_30 rfl (fun c_30 => ?_) (fun c_30 => absurd (by omega) c_30)
    refine e_iload_n dX7_errors_63 rfl ?_
    refine e_iret rfl dX7_errors_64 (by decide) (by decide) ?_
    exact ⟨rfl, rfl, _, _, _, _, _, _, _, _, _, X⟩
  | succ n ih =>
    intro i h X hin
    obtain ⟨L1, L2, H1, H2, QL, QT, qa, CA, CB, X⟩ := X
    have hi : i < 4 := by omega
    letI : Decidable (closes (S i)) := Classical.propDecidable _
    refine e_iload_n dX7_errors_28 rfl ?_
    refine e_iconst dX7_errors_29 ?_
    refine e_icmp_ge (tgt := 63) ⟨by omega, by omega⟩ ⟨by omega, by omega⟩ dX7_errors_30 rfl (fun c_30 => absurd c_30 (by omega)) (fun c_30 => ?_)
    refine e_aload_n dX7_errors_33 rfl ?_
    refine e_getf fX7_12 X.obj rfl dX7_errors_34 ?_
    refine e_iload_n dX7_errors_37 rfl ?_
    refine e_pureV qcX7_283 X.yd.obj rfl rfl (S_polygonAt X.yd hi) rfl rfl rfl rfl dX7_errors_38 ?_
    refine e_astore_n dX7_errors_41 rfl ?_
    refine e_aload_n dX7_errors_42 rfl ?_
    refine e_pureS qcX7_206 (S_closesSimply (X.pol hi)) rfl rfl rfl rfl dX7_errors_43 ?_
    refine e_ifP_eq (tgt := 57) dX7_errors_46 rfl (fun c_46 => ?_) (fun c_46 => ?_)
    · refine e_iinc dX7_errors_57 rfl ?_
      refine e_goto (tgt := 28) dX7_errors_60 rfl ?_
      exact e_loc [(2, .int (iN (i + 1 : Nat))), (1, .int (iN 0)), (0, .ref o)] ⟨rfl, rfl, rfl, trivial⟩ (ih (i + 1) _ ⟨_, _, _, _, _, _, _, _, _, X⟩ (by omega))
    · refine e_iload_n dX7_errors_49 rfl ?_
      refine e_aload_n dX7_errors_50 rfl ?_
      refine e_aload_n dX7_errors_51 rfl ?_
      refine e_doesV qcX7_286 X.obj rfl rfl (S_faultsOf X hi (nf i hi c_46).1 (nf i hi c_46).2) rfl rfl rfl rfl dX7_errors_52 ?_
      intro v h9 q9
      obtain ⟨rfl, QL, QT, qa, CA, CB, X⟩ := q9
      refine e_iadd dX7_errors_55 ?_
      refine e_istore_n dX7_errors_56 rfl ?_
      refine e_iinc dX7_errors_57 rfl ?_
      refine e_goto (tgt := 28) dX7_errors_60 rfl ?_
      exact e_loc [(2, .int (iN (i + 1 : Nat))), (1, .int (iN 0)), (0, .ref o)] ⟨rfl, rfl, rfl, trivial⟩ (ih (i + 1) _ ⟨_, _, _, _, _, _, _, _, _, X⟩ (by omega))
set_option maxRecDepth 20000 in
theorem er_one (ns : ∀ v : Nat, v < 3 → noStray (putN P v [] P.length)) (nf : ∀ j, j < 4 → closes (S j) → okS (S j) ∧ noFault (S j)) : ∀ (n i : Nat) (h : g_hp), (∃ L1 L2 H1 H2 QL QT qa CA CB, hsX G P E S b P2 E2 S2 F L1 L2 H1 H2 QL QT qa CA CB o h0 h) → i + n = 3 → Ev (g_B G mX7_errors 1 6 (zK G (rsI [] (0, 0)) P E S b P2 E2 S2 F o h0)) 0 0 none h 4 [(2, .int (iN (i : Nat))), (1, .int (iN 0)), (0, .ref o)] [] := by
  intro n
  induction n with
  | zero =>
    intro i h X hin
    obtain ⟨L1, L2, H1, H2, QL, QT, qa, CA, CB, X⟩ := X
    refine e_iload_n dX7_errors_4 rfl ?_
    refine e_iconst dX7_errors_5 ?_
    refine e_icmp_ge (tgt := 26) ⟨by omega, by omega⟩ ⟨by omega, by omega⟩ dX7_errors_6 rfl (fun c_6 => ?_) (fun c_6 => absurd (by omega) c_6)
    refine e_iconst dX7_errors_26 ?_
    refine e_istore_n dX7_errors_27 rfl ?_
    exact e_loc [(2, .int (iN (0 : Nat))), (1, .int (iN 0)), (0, .ref o)] ⟨rfl, rfl, rfl, trivial⟩ (er_two nf 4 0 _ ⟨_, _, _, _, _, _, _, _, _, X⟩ rfl)
  | succ n ih =>
    intro i h X hin
    obtain ⟨L1, L2, H1, H2, QL, QT, qa, CA, CB, X⟩ := X
    have hi : i < 3 := by omega
    refine e_iload_n dX7_errors_4 rfl ?_
    refine e_iconst dX7_errors_5 ?_
    refine e_icmp_ge (tgt := 26) ⟨by omega, by omega⟩ ⟨by omega, by omega⟩ dX7_errors_6 rfl (fun c_6 => absurd c_6 (by omega)) (fun c_6 => ?_)
    refine e_aload_n dX7_errors_9 rfl ?_
    refine e_iload_n dX7_errors_10 rfl ?_
    refine e_doesV qcX7_279 X.obj rfl rfl (S_hasStray X (show r32 (i : Int) from ⟨by omega, by omega⟩) (ns i hi)) rfl rfl rfl rfl dX7_errors_11 ?_
    intro v h9 q9
    obtain ⟨rfl, X⟩ := q9
    refine e_if_eq (tgt := 20) ⟨by decide, by decide⟩ dX7_errors_14 rfl (fun c_14 => ?_) (fun c_14 => absurd rfl c_14)
    refine e_iinc dX7_errors_20 rfl ?_
    refine e_goto (tgt := 4) dX7_errors_23 rfl ?_
    exact e_loc [(2, .int (iN (i + 1 : Nat))), (1, .int (iN 0)), (0, .ref o)] ⟨rfl, rfl, rfl, trivial⟩ (ih (i + 1) _ ⟨_, _, _, _, _, _, _, _, _, X⟩ (by omega))
set_option maxRecDepth 20000 in
theorem C_errors (X : hsX G P E S b P2 E2 S2 F L1 L2 H1 H2 QL QT qa CA CB o h0 h) (ns : ∀ v : Nat, v < 3 → noStray (putN P v [] P.length)) (nf : ∀ j, j < 4 → closes (S j) → okS (S j) ∧ noFault (S j)) : Run G mX7_errors [.ref o] none h 1 6 (zK G (rsI [] (0, 0)) P E S b P2 E2 S2 F o h0) := by
  refine run_of rfl plX7 rfl ?_
  refine e_iconst dX7_errors_0 ?_
  refine e_istore_n dX7_errors_1 rfl ?_
  refine e_iconst dX7_errors_2 ?_
  refine e_istore_n dX7_errors_3 rfl ?_
  exact e_loc [(2, .int (iN (0 : Nat))), (1, .int (iN 0)), (0, .ref o)] ⟨rfl, rfl, rfl, trivial⟩ (er_one ns nf 3 0 _ ⟨_, _, _, _, _, _, _, _, _, X⟩ rfl)
end PPUB5
