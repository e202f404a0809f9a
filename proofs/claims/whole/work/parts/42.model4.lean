/-! The reference: orders, lines, sides of a hull -/
section MFOUR
variable {G : g_X} {sc : Nat → Int} {ar : Nat → Nat → Int} {m : Nat} {h0 h : g_hp}
def ahd (P : PL) (p o : Nat) : Prop := pX P p < pX P o ∨ (pX P p = pX P o ∧ (pY P p < pY P o ∨ (pY P p = pY P o ∧ p < o)))
theorem ahd_x {P : PL} {p o : Nat} (n : ¬ pX P p = pX P o) : ahd P p o ↔ pX P p < pX P o := ⟨fun w => w.elim id (fun w => absurd w.1 n), Or.inl⟩
theorem ahd_y {P : PL} {p o : Nat} (e : pX P p = pX P o) (n : ¬ pY P p = pY P o) : ahd P p o ↔ pY P p < pY P o := ⟨fun w => w.elim (fun w => absurd w (by omega)) (fun w => w.2.elim id (fun w => absurd w.1 n)), fun w => Or.inr ⟨e, Or.inl w⟩⟩
theorem ahd_p {P : PL} {p o : Nat} (e : pX P p = pX P o) (e2 : pY P p = pY P o) : ahd P p o ↔ p < o := ⟨fun w => w.elim (fun w => absurd w (by omega)) (fun w => w.2.elim (fun w => absurd w (by omega)) (fun w => w.2)), fun w => Or.inr ⟨e, Or.inr ⟨e2, w⟩⟩⟩
set_option maxRecDepth 20000 in
theorem S_isAhead {P : PL} (X : mdX G sc ar m h0 h) (hP : mdP sc ar P) {i j : Nat} (hi : i < P.length) (hj : j < P.length) : Pure G mX8_isAhead [.ref m, .int (iN i), .int (iN j)] h (.int (iN (bC (ahd P i j)))) := by
  obtain ⟨e1, e2, e3, e4⟩ := hP
  have b1 := e3.at hi
  have b2 := e3.at hj
  intro z
  refine run_of rfl plX8 rfl ?_
  refine e_aload_n dX8_isAhead_0 rfl ?_
  refine e_getf fX8_17 X.obj rfl dX8_isAhead_1 ?_
  refine e_iload_n dX8_isAhead_4 rfl ?_
  refine e_ial X.a1 (by omega) (by omega) rfl (e4 i hi).2.1 dX8_isAhead_5 ?_
  refine e_aload_n dX8_isAhead_6 rfl ?_
  refine e_getf fX8_17 X.obj rfl dX8_isAhead_7 ?_
  refine e_iload_n dX8_isAhead_10 rfl ?_
  refine e_ial X.a1 (by omega) (by omega) rfl (e4 j hj).2.1 dX8_isAhead_11 ?_
  refine e_icmp_eq (tgt := 38) ⟨by omega, by omega⟩ ⟨by omega, by omega⟩ dX8_isAhead_12 rfl (fun c_12 => ?_) (fun c_12 => ?_)
  · refine e_aload_n dX8_isAhead_38 rfl ?_
    refine e_getf fX8_20 X.obj rfl dX8_isAhead_39 ?_
    refine e_iload_n dX8_isAhead_42 rfl ?_
    refine e_ial X.a2 (by omega) (by omega) rfl (e4 i hi).2.2 dX8_isAhead_43 ?_
    refine e_aload_n dX8_isAhead_44 rfl ?_
    refine e_getf fX8_20 X.obj rfl dX8_isAhead_45 ?_
    refine e_iload_n dX8_isAhead_48 rfl ?_
    refine e_ial X.a2 (by omega) (by omega) rfl (e4 j hj).2.2 dX8_isAhead_49 ?_
    refine e_icmp_eq (tgt := 76) ⟨by omega, by omega⟩ ⟨by omega, by omega⟩ dX8_isAhead_50 rfl (fun c_50 => ?_) (fun c_50 => ?_)
    · refine e_iload_n dX8_isAhead_76 rfl ?_
      refine e_iload_n dX8_isAhead_77 rfl ?_
      refine e_icmp_ge (tgt := 85) ⟨by omega, by omega⟩ ⟨by omega, by omega⟩ dX8_isAhead_78 rfl (fun c_78 => ?_) (fun c_78 => ?_)
      · refine e_iconst dX8_isAhead_85 ?_
        refine e_top (bC (ahd P i j)) (bC_f (fun w => absurd ((ahd_p (by omega) (by omega)).mp w) (by omega))).symm ?_
        refine e_zret rfl (@bP_01 _ (Classical.propDecidable _)) dX8_isAhead_86 (by decide) (by decide) ?_
        exact ⟨rfl, rfl, rfl⟩
      · refine e_iconst dX8_isAhead_81 ?_
        refine e_top (bC (ahd P i j)) (bC_t ((ahd_p (by omega) (by omega)).mpr (by omega))).symm ?_
        refine e_goto (tgt := 86) dX8_isAhead_82 rfl ?_
        refine e_zret rfl (@bP_01 _ (Classical.propDecidable _)) dX8_isAhead_86 (by decide) (by decide) ?_
        exact ⟨rfl, rfl, rfl⟩
    · refine e_aload_n dX8_isAhead_53 rfl ?_
      refine e_getf fX8_20 X.obj rfl dX8_isAhead_54 ?_
      refine e_iload_n dX8_isAhead_57 rfl ?_
      refine e_ial X.a2 (by omega) (by omega) rfl (e4 i hi).2.2 dX8_isAhead_58 ?_
      refine e_aload_n dX8_isAhead_59 rfl ?_
      refine e_getf fX8_20 X.obj rfl dX8_isAhead_60 ?_
      refine e_iload_n dX8_isAhead_63 rfl ?_
      refine e_ial X.a2 (by omega) (by omega) rfl (e4 j hj).2.2 dX8_isAhead_64 ?_
      refine e_icmp_ge (tgt := 72) ⟨by omega, by omega⟩ ⟨by omega, by omega⟩ dX8_isAhead_65 rfl (fun c_65 => ?_) (fun c_65 => ?_)
      · refine e_iconst dX8_isAhead_72 ?_
        refine e_top (bC (ahd P i j)) (bC_f (fun w => absurd ((ahd_y (by omega) (by omega)).mp w) (by omega))).symm ?_
        refine e_goto (tgt := 86) dX8_isAhead_73 rfl ?_
        refine e_zret rfl (@bP_01 _ (Classical.propDecidable _)) dX8_isAhead_86 (by decide) (by decide) ?_
        exact ⟨rfl, rfl, rfl⟩
      · refine e_iconst dX8_isAhead_68 ?_
        refine e_top (bC (ahd P i j)) (bC_t ((ahd_y (by omega) (by omega)).mpr (by omega))).symm ?_
        refine e_goto (tgt := 86) dX8_isAhead_69 rfl ?_
        refine e_zret rfl (@bP_01 _ (Classical.propDecidable _)) dX8_isAhead_86 (by decide) (by decide) ?_
        exact ⟨rfl, rfl, rfl⟩
  · refine e_aload_n dX8_isAhead_15 rfl ?_
    refine e_getf fX8_17 X.obj rfl dX8_isAhead_16 ?_
    refine e_iload_n dX8_isAhead_19 rfl ?_
    refine e_ial X.a1 (by omega) (by omega) rfl (e4 i hi).2.1 dX8_isAhead_20 ?_
    refine e_aload_n dX8_isAhead_21 rfl ?_
    refine e_getf fX8_17 X.obj rfl dX8_isAhead_22 ?_
    refine e_iload_n dX8_isAhead_25 rfl ?_
    refine e_ial X.a1 (by omega) (by omega) rfl (e4 j hj).2.1 dX8_isAhead_26 ?_
    refine e_icmp_ge (tgt := 34) ⟨by omega, by omega⟩ ⟨by omega, by omega⟩ dX8_isAhead_27 rfl (fun c_27 => ?_) (fun c_27 => ?_)
    · refine e_iconst dX8_isAhead_34 ?_
      refine e_top (bC (ahd P i j)) (bC_f (fun w => absurd ((ahd_x (by omega)).mp w) (by omega))).symm ?_
      refine e_goto (tgt := 86) dX8_isAhead_35 rfl ?_
      refine e_zret rfl (@bP_01 _ (Classical.propDecidable _)) dX8_isAhead_86 (by decide) (by decide) ?_
      exact ⟨rfl, rfl, rfl⟩
    · refine e_iconst dX8_isAhead_30 ?_
      refine e_top (bC (ahd P i j)) (bC_t ((ahd_x (by omega)).mpr (by omega))).symm ?_
      refine e_goto (tgt := 86) dX8_isAhead_31 rfl ?_
      refine e_zret rfl (@bP_01 _ (Classical.propDecidable _)) dX8_isAhead_86 (by decide) (by decide) ?_
      exact ⟨rfl, rfl, rfl⟩
/-- how many of the first n points of a heap are ahead of p -/
noncomputable def ahN (P : PL) (a : Int) (p : Nat) : Nat → Nat
  | 0 => 0
  | n + 1 => cif (pM P n = a ∧ ahd P n p) (ahN P a p n + 1) (ahN P a p n)
theorem ahN_le (P : PL) (a : Int) (p : Nat) : ∀ n, ahN P a p n ≤ n
  | 0 => Nat.le_refl _
  | n + 1 => by
    have := ahN_le P a p n
    unfold ahN
    by_cases c : pM P n = a ∧ ahd P n p
    · rw [cif_t c]; omega
    · rw [cif_f c]; omega
noncomputable def ptS (P : PL) (a pl : Int) : Nat → Nat → Int
  | 0, _ => -1
  | f + 1, p => if pM P p = a ∧ (ahN P a p P.length : Int) = pl then (p : Int) else ptS P a pl f (p + 1)
set_option maxRecDepth 20000 in
theorem pa_inner {z : Option Nat} {R : Int} {P : PL} (X : mdX G sc ar m h0 h) (hP : mdP sc ar P) {a pl : Int} (ha : r32 a) (hpl : r32 pl) {p : Nat} (hp : p < P.length) (k : Ev (g_B G mX8_pointAt 0 0 (fun o z1 h1 => o = .inl (some (.int (iN R))) ∧ z1 = z ∧ h1 = h)) 0 0 z h 75 [(5, .int (iN (P.length : Nat))), (4, .int (iN (ahN P a p (P.length) : Nat))), (3, .int (iN (p : Nat))), (0, .ref m), (1, .int (iN a)), (2, .int (iN pl))] []) : ∀ (n o : Nat), o + n = P.length → Ev (g_B G mX8_pointAt 0 0 (fun o z1 h1 => o = .inl (some (.int (iN R))) ∧ z1 = z ∧ h1 = h)) 0 0 z h 29 [(5, .int (iN (o : Nat))), (4, .int (iN (ahN P a p (o) : Nat))), (3, .int (iN (p : Nat))), (0, .ref m), (1, .int (iN a)), (2, .int (iN pl))] [] := by
  have hP9 := hP
  obtain ⟨e1, e2, e3, e4⟩ := hP
  have ha1 := ha.1
  have ha2 := ha.2
  have hpl1 := hpl.1
  have hpl2 := hpl.2
  intro n
  induction n with
  | zero =>
    intro o hon
    have e9 : o = P.length := by omega
    rw [e9]
    refine e_iload dX8_pointAt_29 rfl ?_
    refine e_aload_n dX8_pointAt_31 rfl ?_
    refine e_getf fX8_108 X.obj rfl dX8_pointAt_32 ?_
    rw [e1]
    refine e_icmp_ge (tgt := 75) ⟨by omega, by omega⟩ ⟨by omega, by omega⟩ dX8_pointAt_35 rfl (fun c_35 => ?_) (fun c_35 => absurd (by omega) c_35)
    exact e_loc [(5, .int (iN (P.length : Nat))), (4, .int (iN (ahN P a p (P.length) : Nat))), (3, .int (iN (p : Nat))), (0, .ref m), (1, .int (iN a)), (2, .int (iN pl))] ⟨rfl, rfl, rfl, rfl, rfl, rfl, trivial⟩ k
  | succ n ih =>
    intro o hon
    have ho : o < P.length := by omega
    have hb := (e3.at ho).2.2
    letI : Decidable (ahd P o p) := Classical.propDecidable _
    refine e_iload dX8_pointAt_29 rfl ?_
    refine e_aload_n dX8_pointAt_31 rfl ?_
    refine e_getf fX8_108 X.obj rfl dX8_pointAt_32 ?_
    rw [e1]
    refine e_icmp_ge (tgt := 75) ⟨by omega, by omega⟩ ⟨by omega, by omega⟩ dX8_pointAt_35 rfl (fun c_35 => absurd c_35 (by omega)) (fun c_35 => ?_)
    refine e_iload dX8_pointAt_38 rfl ?_
    refine e_aload_n dX8_pointAt_40 rfl ?_
    refine e_getf fX8_13 X.obj rfl dX8_pointAt_41 ?_
    refine e_iload dX8_pointAt_44 rfl ?_
    refine e_ial X.a0 (by omega) (by omega) rfl (e4 o ho).1 dX8_pointAt_46 ?_
    refine e_iload_n dX8_pointAt_47 rfl ?_
    refine e_icmp_ne (tgt := 65) ⟨by omega, by omega⟩ ⟨by omega, by omega⟩ dX8_pointAt_48 rfl (fun c_48 => ?_) (fun c_48 => ?_)
    · have e6 : ahN P a p (o + 1) = ahN P a p o := cif_f (fun w => c_48 w.1)
      refine e_iconst dX8_pointAt_65 ?_
      refine e_iadd dX8_pointAt_66 ?_
      refine e_istore dX8_pointAt_67 rfl ?_
      refine e_iinc dX8_pointAt_69 rfl ?_
      refine e_goto (tgt := 29) dX8_pointAt_72 rfl ?_
      exact e_loc [(5, .int (iN (o + 1 : Nat))), (4, .int (iN (ahN P a p (o + 1) : Nat))), (3, .int (iN (p : Nat))), (0, .ref m), (1, .int (iN a)), (2, .int (iN pl))] ⟨rfl, by rw [e6]; exact congrArg (fun v => some (Value.int (iN v))) (by omega), rfl, rfl, rfl, rfl, trivial⟩ (ih (o + 1) (by omega))
    · refine e_aload_n dX8_pointAt_51 rfl ?_
      refine e_iload dX8_pointAt_52 rfl ?_
      refine e_iload_n dX8_pointAt_54 rfl ?_
      refine e_pureV qcX8_125 X.obj rfl rfl (S_isAhead X hP9 ho hp) rfl rfl rfl rfl dX8_pointAt_55 ?_
      refine e_ifP_eq (tgt := 65) dX8_pointAt_58 rfl (fun c_58 => ?_) (fun c_58 => ?_)
      · have e6 : ahN P a p (o + 1) = ahN P a p o := cif_f (fun w => c_58 w.2)
        refine e_iconst dX8_pointAt_65 ?_
        refine e_iadd dX8_pointAt_66 ?_
        refine e_istore dX8_pointAt_67 rfl ?_
        refine e_iinc dX8_pointAt_69 rfl ?_
        refine e_goto (tgt := 29) dX8_pointAt_72 rfl ?_
        exact e_loc [(5, .int (iN (o + 1 : Nat))), (4, .int (iN (ahN P a p (o + 1) : Nat))), (3, .int (iN (p : Nat))), (0, .ref m), (1, .int (iN a)), (2, .int (iN pl))] ⟨rfl, by rw [e6]; exact congrArg (fun v => some (Value.int (iN v))) (by omega), rfl, rfl, rfl, rfl, trivial⟩ (ih (o + 1) (by omega))
      · have e6 : ahN P a p (o + 1) = ahN P a p o + 1 := cif_t ⟨Decidable.of_not_not c_48, c_58⟩
        refine e_iconst dX8_pointAt_61 ?_
        refine e_goto (tgt := 66) dX8_pointAt_62 rfl ?_
        refine e_iadd dX8_pointAt_66 ?_
        refine e_istore dX8_pointAt_67 rfl ?_
        refine e_iinc dX8_pointAt_69 rfl ?_
        refine e_goto (tgt := 29) dX8_pointAt_72 rfl ?_
        exact e_loc [(5, .int (iN (o + 1 : Nat))), (4, .int (iN (ahN P a p (o + 1) : Nat))), (3, .int (iN (p : Nat))), (0, .ref m), (1, .int (iN a)), (2, .int (iN pl))] ⟨rfl, by rw [e6]; exact congrArg (fun v => some (Value.int (iN v))) (by omega), rfl, rfl, rfl, rfl, trivial⟩ (ih (o + 1) (by omega))
set_option maxRecDepth 20000 in
theorem pa_outer {z : Option Nat} {R : Int} {P : PL} (X : mdX G sc ar m h0 h) (hP : mdP sc ar P) {a pl : Int} (ha : r32 a) (hpl : r32 pl) : ∀ (f p : Nat), p + f = P.length → ptS P a pl f p = R → Ev (g_B G mX8_pointAt 0 0 (fun o z1 h1 => o = .inl (some (.int (iN R))) ∧ z1 = z ∧ h1 = h)) 0 0 z h 2 [(3, .int (iN (p : Nat))), (0, .ref m), (1, .int (iN a)), (2, .int (iN pl))] [] := by
  have hP9 := hP
  obtain ⟨e1, e2, e3, e4⟩ := hP
  have ha1 := ha.1
  have ha2 := ha.2
  have hpl1 := hpl.1
  have hpl2 := hpl.2
  intro f
  induction f with
  | zero =>
    intro p hpf hR
    have e9 : R = -1 := hR.symm
    subst e9
    refine e_iload_n dX8_pointAt_2 rfl ?_
    refine e_aload_n dX8_pointAt_3 rfl ?_
    refine e_getf fX8_108 X.obj rfl dX8_pointAt_4 ?_
    rw [e1]
    refine e_icmp_ge (tgt := 89) ⟨by omega, by omega⟩ ⟨by omega, by omega⟩ dX8_pointAt_7 rfl (fun c_7 => ?_) (fun c_7 => absurd (by omega) c_7)
    refine e_iconst dX8_pointAt_89 ?_
    refine e_iret rfl dX8_pointAt_90 (by decide) (by decide) ?_
    exact ⟨rfl, rfl, rfl⟩
  | succ f ih =>
    intro p hpf hR
    have hp : p < P.length := by omega
    have hb := (e3.at hp).2.2
    have hl := ahN_le P a p P.length
    refine e_iload_n dX8_pointAt_2 rfl ?_
    refine e_aload_n dX8_pointAt_3 rfl ?_
    refine e_getf fX8_108 X.obj rfl dX8_pointAt_4 ?_
    rw [e1]
    refine e_icmp_ge (tgt := 89) ⟨by omega, by omega⟩ ⟨by omega, by omega⟩ dX8_pointAt_7 rfl (fun c_7 => absurd c_7 (by omega)) (fun c_7 => ?_)
    refine e_aload_n dX8_pointAt_10 rfl ?_
    refine e_getf fX8_13 X.obj rfl dX8_pointAt_11 ?_
    refine e_iload_n dX8_pointAt_14 rfl ?_
    refine e_ial X.a0 (by omega) (by omega) rfl (e4 p hp).1 dX8_pointAt_15 ?_
    refine e_iload_n dX8_pointAt_16 rfl ?_
    refine e_icmp_eq (tgt := 23) ⟨by omega, by omega⟩ ⟨by omega, by omega⟩ dX8_pointAt_17 rfl (fun c_17 => ?_) (fun c_17 => ?_)
    · refine e_iconst dX8_pointAt_23 ?_
      refine e_istore dX8_pointAt_24 rfl ?_
      refine e_iconst dX8_pointAt_26 ?_
      refine e_istore dX8_pointAt_27 rfl ?_
      refine e_loc [(5, .int (iN (0 : Nat))), (4, .int (iN (ahN P a p (0) : Nat))), (3, .int (iN (p : Nat))), (0, .ref m), (1, .int (iN a)), (2, .int (iN pl))] ⟨rfl, rfl, rfl, rfl, rfl, rfl, trivial⟩ (pa_inner X hP9 ha hpl hp ?_ _ 0 (Nat.zero_add _))
      refine e_iload dX8_pointAt_75 rfl ?_
      refine e_iload_n dX8_pointAt_77 rfl ?_
      refine e_icmp_ne (tgt := 83) ⟨by omega, by omega⟩ ⟨by omega, by omega⟩ dX8_pointAt_78 rfl (fun c_78 => ?_) (fun c_78 => ?_)
      · refine e_iinc dX8_pointAt_83 rfl ?_
        refine e_goto (tgt := 2) dX8_pointAt_86 rfl ?_
        exact e_loc [(3, .int (iN (p + 1 : Nat))), (0, .ref m), (1, .int (iN a)), (2, .int (iN pl))] ⟨rfl, rfl, rfl, rfl, trivial⟩ (ih (p + 1) (by omega) ((if_neg (fun w => c_78 w.2)).symm.trans hR))
      · refine e_iload_n dX8_pointAt_81 rfl ?_
        refine e_iret rfl dX8_pointAt_82 (by decide) (by decide) ?_
        exact ⟨by rw [← hR, show ptS P a pl (f + 1) p = (p : Int) from if_pos ⟨c_17, Decidable.of_not_not c_78⟩], rfl, rfl⟩
    · refine e_goto (tgt := 83) dX8_pointAt_20 rfl ?_
      refine e_iinc dX8_pointAt_83 rfl ?_
      refine e_goto (tgt := 2) dX8_pointAt_86 rfl ?_
      exact e_loc [(3, .int (iN (p + 1 : Nat))), (0, .ref m), (1, .int (iN a)), (2, .int (iN pl))] ⟨rfl, rfl, rfl, rfl, trivial⟩ (ih (p + 1) (by omega) ((if_neg (fun w => c_17 w.1)).symm.trans hR))
set_option maxRecDepth 20000 in
theorem S_pointAt {P : PL} (X : mdX G sc ar m h0 h) (hP : mdP sc ar P) {a pl : Int} (ha : r32 a) (hpl : r32 pl) : Pure G mX8_pointAt [.ref m, .int (iN a), .int (iN pl)] h (.int (iN (ptS P a pl P.length 0))) := by
  intro z
  refine run_of rfl plX8 rfl ?_
  refine e_iconst dX8_pointAt_0 ?_
  refine e_istore_n dX8_pointAt_1 rfl ?_
  exact e_loc [(3, .int (iN (0 : Nat))), (0, .ref m), (1, .int (iN a)), (2, .int (iN pl))] ⟨rfl, rfl, rfl, rfl, trivial⟩ (pa_outer X hP ha hpl _ 0 (Nat.zero_add _) rfl)
set_option maxRecDepth 20000 in
theorem S_squared {P : PL} (X : mdX G sc ar m h0 h) (hP : mdP sc ar P) {i j : Nat} (hi : i < P.length) (hj : j < P.length) : Pure G mX8_squared [.ref m, .int (iN i), .int (iN j)] h (.int (iN (sqd P j i))) := by
  obtain ⟨e1, e2, e3, e4⟩ := hP
  intro z
  refine run_of rfl plX8 rfl ?_
  refine e_aload_n dX8_squared_0 rfl ?_
  refine e_getf fX8_17 X.obj rfl dX8_squared_1 ?_
  refine e_iload_n dX8_squared_4 rfl ?_
  refine e_ial X.a1 (by omega) (by omega) rfl (e4 i hi).2.1 dX8_squared_5 ?_
  refine e_aload_n dX8_squared_6 rfl ?_
  refine e_getf fX8_17 X.obj rfl dX8_squared_7 ?_
  refine e_iload_n dX8_squared_10 rfl ?_
  refine e_ial X.a1 (by omega) (by omega) rfl (e4 j hj).2.1 dX8_squared_11 ?_
  refine e_isub dX8_squared_12 ?_
  refine e_aload_n dX8_squared_13 rfl ?_
  refine e_getf fX8_17 X.obj rfl dX8_squared_14 ?_
  refine e_iload_n dX8_squared_17 rfl ?_
  refine e_ial X.a1 (by omega) (by omega) rfl (e4 i hi).2.1 dX8_squared_18 ?_
  refine e_aload_n dX8_squared_19 rfl ?_
  refine e_getf fX8_17 X.obj rfl dX8_squared_20 ?_
  refine e_iload_n dX8_squared_23 rfl ?_
  refine e_ial X.a1 (by omega) (by omega) rfl (e4 j hj).2.1 dX8_squared_24 ?_
  refine e_isub dX8_squared_25 ?_
  refine e_imul dX8_squared_26 ?_
  refine e_aload_n dX8_squared_27 rfl ?_
  refine e_getf fX8_20 X.obj rfl dX8_squared_28 ?_
  refine e_iload_n dX8_squared_31 rfl ?_
  refine e_ial X.a2 (by omega) (by omega) rfl (e4 i hi).2.2 dX8_squared_32 ?_
  refine e_aload_n dX8_squared_33 rfl ?_
  refine e_getf fX8_20 X.obj rfl dX8_squared_34 ?_
  refine e_iload_n dX8_squared_37 rfl ?_
  refine e_ial X.a2 (by omega) (by omega) rfl (e4 j hj).2.2 dX8_squared_38 ?_
  refine e_isub dX8_squared_39 ?_
  refine e_aload_n dX8_squared_40 rfl ?_
  refine e_getf fX8_20 X.obj rfl dX8_squared_41 ?_
  refine e_iload_n dX8_squared_44 rfl ?_
  refine e_ial X.a2 (by omega) (by omega) rfl (e4 i hi).2.2 dX8_squared_45 ?_
  refine e_aload_n dX8_squared_46 rfl ?_
  refine e_getf fX8_20 X.obj rfl dX8_squared_47 ?_
  refine e_iload_n dX8_squared_50 rfl ?_
  refine e_ial X.a2 (by omega) (by omega) rfl (e4 j hj).2.2 dX8_squared_51 ?_
  refine e_isub dX8_squared_52 ?_
  refine e_imul dX8_squared_53 ?_
  refine e_iadd dX8_squared_54 ?_
  refine e_iret rfl dX8_squared_55 (by decide) (by decide) ?_
  exact ⟨rfl, rfl, rfl⟩
set_option maxRecDepth 20000 in
theorem S_cornerOf {S : Nat → PL} (X : mdX G sc ar m h0 h) (hS : mdS ar S) {g k : Nat} (hg : g < 4) (hn : 0 < (S g).length) (hk : k ≤ 100) : Pure G mX8_cornerOf [.ref m, .int (iN g), .int (iN k)] h (.int (iN (16 * (g : Int) + ((k % (S g).length : Nat) : Int)))) := by
  obtain ⟨s1, s2, -, -⟩ := hS g hg
  intro z
  refine run_of rfl plX8 rfl ?_
  refine e_bipush dX8_cornerOf_0 (by decide) ?_
  refine e_iload_n dX8_cornerOf_2 rfl ?_
  refine e_imul dX8_cornerOf_3 ?_
  refine e_iload_n dX8_cornerOf_4 rfl ?_
  refine e_aload_n dX8_cornerOf_5 rfl ?_
  refine e_getf fX8_48 X.obj rfl dX8_cornerOf_6 ?_
  refine e_iload_n dX8_cornerOf_9 rfl ?_
  refine e_ial X.a11 (by omega) (by omega) rfl s1 dX8_cornerOf_10 ?_
  refine e_irem ⟨by omega, by omega⟩ ⟨by omega, by omega⟩ (by omega) dX8_cornerOf_11 ?_
  rw [show ((k : Int)).tmod ((S g).length : Int) = ((k % (S g).length : Nat) : Int) from rfl]
  refine e_iadd dX8_cornerOf_12 ?_
  refine e_iret rfl dX8_cornerOf_13 (by decide) (by decide) ?_
  exact ⟨rfl, rfl, rfl⟩
set_option maxRecDepth 20000 in
theorem S_takesFirst (X : mdX G sc ar m h0 h) {x y u v : Int} : Does G mX8_takesFirst [.ref m, .int (iN x), .int (iN y), .int (iN u), .int (iN v)] h (fun q h1 => q = none ∧ mdX G (uI (uI (uI (uI sc 17 x) 18 y) 19 u) 20 v) ar m h0 h1) := by
  intro z
  refine run_of rfl plX8 rfl ?_
  refine e_aload_n dX8_takesFirst_0 rfl ?_
  refine e_iload_n dX8_takesFirst_1 rfl ?_
  refine e_putf pfX8_198 X.obj rfl rfl rfl dX8_takesFirst_2 ?_
  refine X.pto (q := 17) (fun h9 X9 => ?_) rfl
  replace X := X9
  clear X9
  refine e_aload_n dX8_takesFirst_5 rfl ?_
  refine e_iload_n dX8_takesFirst_6 rfl ?_
  refine e_putf pfX8_201 X.obj rfl rfl rfl dX8_takesFirst_7 ?_
  refine X.pto (q := 18) (fun h9 X9 => ?_) rfl
  replace X := X9
  clear X9
  refine e_aload_n dX8_takesFirst_10 rfl ?_
  refine e_iload_n dX8_takesFirst_11 rfl ?_
  refine e_putf pfX8_204 X.obj rfl rfl rfl dX8_takesFirst_12 ?_
  refine X.pto (q := 19) (fun h9 X9 => ?_) rfl
  replace X := X9
  clear X9
  refine e_aload_n dX8_takesFirst_15 rfl ?_
  refine e_iload dX8_takesFirst_16 rfl ?_
  refine e_putf pfX8_207 X.obj rfl rfl rfl dX8_takesFirst_18 ?_
  refine X.pto (q := 20) (fun h9 X9 => ?_) rfl
  replace X := X9
  clear X9
  refine e_vret rfl dX8_takesFirst_21 (by decide) (by decide) ?_
  exact ⟨none, rfl, rfl, rfl, X⟩
set_option maxRecDepth 20000 in
theorem S_takesSecond (X : mdX G sc ar m h0 h) {x y u v : Int} : Does G mX8_takesSecond [.ref m, .int (iN x), .int (iN y), .int (iN u), .int (iN v)] h (fun q h1 => q = none ∧ mdX G (uI (uI (uI (uI sc 21 x) 22 y) 23 u) 24 v) ar m h0 h1) := by
  intro z
  refine run_of rfl plX8 rfl ?_
  refine e_aload_n dX8_takesSecond_0 rfl ?_
  refine e_iload_n dX8_takesSecond_1 rfl ?_
  refine e_putf pfX8_210 X.obj rfl rfl rfl dX8_takesSecond_2 ?_
  refine X.pto (q := 21) (fun h9 X9 => ?_) rfl
  replace X := X9
  clear X9
  refine e_aload_n dX8_takesSecond_5 rfl ?_
  refine e_iload_n dX8_takesSecond_6 rfl ?_
  refine e_putf pfX8_213 X.obj rfl rfl rfl dX8_takesSecond_7 ?_
  refine X.pto (q := 22) (fun h9 X9 => ?_) rfl
  replace X := X9
  clear X9
  refine e_aload_n dX8_takesSecond_10 rfl ?_
  refine e_iload_n dX8_takesSecond_11 rfl ?_
  refine e_putf pfX8_216 X.obj rfl rfl rfl dX8_takesSecond_12 ?_
  refine X.pto (q := 23) (fun h9 X9 => ?_) rfl
  replace X := X9
  clear X9
  refine e_aload_n dX8_takesSecond_15 rfl ?_
  refine e_iload dX8_takesSecond_16 rfl ?_
  refine e_putf pfX8_219 X.obj rfl rfl rfl dX8_takesSecond_18 ?_
  refine X.pto (q := 24) (fun h9 X9 => ?_) rfl
  replace X := X9
  clear X9
  refine e_vret rfl dX8_takesSecond_21 (by decide) (by decide) ?_
  exact ⟨none, rfl, rfl, rfl, X⟩
def pas (ax ay bx by' cx cy dx dy : Int) : Prop := sg (tw ax ay bx by' cx cy) * sg (tw ax ay bx by' dx dy) < 0 ∧ sg (tw cx cy dx dy ax ay) * sg (tw cx cy dx dy bx by') < 0
def tou (ax ay bx by' cx cy dx dy : Int) : Prop := (on ax ay bx by' cx cy ∨ on ax ay bx by' dx dy ∨ on cx cy dx dy ax ay ∨ on cx cy dx dy bx by') ∨ pas ax ay bx by' cx cy dx dy
/-- the eight numbers of two stretches -/
def st8 (sc : Nat → Int) (ax ay bx by' cx cy dx dy : Int) : Prop := (sc 17 = ax ∧ sc 18 = ay ∧ sc 19 = bx ∧ sc 20 = by' ∧ sc 21 = cx ∧ sc 22 = cy ∧ sc 23 = dx ∧ sc 24 = dy) ∧ (b4 ax ∧ b4 ay ∧ b4 bx ∧ b4 by') ∧ b4 cx ∧ b4 cy ∧ b4 dx ∧ b4 dy
set_option maxRecDepth 20000 in
theorem S_doCross (X : mdX G sc ar m h0 h) {ax ay bx by' cx cy dx dy : Int} (h8 : st8 sc ax ay bx by' cx cy dx dy) : Pure G mX8_doCross [.ref m] h (.int (iN (bC (pas ax ay bx by' cx cy dx dy)))) := by
  obtain ⟨⟨v1, v2, v3, v4, v5, v6, v7, v8⟩, ⟨w1, w2, w3, w4⟩, w5, w6, w7, w8⟩ := h8
  have s0 := sg_bd (tw ax ay bx by' cx cy)
  have s1 := sg_bd (tw ax ay bx by' dx dy)
  have s2 := sg_bd (tw cx cy dx dy ax ay)
  have s3 := sg_bd (tw cx cy dx dy bx by')
  have m1 := mul_bd (A := 1) (B := 1) s0 s1
  have m2 := mul_bd (A := 1) (B := 1) s2 s3
  intro z
  refine run_of rfl plX8 rfl ?_
  refine e_aload_n dX8_doCross_0 rfl ?_
  refine e_getf fX8_198 X.obj rfl dX8_doCross_1 ?_
  rw [v1]
  refine e_i2l ⟨by omega, by omega⟩ dX8_doCross_4 ?_
  refine e_aload_n dX8_doCross_5 rfl ?_
  refine e_getf fX8_201 X.obj rfl dX8_doCross_6 ?_
  rw [v2]
  refine e_i2l ⟨by omega, by omega⟩ dX8_doCross_9 ?_
  refine e_aload_n dX8_doCross_10 rfl ?_
  refine e_getf fX8_204 X.obj rfl dX8_doCross_11 ?_
  rw [v3]
  refine e_i2l ⟨by omega, by omega⟩ dX8_doCross_14 ?_
  refine e_aload_n dX8_doCross_15 rfl ?_
  refine e_getf fX8_207 X.obj rfl dX8_doCross_16 ?_
  rw [v4]
  refine e_i2l ⟨by omega, by omega⟩ dX8_doCross_19 ?_
  refine e_aload_n dX8_doCross_20 rfl ?_
  refine e_getf fX8_210 X.obj rfl dX8_doCross_21 ?_
  rw [v5]
  refine e_i2l ⟨by omega, by omega⟩ dX8_doCross_24 ?_
  refine e_aload_n dX8_doCross_25 rfl ?_
  refine e_getf fX8_213 X.obj rfl dX8_doCross_26 ?_
  rw [v6]
  refine e_i2l ⟨by omega, by omega⟩ dX8_doCross_29 ?_
  refine e_pureS qcX8_132 (S_turns (twr w1 w2 w3 w4 ⟨by omega, by omega⟩ ⟨by omega, by omega⟩)) rfl rfl rfl rfl dX8_doCross_30 ?_
  refine e_aload_n dX8_doCross_33 rfl ?_
  refine e_getf fX8_198 X.obj rfl dX8_doCross_34 ?_
  rw [v1]
  refine e_i2l ⟨by omega, by omega⟩ dX8_doCross_37 ?_
  refine e_aload_n dX8_doCross_38 rfl ?_
  refine e_getf fX8_201 X.obj rfl dX8_doCross_39 ?_
  rw [v2]
  refine e_i2l ⟨by omega, by omega⟩ dX8_doCross_42 ?_
  refine e_aload_n dX8_doCross_43 rfl ?_
  refine e_getf fX8_204 X.obj rfl dX8_doCross_44 ?_
  rw [v3]
  refine e_i2l ⟨by omega, by omega⟩ dX8_doCross_47 ?_
  refine e_aload_n dX8_doCross_48 rfl ?_
  refine e_getf fX8_207 X.obj rfl dX8_doCross_49 ?_
  rw [v4]
  refine e_i2l ⟨by omega, by omega⟩ dX8_doCross_52 ?_
  refine e_aload_n dX8_doCross_53 rfl ?_
  refine e_getf fX8_216 X.obj rfl dX8_doCross_54 ?_
  rw [v7]
  refine e_i2l ⟨by omega, by omega⟩ dX8_doCross_57 ?_
  refine e_aload_n dX8_doCross_58 rfl ?_
  refine e_getf fX8_219 X.obj rfl dX8_doCross_59 ?_
  rw [v8]
  refine e_i2l ⟨by omega, by omega⟩ dX8_doCross_62 ?_
  refine e_pureS qcX8_132 (S_turns (twr w1 w2 w3 w4 ⟨by omega, by omega⟩ ⟨by omega, by omega⟩)) rfl rfl rfl rfl dX8_doCross_63 ?_
  refine e_imul dX8_doCross_66 ?_
  refine e_if_ge (tgt := 144) ⟨by omega, by omega⟩ dX8_doCross_67 rfl (fun c_67 => ?_) (fun c_67 => ?_)
  · refine e_iconst dX8_doCross_144 ?_
    first | refine e_top (bC (pas ax ay bx by' cx cy dx dy)) (bC_f (fun w => absurd w.1 (Int.not_lt.mpr c_67))).symm ?_ | refine e_top (bC (pas ax ay bx by' cx cy dx dy)) (bC_f (fun w => absurd w.2 (Int.not_lt.mpr c_137))).symm ?_
    refine e_zret rfl (@bP_01 _ (Classical.propDecidable _)) dX8_doCross_145 (by decide) (by decide) ?_
    exact ⟨rfl, rfl, rfl⟩
  · refine e_aload_n dX8_doCross_70 rfl ?_
    refine e_getf fX8_210 X.obj rfl dX8_doCross_71 ?_
    rw [v5]
    refine e_i2l ⟨by omega, by omega⟩ dX8_doCross_74 ?_
    refine e_aload_n dX8_doCross_75 rfl ?_
    refine e_getf fX8_213 X.obj rfl dX8_doCross_76 ?_
    rw [v6]
    refine e_i2l ⟨by omega, by omega⟩ dX8_doCross_79 ?_
    refine e_aload_n dX8_doCross_80 rfl ?_
    refine e_getf fX8_216 X.obj rfl dX8_doCross_81 ?_
    rw [v7]
    refine e_i2l ⟨by omega, by omega⟩ dX8_doCross_84 ?_
    refine e_aload_n dX8_doCross_85 rfl ?_
    refine e_getf fX8_219 X.obj rfl dX8_doCross_86 ?_
    rw [v8]
    refine e_i2l ⟨by omega, by omega⟩ dX8_doCross_89 ?_
    refine e_aload_n dX8_doCross_90 rfl ?_
    refine e_getf fX8_198 X.obj rfl dX8_doCross_91 ?_
    rw [v1]
    refine e_i2l ⟨by omega, by omega⟩ dX8_doCross_94 ?_
    refine e_aload_n dX8_doCross_95 rfl ?_
    refine e_getf fX8_201 X.obj rfl dX8_doCross_96 ?_
    rw [v2]
    refine e_i2l ⟨by omega, by omega⟩ dX8_doCross_99 ?_
    refine e_pureS qcX8_132 (S_turns (twr w5 w6 w7 w8 ⟨by omega, by omega⟩ ⟨by omega, by omega⟩)) rfl rfl rfl rfl dX8_doCross_100 ?_
    refine e_aload_n dX8_doCross_103 rfl ?_
    refine e_getf fX8_210 X.obj rfl dX8_doCross_104 ?_
    rw [v5]
    refine e_i2l ⟨by omega, by omega⟩ dX8_doCross_107 ?_
    refine e_aload_n dX8_doCross_108 rfl ?_
    refine e_getf fX8_213 X.obj rfl dX8_doCross_109 ?_
    rw [v6]
    refine e_i2l ⟨by omega, by omega⟩ dX8_doCross_112 ?_
    refine e_aload_n dX8_doCross_113 rfl ?_
    refine e_getf fX8_216 X.obj rfl dX8_doCross_114 ?_
    rw [v7]
    refine e_i2l ⟨by omega, by omega⟩ dX8_doCross_117 ?_
    refine e_aload_n dX8_doCross_118 rfl ?_
    refine e_getf fX8_219 X.obj rfl dX8_doCross_119 ?_
    rw [v8]
    refine e_i2l ⟨by omega, by omega⟩ dX8_doCross_122 ?_
    refine e_aload_n dX8_doCross_123 rfl ?_
    refine e_getf fX8_204 X.obj rfl dX8_doCross_124 ?_
    rw [v3]
    refine e_i2l ⟨by omega, by omega⟩ dX8_doCross_127 ?_
    refine e_aload_n dX8_doCross_128 rfl ?_
    refine e_getf fX8_207 X.obj rfl dX8_doCross_129 ?_
    rw [v4]
    refine e_i2l ⟨by omega, by omega⟩ dX8_doCross_132 ?_
    refine e_pureS qcX8_132 (S_turns (twr w5 w6 w7 w8 ⟨by omega, by omega⟩ ⟨by omega, by omega⟩)) rfl rfl rfl rfl dX8_doCross_133 ?_
    refine e_imul dX8_doCross_136 ?_
    refine e_if_ge (tgt := 144) ⟨by omega, by omega⟩ dX8_doCross_137 rfl (fun c_137 => ?_) (fun c_137 => ?_)
    · refine e_iconst dX8_doCross_144 ?_
      first | refine e_top (bC (pas ax ay bx by' cx cy dx dy)) (bC_f (fun w => absurd w.1 (Int.not_lt.mpr c_67))).symm ?_ | refine e_top (bC (pas ax ay bx by' cx cy dx dy)) (bC_f (fun w => absurd w.2 (Int.not_lt.mpr c_137))).symm ?_
      refine e_zret rfl (@bP_01 _ (Classical.propDecidable _)) dX8_doCross_145 (by decide) (by decide) ?_
      exact ⟨rfl, rfl, rfl⟩
    · refine e_iconst dX8_doCross_140 ?_
      refine e_top (bC (pas ax ay bx by' cx cy dx dy)) (bC_t ⟨Int.not_le.mp c_67, Int.not_le.mp c_137⟩).symm ?_
      refine e_goto (tgt := 145) dX8_doCross_141 rfl ?_
      refine e_zret rfl (@bP_01 _ (Classical.propDecidable _)) dX8_doCross_145 (by decide) (by decide) ?_
      exact ⟨rfl, rfl, rfl⟩
set_option maxRecDepth 20000 in
theorem S_doTouch (X : mdX G sc ar m h0 h) {ax ay bx by' cx cy dx dy : Int} (h8 : st8 sc ax ay bx by' cx cy dx dy) : Pure G mX8_doTouch [.ref m] h (.int (iN (bC (tou ax ay bx by' cx cy dx dy)))) := by
  obtain ⟨⟨v1, v2, v3, v4, v5, v6, v7, v8⟩, ⟨w1, w2, w3, w4⟩, w5, w6, w7, w8⟩ := id h8
  intro z
  refine run_of rfl plX8 rfl ?_
  refine e_aload_n dX8_doTouch_0 rfl ?_
  refine e_getf fX8_198 X.obj rfl dX8_doTouch_1 ?_
  rw [v1]
  refine e_i2l ⟨by omega, by omega⟩ dX8_doTouch_4 ?_
  refine e_aload_n dX8_doTouch_5 rfl ?_
  refine e_getf fX8_201 X.obj rfl dX8_doTouch_6 ?_
  rw [v2]
  refine e_i2l ⟨by omega, by omega⟩ dX8_doTouch_9 ?_
  refine e_aload_n dX8_doTouch_10 rfl ?_
  refine e_getf fX8_204 X.obj rfl dX8_doTouch_11 ?_
  rw [v3]
  refine e_i2l ⟨by omega, by omega⟩ dX8_doTouch_14 ?_
  refine e_aload_n dX8_doTouch_15 rfl ?_
  refine e_getf fX8_207 X.obj rfl dX8_doTouch_16 ?_
  rw [v4]
  refine e_i2l ⟨by omega, by omega⟩ dX8_doTouch_19 ?_
  refine e_aload_n dX8_doTouch_20 rfl ?_
  refine e_getf fX8_210 X.obj rfl dX8_doTouch_21 ?_
  rw [v5]
  refine e_i2l ⟨by omega, by omega⟩ dX8_doTouch_24 ?_
  refine e_aload_n dX8_doTouch_25 rfl ?_
  refine e_getf fX8_213 X.obj rfl dX8_doTouch_26 ?_
  rw [v6]
  refine e_i2l ⟨by omega, by omega⟩ dX8_doTouch_29 ?_
  refine e_pureS qcX8_169 (S_misOn w1 w2 w3 w4 ⟨by omega, by omega⟩ ⟨by omega, by omega⟩) rfl rfl rfl rfl dX8_doTouch_30 ?_
  refine e_ifP_ne (tgt := 144) dX8_doTouch_33 rfl (fun c_33 => ?_) (fun c_33 => ?_)
  · refine e_iconst dX8_doTouch_144 ?_
    first | refine e_top (bC (tou ax ay bx by' cx cy dx dy)) (bC_t (Or.inl (Or.inl c_33))).symm ?_ | refine e_top (bC (tou ax ay bx by' cx cy dx dy)) (bC_t (Or.inl (Or.inr (Or.inl c_69)))).symm ?_ | refine e_top (bC (tou ax ay bx by' cx cy dx dy)) (bC_t (Or.inl (Or.inr (Or.inr (Or.inl c_105))))).symm ?_ | refine e_top (bC (tou ax ay bx by' cx cy dx dy)) (bC_t (Or.inl (Or.inr (Or.inr (Or.inr c_141))))).symm ?_
    refine e_zret rfl (@bP_01 _ (Classical.propDecidable _)) dX8_doTouch_145 (by decide) (by decide) ?_
    exact ⟨rfl, rfl, rfl⟩
  · refine e_aload_n dX8_doTouch_36 rfl ?_
    refine e_getf fX8_198 X.obj rfl dX8_doTouch_37 ?_
    rw [v1]
    refine e_i2l ⟨by omega, by omega⟩ dX8_doTouch_40 ?_
    refine e_aload_n dX8_doTouch_41 rfl ?_
    refine e_getf fX8_201 X.obj rfl dX8_doTouch_42 ?_
    rw [v2]
    refine e_i2l ⟨by omega, by omega⟩ dX8_doTouch_45 ?_
    refine e_aload_n dX8_doTouch_46 rfl ?_
    refine e_getf fX8_204 X.obj rfl dX8_doTouch_47 ?_
    rw [v3]
    refine e_i2l ⟨by omega, by omega⟩ dX8_doTouch_50 ?_
    refine e_aload_n dX8_doTouch_51 rfl ?_
    refine e_getf fX8_207 X.obj rfl dX8_doTouch_52 ?_
    rw [v4]
    refine e_i2l ⟨by omega, by omega⟩ dX8_doTouch_55 ?_
    refine e_aload_n dX8_doTouch_56 rfl ?_
    refine e_getf fX8_216 X.obj rfl dX8_doTouch_57 ?_
    rw [v7]
    refine e_i2l ⟨by omega, by omega⟩ dX8_doTouch_60 ?_
    refine e_aload_n dX8_doTouch_61 rfl ?_
    refine e_getf fX8_219 X.obj rfl dX8_doTouch_62 ?_
    rw [v8]
    refine e_i2l ⟨by omega, by omega⟩ dX8_doTouch_65 ?_
    refine e_pureS qcX8_169 (S_misOn w1 w2 w3 w4 ⟨by omega, by omega⟩ ⟨by omega, by omega⟩) rfl rfl rfl rfl dX8_doTouch_66 ?_
    refine e_ifP_ne (tgt := 144) dX8_doTouch_69 rfl (fun c_69 => ?_) (fun c_69 => ?_)
    · refine e_iconst dX8_doTouch_144 ?_
      first | refine e_top (bC (tou ax ay bx by' cx cy dx dy)) (bC_t (Or.inl (Or.inl c_33))).symm ?_ | refine e_top (bC (tou ax ay bx by' cx cy dx dy)) (bC_t (Or.inl (Or.inr (Or.inl c_69)))).symm ?_ | refine e_top (bC (tou ax ay bx by' cx cy dx dy)) (bC_t (Or.inl (Or.inr (Or.inr (Or.inl c_105))))).symm ?_ | refine e_top (bC (tou ax ay bx by' cx cy dx dy)) (bC_t (Or.inl (Or.inr (Or.inr (Or.inr c_141))))).symm ?_
      refine e_zret rfl (@bP_01 _ (Classical.propDecidable _)) dX8_doTouch_145 (by decide) (by decide) ?_
      exact ⟨rfl, rfl, rfl⟩
    · refine e_aload_n dX8_doTouch_72 rfl ?_
      refine e_getf fX8_210 X.obj rfl dX8_doTouch_73 ?_
      rw [v5]
      refine e_i2l ⟨by omega, by omega⟩ dX8_doTouch_76 ?_
      refine e_aload_n dX8_doTouch_77 rfl ?_
      refine e_getf fX8_213 X.obj rfl dX8_doTouch_78 ?_
      rw [v6]
      refine e_i2l ⟨by omega, by omega⟩ dX8_doTouch_81 ?_
      refine e_aload_n dX8_doTouch_82 rfl ?_
      refine e_getf fX8_216 X.obj rfl dX8_doTouch_83 ?_
      rw [v7]
      refine e_i2l ⟨by omega, by omega⟩ dX8_doTouch_86 ?_
      refine e_aload_n dX8_doTouch_87 rfl ?_
      refine e_getf fX8_219 X.obj rfl dX8_doTouch_88 ?_
      rw [v8]
      refine e_i2l ⟨by omega, by omega⟩ dX8_doTouch_91 ?_
      refine e_aload_n dX8_doTouch_92 rfl ?_
      refine e_getf fX8_198 X.obj rfl dX8_doTouch_93 ?_
      rw [v1]
      refine e_i2l ⟨by omega, by omega⟩ dX8_doTouch_96 ?_
      refine e_aload_n dX8_doTouch_97 rfl ?_
      refine e_getf fX8_201 X.obj rfl dX8_doTouch_98 ?_
      rw [v2]
      refine e_i2l ⟨by omega, by omega⟩ dX8_doTouch_101 ?_
      refine e_pureS qcX8_169 (S_misOn w5 w6 w7 w8 ⟨by omega, by omega⟩ ⟨by omega, by omega⟩) rfl rfl rfl rfl dX8_doTouch_102 ?_
      refine e_ifP_ne (tgt := 144) dX8_doTouch_105 rfl (fun c_105 => ?_) (fun c_105 => ?_)
      · refine e_iconst dX8_doTouch_144 ?_
        first | refine e_top (bC (tou ax ay bx by' cx cy dx dy)) (bC_t (Or.inl (Or.inl c_33))).symm ?_ | refine e_top (bC (tou ax ay bx by' cx cy dx dy)) (bC_t (Or.inl (Or.inr (Or.inl c_69)))).symm ?_ | refine e_top (bC (tou ax ay bx by' cx cy dx dy)) (bC_t (Or.inl (Or.inr (Or.inr (Or.inl c_105))))).symm ?_ | refine e_top (bC (tou ax ay bx by' cx cy dx dy)) (bC_t (Or.inl (Or.inr (Or.inr (Or.inr c_141))))).symm ?_
        refine e_zret rfl (@bP_01 _ (Classical.propDecidable _)) dX8_doTouch_145 (by decide) (by decide) ?_
        exact ⟨rfl, rfl, rfl⟩
      · refine e_aload_n dX8_doTouch_108 rfl ?_
        refine e_getf fX8_210 X.obj rfl dX8_doTouch_109 ?_
        rw [v5]
        refine e_i2l ⟨by omega, by omega⟩ dX8_doTouch_112 ?_
        refine e_aload_n dX8_doTouch_113 rfl ?_
        refine e_getf fX8_213 X.obj rfl dX8_doTouch_114 ?_
        rw [v6]
        refine e_i2l ⟨by omega, by omega⟩ dX8_doTouch_117 ?_
        refine e_aload_n dX8_doTouch_118 rfl ?_
        refine e_getf fX8_216 X.obj rfl dX8_doTouch_119 ?_
        rw [v7]
        refine e_i2l ⟨by omega, by omega⟩ dX8_doTouch_122 ?_
        refine e_aload_n dX8_doTouch_123 rfl ?_
        refine e_getf fX8_219 X.obj rfl dX8_doTouch_124 ?_
        rw [v8]
        refine e_i2l ⟨by omega, by omega⟩ dX8_doTouch_127 ?_
        refine e_aload_n dX8_doTouch_128 rfl ?_
        refine e_getf fX8_204 X.obj rfl dX8_doTouch_129 ?_
        rw [v3]
        refine e_i2l ⟨by omega, by omega⟩ dX8_doTouch_132 ?_
        refine e_aload_n dX8_doTouch_133 rfl ?_
        refine e_getf fX8_207 X.obj rfl dX8_doTouch_134 ?_
        rw [v4]
        refine e_i2l ⟨by omega, by omega⟩ dX8_doTouch_137 ?_
        refine e_pureS qcX8_169 (S_misOn w5 w6 w7 w8 ⟨by omega, by omega⟩ ⟨by omega, by omega⟩) rfl rfl rfl rfl dX8_doTouch_138 ?_
        refine e_ifP_eq (tgt := 146) dX8_doTouch_141 rfl (fun c_141 => ?_) (fun c_141 => ?_)
        · refine e_aload_n dX8_doTouch_146 rfl ?_
          refine e_pureV qcX8_222 X.obj rfl rfl (S_doCross X h8) rfl rfl rfl rfl dX8_doTouch_147 ?_
          refine e_top (bC (tou ax ay bx by' cx cy dx dy)) (bC_c ⟨fun w => Or.inr w, fun w => w.elim (fun w => w.elim (fun w => absurd w c_33) (fun w => w.elim (fun w => absurd w c_69) (fun w => w.elim (fun w => absurd w c_105) (fun w => absurd w c_141)))) id⟩) ?_
          refine e_zret rfl (@bP_01 _ (Classical.propDecidable _)) dX8_doTouch_150 (by decide) (by decide) ?_
          exact ⟨rfl, rfl, rfl⟩
        · refine e_iconst dX8_doTouch_144 ?_
          first | refine e_top (bC (tou ax ay bx by' cx cy dx dy)) (bC_t (Or.inl (Or.inl c_33))).symm ?_ | refine e_top (bC (tou ax ay bx by' cx cy dx dy)) (bC_t (Or.inl (Or.inr (Or.inl c_69)))).symm ?_ | refine e_top (bC (tou ax ay bx by' cx cy dx dy)) (bC_t (Or.inl (Or.inr (Or.inr (Or.inl c_105))))).symm ?_ | refine e_top (bC (tou ax ay bx by' cx cy dx dy)) (bC_t (Or.inl (Or.inr (Or.inr (Or.inr c_141))))).symm ?_
          refine e_zret rfl (@bP_01 _ (Classical.propDecidable _)) dX8_doTouch_145 (by decide) (by decide) ?_
          exact ⟨rfl, rfl, rfl⟩
theorem tou_meet {E : PL} {l o : Nat} : tou (pX E (2 * l)) (pY E (2 * l)) (pX E (2 * l + 1)) (pY E (2 * l + 1)) (pX E (2 * o)) (pY E (2 * o)) (pX E (2 * o + 1)) (pY E (2 * o + 1)) ↔ lmE E l o := ⟨fun w => w.elim Or.inr Or.inl, fun w => w.elim Or.inr Or.inl⟩
set_option maxRecDepth 20000 in
theorem S_areCrossed {E : PL} (X : mdX G sc ar m h0 h) (hE : mdE sc ar E) {l o : Nat} (hl : l < E.length / 2) (ho : o < E.length / 2) : Does G mX8_areCrossed [.ref m, .int (iN l), .int (iN o)] h (fun v h1 => v = some (.int (iN (bP (lmE E l o)))) ∧ ∃ sc2, mdX G sc2 ar m h0 h1 ∧ agr [17, 18, 19, 20, 21, 22, 23, 24] [] sc ar sc2 ar) := by
  obtain ⟨e1, e2, e3, e4, e5⟩ := hE
  have q1 := e4.at (show 2 * l < E.length by omega)
  have q2 := e4.at (show 2 * l + 1 < E.length by omega)
  have q3 := e4.at (show 2 * o < E.length by omega)
  have q4 := e4.at (show 2 * o + 1 < E.length by omega)
  have bl : (b4 (pX E (2 * l)) ∧ b4 (pY E (2 * l)) ∧ b4 (pX E (2 * l + 1)) ∧ b4 (pY E (2 * l + 1))) := ⟨⟨by omega, by omega⟩, ⟨by omega, by omega⟩, ⟨by omega, by omega⟩, by omega, by omega⟩
  have bo : (b4 (pX E (2 * o)) ∧ b4 (pY E (2 * o)) ∧ b4 (pX E (2 * o + 1)) ∧ b4 (pY E (2 * o + 1))) := ⟨⟨by omega, by omega⟩, ⟨by omega, by omega⟩, ⟨by omega, by omega⟩, by omega, by omega⟩
  intro z
  refine run_of rfl plX8 rfl ?_
  refine e_aload_n dX8_areCrossed_0 rfl ?_
  refine e_aload_n dX8_areCrossed_1 rfl ?_
  refine e_getf fX8_57 X.obj rfl dX8_areCrossed_2 ?_
  refine e_iload_n dX8_areCrossed_5 rfl ?_
  refine e_ial X.a14 (by omega) (by omega) rfl (e5 l hl).1 dX8_areCrossed_6 ?_
  refine e_aload_n dX8_areCrossed_7 rfl ?_
  refine e_getf fX8_60 X.obj rfl dX8_areCrossed_8 ?_
  refine e_iload_n dX8_areCrossed_11 rfl ?_
  refine e_ial X.a15 (by omega) (by omega) rfl (e5 l hl).2.1 dX8_areCrossed_12 ?_
  refine e_aload_n dX8_areCrossed_13 rfl ?_
  refine e_getf fX8_63 X.obj rfl dX8_areCrossed_14 ?_
  refine e_iload_n dX8_areCrossed_17 rfl ?_
  refine e_ial X.a16 (by omega) (by omega) rfl (e5 l hl).2.2.1 dX8_areCrossed_18 ?_
  refine e_aload_n dX8_areCrossed_19 rfl ?_
  refine e_getf fX8_66 X.obj rfl dX8_areCrossed_20 ?_
  refine e_iload_n dX8_areCrossed_23 rfl ?_
  refine e_ial X.a17 (by omega) (by omega) rfl (e5 l hl).2.2.2 dX8_areCrossed_24 ?_
  refine e_doesV qcX8_229 X.obj rfl rfl (S_takesFirst X) rfl rfl rfl rfl dX8_areCrossed_25 ?_
  intro v h9 q9
  obtain ⟨rfl, X⟩ := q9
  refine e_aload_n dX8_areCrossed_28 rfl ?_
  refine e_aload_n dX8_areCrossed_29 rfl ?_
  refine e_getf fX8_57 X.obj rfl dX8_areCrossed_30 ?_
  refine e_iload_n dX8_areCrossed_33 rfl ?_
  refine e_ial X.a14 (by omega) (by omega) rfl (e5 o ho).1 dX8_areCrossed_34 ?_
  refine e_aload_n dX8_areCrossed_35 rfl ?_
  refine e_getf fX8_60 X.obj rfl dX8_areCrossed_36 ?_
  refine e_iload_n dX8_areCrossed_39 rfl ?_
  refine e_ial X.a15 (by omega) (by omega) rfl (e5 o ho).2.1 dX8_areCrossed_40 ?_
  refine e_aload_n dX8_areCrossed_41 rfl ?_
  refine e_getf fX8_63 X.obj rfl dX8_areCrossed_42 ?_
  refine e_iload_n dX8_areCrossed_45 rfl ?_
  refine e_ial X.a16 (by omega) (by omega) rfl (e5 o ho).2.2.1 dX8_areCrossed_46 ?_
  refine e_aload_n dX8_areCrossed_47 rfl ?_
  refine e_getf fX8_66 X.obj rfl dX8_areCrossed_48 ?_
  refine e_iload_n dX8_areCrossed_51 rfl ?_
  refine e_ial X.a17 (by omega) (by omega) rfl (e5 o ho).2.2.2 dX8_areCrossed_52 ?_
  refine e_doesV qcX8_233 X.obj rfl rfl (S_takesSecond X) rfl rfl rfl rfl dX8_areCrossed_53 ?_
  intro v h9 q9
  obtain ⟨rfl, X⟩ := q9
  refine e_aload_n dX8_areCrossed_56 rfl ?_
  refine e_pureV qcX8_236 X.obj rfl rfl (S_doTouch X (show st8 _ (pX E (2 * l)) (pY E (2 * l)) (pX E (2 * l + 1)) (pY E (2 * l + 1)) (pX E (2 * o)) (pY E (2 * o)) (pX E (2 * o + 1)) (pY E (2 * o + 1)) from ⟨⟨rfl, rfl, rfl, rfl, rfl, rfl, rfl, rfl⟩, bl, bo⟩)) rfl rfl rfl rfl dX8_areCrossed_57 ?_
  rw [bC_c tou_meet, bC_bP]
  refine e_zret rfl (by first | exact Or.inl rfl | exact Or.inr rfl | exact bP_01 _) dX8_areCrossed_60 (by decide) (by decide) ?_
  exact ⟨_, rfl, rfl, rfl, _, X, (((((((agr.rf.pk (by decide)).pk (by decide)).pk (by decide)).pk (by decide)).pk (by decide)).pk (by decide)).pk (by decide)).pk (by decide)⟩
end MFOUR
