/-! The reference: counts, places laid, lines -/
section MTHREE
variable {G : g_X} {sc : Nat → Int} {ar : Nat → Nat → Int} {m : Nat} {h0 h : g_hp}
set_option maxRecDepth 20000 in
theorem mn_loop {z : Option Nat} {P : PL} (X : mdX G sc ar m h0 h) (hP : mdP sc ar P) {a : Int} (ha : r32 a) : ∀ (n i : Nat), i + n = P.length → Ev (g_B G mX8_many 0 0 (fun o z1 h1 => o = .inl (some (.int (iN (cntN P a P.length : Nat)))) ∧ z1 = z ∧ h1 = h)) 0 0 z h 4 [(3, .int (iN (i : Nat))), (2, .int (iN (cntN P a (i) : Nat))), (0, .ref m), (1, .int (iN a))] [] := by
  obtain ⟨e1, e2, e3, e4⟩ := hP
  have ha1 := ha.1
  have ha2 := ha.2
  intro n
  induction n with
  | zero =>
    intro i hin
    have e9 : i = P.length := by omega
    rw [e9]
    refine e_iload_n dX8_many_4 rfl ?_
    refine e_aload_n dX8_many_5 rfl ?_
    refine e_getf fX8_108 X.obj rfl dX8_many_6 ?_
    rw [e1]
    refine e_icmp_ge (tgt := 36) ⟨by omega, by omega⟩ ⟨by omega, by omega⟩ dX8_many_9 rfl (fun c_9 => ?_) (fun c_9 => absurd (by omega) c_9)
    refine e_iload_n dX8_many_36 rfl ?_
    refine e_iret rfl dX8_many_37 (by decide) (by decide) ?_
    exact ⟨rfl, rfl, rfl⟩
  | succ n ih =>
    intro i hin
    have hi : i < P.length := by omega
    have hb := (e3.at hi).2.2
    refine e_iload_n dX8_many_4 rfl ?_
    refine e_aload_n dX8_many_5 rfl ?_
    refine e_getf fX8_108 X.obj rfl dX8_many_6 ?_
    rw [e1]
    refine e_icmp_ge (tgt := 36) ⟨by omega, by omega⟩ ⟨by omega, by omega⟩ dX8_many_9 rfl (fun c_9 => absurd c_9 (by omega)) (fun c_9 => ?_)
    refine e_iload_n dX8_many_12 rfl ?_
    refine e_aload_n dX8_many_13 rfl ?_
    refine e_getf fX8_13 X.obj rfl dX8_many_14 ?_
    refine e_iload_n dX8_many_17 rfl ?_
    refine e_ial X.a0 (by omega) (by omega) rfl (e4 i hi).1 dX8_many_18 ?_
    refine e_iload_n dX8_many_19 rfl ?_
    refine e_icmp_ne (tgt := 27) ⟨by omega, by omega⟩ ⟨by omega, by omega⟩ dX8_many_20 rfl (fun c_20 => ?_) (fun c_20 => ?_)
    · have e6 : cntN P a (i + 1) = cntN P a i := cntN_f c_20
      refine e_iconst dX8_many_27 ?_
      refine e_iadd dX8_many_28 ?_
      refine e_istore_n dX8_many_29 rfl ?_
      refine e_iinc dX8_many_30 rfl ?_
      refine e_goto (tgt := 4) dX8_many_33 rfl ?_
      exact e_loc [(3, .int (iN (i + 1 : Nat))), (2, .int (iN (cntN P a (i + 1) : Nat))), (0, .ref m), (1, .int (iN a))] ⟨rfl, by rw [e6]; exact congrArg (fun v => some (Value.int (iN v))) (by omega), rfl, rfl, trivial⟩ (ih (i + 1) (by omega))
    · have e6 : cntN P a (i + 1) = cntN P a i + 1 := cntN_t c_20
      refine e_iconst dX8_many_23 ?_
      refine e_goto (tgt := 28) dX8_many_24 rfl ?_
      refine e_iadd dX8_many_28 ?_
      refine e_istore_n dX8_many_29 rfl ?_
      refine e_iinc dX8_many_30 rfl ?_
      refine e_goto (tgt := 4) dX8_many_33 rfl ?_
      exact e_loc [(3, .int (iN (i + 1 : Nat))), (2, .int (iN (cntN P a (i + 1) : Nat))), (0, .ref m), (1, .int (iN a))] ⟨rfl, by rw [e6]; exact congrArg (fun v => some (Value.int (iN v))) (by omega), rfl, rfl, trivial⟩ (ih (i + 1) (by omega))
set_option maxRecDepth 20000 in
theorem S_many {P : PL} (X : mdX G sc ar m h0 h) (hP : mdP sc ar P) {a : Int} (ha : r32 a) : Pure G mX8_many [.ref m, .int (iN a)] h (.int (iN (cntN P a P.length : Nat))) := by
  intro z
  refine run_of rfl plX8 rfl ?_
  refine e_iconst dX8_many_0 ?_
  refine e_istore_n dX8_many_1 rfl ?_
  refine e_iconst dX8_many_2 ?_
  refine e_istore_n dX8_many_3 rfl ?_
  exact e_loc [(3, .int (iN (0 : Nat))), (2, .int (iN (cntN P a (0) : Nat))), (0, .ref m), (1, .int (iN a))] ⟨rfl, rfl, rfl, rfl, trivial⟩ (mn_loop X hP ha _ 0 (Nat.zero_add _))
set_option maxRecDepth 20000 in
theorem S_isEmpty_t {P : PL} (X : mdX G sc ar m h0 h) (hP : mdP sc ar P) {a : Int} (ha : r32 a) (c : cntN P a P.length ≠ 0) (ht : sc 0 = 0) : Pure G mX8_isEmpty [.ref m, .int (iN a)] h (.int (iN 0)) := by
  have e8 := cntN_le P a P.length
  have e2 := hP.2.1
  intro z
  refine run_of rfl plX8 rfl ?_
  refine e_aload_n dX8_isEmpty_0 rfl ?_
  refine e_aload_n dX8_isEmpty_1 rfl ?_
  refine e_iload_n dX8_isEmpty_2 rfl ?_
  refine e_pureV qcX8_122 X.obj rfl rfl (S_many X hP ha) rfl rfl rfl rfl dX8_isEmpty_3 ?_
  refine e_if_le (tgt := 13) ⟨by omega, by omega⟩ dX8_isEmpty_6 rfl (fun c_6 => ?_) (fun c_6 => ?_)
  · refine e_iconst dX8_isEmpty_13 ?_
    refine e_top (bP (cntN P a P.length ≠ 0)) (bP_f ((fun w => by omega))).symm ?_
    refine e_iconst dX8_isEmpty_14 ?_
    refine e_pureV qcX8_104 X.obj rfl rfl (S_fails_t X c ht) rfl rfl rfl rfl dX8_isEmpty_15 ?_
    refine e_zret rfl (by first | exact Or.inl rfl | exact Or.inr rfl | exact bP_01 _) dX8_isEmpty_18 (by decide) (by decide) ?_
    exact ⟨rfl, rfl, rfl⟩
  · refine e_iconst dX8_isEmpty_9 ?_
    refine e_top (bP (cntN P a P.length ≠ 0)) (bP_t ((by omega : cntN P a P.length ≠ 0))).symm ?_
    refine e_goto (tgt := 14) dX8_isEmpty_10 rfl ?_
    refine e_iconst dX8_isEmpty_14 ?_
    refine e_pureV qcX8_104 X.obj rfl rfl (S_fails_t X c ht) rfl rfl rfl rfl dX8_isEmpty_15 ?_
    refine e_zret rfl (by first | exact Or.inl rfl | exact Or.inr rfl | exact bP_01 _) dX8_isEmpty_18 (by decide) (by decide) ?_
    exact ⟨rfl, rfl, rfl⟩
set_option maxRecDepth 20000 in
theorem S_isEmpty_f {P : PL} (X : mdX G sc ar m h0 h) (hP : mdP sc ar P) {a : Int} (ha : r32 a) (c : ¬ cntN P a P.length ≠ 0) (ht : sc 0 = 0) : Does G mX8_isEmpty [.ref m, .int (iN a)] h (fld G sc ar m h0 2) := by
  have e8 := cntN_le P a P.length
  have e2 := hP.2.1
  intro z
  refine run_of rfl plX8 rfl ?_
  refine e_aload_n dX8_isEmpty_0 rfl ?_
  refine e_aload_n dX8_isEmpty_1 rfl ?_
  refine e_iload_n dX8_isEmpty_2 rfl ?_
  refine e_pureV qcX8_122 X.obj rfl rfl (S_many X hP ha) rfl rfl rfl rfl dX8_isEmpty_3 ?_
  refine e_if_le (tgt := 13) ⟨by omega, by omega⟩ dX8_isEmpty_6 rfl (fun c_6 => ?_) (fun c_6 => ?_)
  · refine e_iconst dX8_isEmpty_13 ?_
    refine e_top (bP (cntN P a P.length ≠ 0)) (bP_f ((fun w => by omega))).symm ?_
    refine e_iconst dX8_isEmpty_14 ?_
    refine e_doesV qcX8_104 X.obj rfl rfl (S_fails_f X c ht ⟨by decide, by decide⟩) rfl rfl rfl rfl dX8_isEmpty_15 ?_
    intro v h9 q9
    obtain ⟨rfl, X⟩ := q9
    refine e_zret rfl (by first | exact Or.inl rfl | exact Or.inr rfl | exact bP_01 _) dX8_isEmpty_18 (by decide) (by decide) ?_
    exact ⟨_, rfl, rfl, rfl, X⟩
  · refine e_iconst dX8_isEmpty_9 ?_
    refine e_top (bP (cntN P a P.length ≠ 0)) (bP_t ((by omega : cntN P a P.length ≠ 0))).symm ?_
    refine e_goto (tgt := 14) dX8_isEmpty_10 rfl ?_
    refine e_iconst dX8_isEmpty_14 ?_
    refine e_doesV qcX8_104 X.obj rfl rfl (S_fails_f X c ht ⟨by decide, by decide⟩) rfl rfl rfl rfl dX8_isEmpty_15 ?_
    intro v h9 q9
    obtain ⟨rfl, X⟩ := q9
    refine e_zret rfl (by first | exact Or.inl rfl | exact Or.inr rfl | exact bP_01 _) dX8_isEmpty_18 (by decide) (by decide) ?_
    exact ⟨_, rfl, rfl, rfl, X⟩
set_option maxRecDepth 20000 in
theorem S_noHeaps_t {P : PL} (X : mdX G sc ar m h0 h) (hP : mdP sc ar P) {a b1 : Int} (ha : r32 a) (hb : r32 b1) (c : hp2 a b1) (d : fl2 P a b1) (ht : sc 0 = 0) : Pure G mX8_noHeaps [.ref m, .int (iN a), .int (iN b1)] h (.int (iN 0)) := by
  obtain ⟨ca, cb⟩ := c
  obtain ⟨da, db⟩ := d
  intro z
  refine run_of rfl plX8 rfl ?_
  refine e_aload_n dX8_noHeaps_0 rfl ?_
  refine e_iload_n dX8_noHeaps_1 rfl ?_
  refine e_pureV qcX8_111 X.obj rfl rfl (S_noHeap_t X ha ca ht) rfl rfl rfl rfl dX8_noHeaps_2 ?_
  refine e_if_ne (tgt := 32) ⟨by decide, by decide⟩ dX8_noHeaps_5 rfl (fun c_5 => absurd rfl c_5) (fun c_5 => ?_)
  refine e_aload_n dX8_noHeaps_8 rfl ?_
  refine e_iload_n dX8_noHeaps_9 rfl ?_
  refine e_pureV qcX8_111 X.obj rfl rfl (S_noHeap_t X hb cb ht) rfl rfl rfl rfl dX8_noHeaps_10 ?_
  refine e_if_ne (tgt := 32) ⟨by decide, by decide⟩ dX8_noHeaps_13 rfl (fun c_13 => absurd rfl c_13) (fun c_13 => ?_)
  refine e_aload_n dX8_noHeaps_16 rfl ?_
  refine e_iload_n dX8_noHeaps_17 rfl ?_
  refine e_pureV qcX8_153 X.obj rfl rfl (S_isEmpty_t X hP ha da ht) rfl rfl rfl rfl dX8_noHeaps_18 ?_
  refine e_if_ne (tgt := 32) ⟨by decide, by decide⟩ dX8_noHeaps_21 rfl (fun c_21 => absurd rfl c_21) (fun c_21 => ?_)
  refine e_aload_n dX8_noHeaps_24 rfl ?_
  refine e_iload_n dX8_noHeaps_25 rfl ?_
  refine e_pureV qcX8_153 X.obj rfl rfl (S_isEmpty_t X hP hb db ht) rfl rfl rfl rfl dX8_noHeaps_26 ?_
  refine e_if_eq (tgt := 36) ⟨by decide, by decide⟩ dX8_noHeaps_29 rfl (fun c_29 => ?_) (fun c_29 => absurd rfl c_29)
  refine e_iconst dX8_noHeaps_36 ?_
  refine e_zret rfl (by first | exact Or.inl rfl | exact Or.inr rfl | exact bP_01 _) dX8_noHeaps_37 (by decide) (by decide) ?_
  exact ⟨rfl, rfl, rfl⟩
set_option maxRecDepth 20000 in
theorem S_noHeaps_f1 {P : PL} (X : mdX G sc ar m h0 h) (hP : mdP sc ar P) {a b1 : Int} (ha : r32 a) (hb : r32 b1) (c : ¬ hp2 a b1) (ht : sc 0 = 0) : Does G mX8_noHeaps [.ref m, .int (iN a), .int (iN b1)] h (fld G sc ar m h0 1) := by
  intro z
  refine run_of rfl plX8 rfl ?_
  by_cases ca : hpOK a
  · have cb : ¬ hpOK b1 := fun w => c ⟨ca, w⟩
    refine e_aload_n dX8_noHeaps_0 rfl ?_
    refine e_iload_n dX8_noHeaps_1 rfl ?_
    refine e_pureV qcX8_111 X.obj rfl rfl (S_noHeap_t X ha ca ht) rfl rfl rfl rfl dX8_noHeaps_2 ?_
    refine e_if_ne (tgt := 32) ⟨by decide, by decide⟩ dX8_noHeaps_5 rfl (fun c_5 => absurd rfl c_5) (fun c_5 => ?_)
    refine e_aload_n dX8_noHeaps_8 rfl ?_
    refine e_iload_n dX8_noHeaps_9 rfl ?_
    refine e_doesV qcX8_111 X.obj rfl rfl (S_noHeap_f X hb cb ht) rfl rfl rfl rfl dX8_noHeaps_10 ?_
    intro v h9 q9
    obtain ⟨rfl, X⟩ := q9
    refine e_if_ne (tgt := 32) ⟨by decide, by decide⟩ dX8_noHeaps_13 rfl (fun c_13 => ?_) (fun c_13 => absurd (by decide) c_13)
    refine e_iconst dX8_noHeaps_32 ?_
    refine e_goto (tgt := 37) dX8_noHeaps_33 rfl ?_
    refine e_zret rfl (by first | exact Or.inl rfl | exact Or.inr rfl | exact bP_01 _) dX8_noHeaps_37 (by decide) (by decide) ?_
    exact ⟨_, rfl, rfl, rfl, X⟩
  refine e_aload_n dX8_noHeaps_0 rfl ?_
  refine e_iload_n dX8_noHeaps_1 rfl ?_
  refine e_doesV qcX8_111 X.obj rfl rfl (S_noHeap_f X ha ca ht) rfl rfl rfl rfl dX8_noHeaps_2 ?_
  intro v h9 q9
  obtain ⟨rfl, X⟩ := q9
  refine e_if_ne (tgt := 32) ⟨by decide, by decide⟩ dX8_noHeaps_5 rfl (fun c_5 => ?_) (fun c_5 => absurd (by decide) c_5)
  refine e_iconst dX8_noHeaps_32 ?_
  refine e_goto (tgt := 37) dX8_noHeaps_33 rfl ?_
  refine e_zret rfl (by first | exact Or.inl rfl | exact Or.inr rfl | exact bP_01 _) dX8_noHeaps_37 (by decide) (by decide) ?_
  exact ⟨_, rfl, rfl, rfl, X⟩
set_option maxRecDepth 20000 in
theorem S_noHeaps_f2 {P : PL} (X : mdX G sc ar m h0 h) (hP : mdP sc ar P) {a b1 : Int} (ha : r32 a) (hb : r32 b1) (c : hp2 a b1) (d : ¬ fl2 P a b1) (ht : sc 0 = 0) : Does G mX8_noHeaps [.ref m, .int (iN a), .int (iN b1)] h (fld G sc ar m h0 2) := by
  intro z
  refine run_of rfl plX8 rfl ?_
  obtain ⟨ca, cb⟩ := c
  by_cases da : cntN P a P.length ≠ 0
  · have db : ¬ cntN P b1 P.length ≠ 0 := fun w => d ⟨da, w⟩
    refine e_aload_n dX8_noHeaps_0 rfl ?_
    refine e_iload_n dX8_noHeaps_1 rfl ?_
    refine e_pureV qcX8_111 X.obj rfl rfl (S_noHeap_t X ha ca ht) rfl rfl rfl rfl dX8_noHeaps_2 ?_
    refine e_if_ne (tgt := 32) ⟨by decide, by decide⟩ dX8_noHeaps_5 rfl (fun c_5 => absurd rfl c_5) (fun c_5 => ?_)
    refine e_aload_n dX8_noHeaps_8 rfl ?_
    refine e_iload_n dX8_noHeaps_9 rfl ?_
    refine e_pureV qcX8_111 X.obj rfl rfl (S_noHeap_t X hb cb ht) rfl rfl rfl rfl dX8_noHeaps_10 ?_
    refine e_if_ne (tgt := 32) ⟨by decide, by decide⟩ dX8_noHeaps_13 rfl (fun c_13 => absurd rfl c_13) (fun c_13 => ?_)
    refine e_aload_n dX8_noHeaps_16 rfl ?_
    refine e_iload_n dX8_noHeaps_17 rfl ?_
    refine e_pureV qcX8_153 X.obj rfl rfl (S_isEmpty_t X hP ha da ht) rfl rfl rfl rfl dX8_noHeaps_18 ?_
    refine e_if_ne (tgt := 32) ⟨by decide, by decide⟩ dX8_noHeaps_21 rfl (fun c_21 => absurd rfl c_21) (fun c_21 => ?_)
    refine e_aload_n dX8_noHeaps_24 rfl ?_
    refine e_iload_n dX8_noHeaps_25 rfl ?_
    refine e_doesV qcX8_153 X.obj rfl rfl (S_isEmpty_f X hP hb db ht) rfl rfl rfl rfl dX8_noHeaps_26 ?_
    intro v h9 q9
    obtain ⟨rfl, X⟩ := q9
    refine e_if_eq (tgt := 36) ⟨by decide, by decide⟩ dX8_noHeaps_29 rfl (fun c_29 => absurd c_29 (by decide)) (fun c_29 => ?_)
    refine e_iconst dX8_noHeaps_32 ?_
    refine e_goto (tgt := 37) dX8_noHeaps_33 rfl ?_
    refine e_zret rfl (by first | exact Or.inl rfl | exact Or.inr rfl | exact bP_01 _) dX8_noHeaps_37 (by decide) (by decide) ?_
    exact ⟨_, rfl, rfl, rfl, X⟩
  refine e_aload_n dX8_noHeaps_0 rfl ?_
  refine e_iload_n dX8_noHeaps_1 rfl ?_
  refine e_pureV qcX8_111 X.obj rfl rfl (S_noHeap_t X ha ca ht) rfl rfl rfl rfl dX8_noHeaps_2 ?_
  refine e_if_ne (tgt := 32) ⟨by decide, by decide⟩ dX8_noHeaps_5 rfl (fun c_5 => absurd rfl c_5) (fun c_5 => ?_)
  refine e_aload_n dX8_noHeaps_8 rfl ?_
  refine e_iload_n dX8_noHeaps_9 rfl ?_
  refine e_pureV qcX8_111 X.obj rfl rfl (S_noHeap_t X hb cb ht) rfl rfl rfl rfl dX8_noHeaps_10 ?_
  refine e_if_ne (tgt := 32) ⟨by decide, by decide⟩ dX8_noHeaps_13 rfl (fun c_13 => absurd rfl c_13) (fun c_13 => ?_)
  refine e_aload_n dX8_noHeaps_16 rfl ?_
  refine e_iload_n dX8_noHeaps_17 rfl ?_
  refine e_doesV qcX8_153 X.obj rfl rfl (S_isEmpty_f X hP ha da ht) rfl rfl rfl rfl dX8_noHeaps_18 ?_
  intro v h9 q9
  obtain ⟨rfl, X⟩ := q9
  refine e_if_ne (tgt := 32) ⟨by decide, by decide⟩ dX8_noHeaps_21 rfl (fun c_21 => ?_) (fun c_21 => absurd (by decide) c_21)
  refine e_iconst dX8_noHeaps_32 ?_
  refine e_goto (tgt := 37) dX8_noHeaps_33 rfl ?_
  refine e_zret rfl (by first | exact Or.inl rfl | exact Or.inr rfl | exact bP_01 _) dX8_noHeaps_37 (by decide) (by decide) ?_
  exact ⟨_, rfl, rfl, rfl, X⟩
set_option maxRecDepth 20000 in
theorem S_noCorner_t {S : Nat → PL} (X : mdX G sc ar m h0 h) (hS : mdS ar S) {g k : Int} (hg : r32 g) (hk : r32 k) (c : pgOK g) (d : crOK (S g.toNat) k) (ht : sc 0 = 0) : Pure G mX8_noCorner [.ref m, .int (iN g), .int (iN k)] h (.int (iN 0)) := by
  have hg1 := hg.1
  have hg2 := hg.2
  have hk1 := hk.1
  have hk2 := hk.2
  obtain ⟨n, rfl⟩ : ∃ n : Nat, g = (n : Int) := ⟨g.toNat, by omega⟩
  obtain ⟨s1, s2, s3, s4⟩ := hS n (by omega)
  have d1 : 0 ≤ k := d.1
  have d2 : k < (S n).length := d.2
  intro z
  refine run_of rfl plX8 rfl ?_
  refine e_aload_n dX8_noCorner_0 rfl ?_
  refine e_iload_n dX8_noCorner_1 rfl ?_
  refine e_pureV qcX8_195 X.obj rfl rfl (S_noPolygon_t X hg c ht) rfl rfl rfl rfl dX8_noCorner_2 ?_
  refine e_if_ne (tgt := 29) ⟨by decide, by decide⟩ dX8_noCorner_5 rfl (fun c_5 => absurd rfl c_5) (fun c_5 => ?_)
  refine e_aload_n dX8_noCorner_8 rfl ?_
  refine e_iload_n dX8_noCorner_9 rfl ?_
  refine e_iconst dX8_noCorner_10 ?_
  refine e_aload_n dX8_noCorner_11 rfl ?_
  refine e_getf fX8_48 X.obj rfl dX8_noCorner_12 ?_
  refine e_iload_n dX8_noCorner_15 rfl ?_
  refine e_ial X.a11 (by omega) (by omega) rfl s1 dX8_noCorner_16 ?_
  refine e_iconst dX8_noCorner_17 ?_
  refine e_isub dX8_noCorner_18 ?_
  refine e_pureS qcX8_96 (S_min hk ⟨by decide, by decide⟩ ⟨by omega, by omega⟩) rfl rfl rfl rfl dX8_noCorner_19 ?_
  refine e_iconst dX8_noCorner_22 ?_
  refine e_pureV qcX8_104 X.obj rfl rfl (S_fails_t X (p := 0 ≤ k ∧ k ≤ ((S n).length : Int) - 1) (by omega) ht) rfl rfl rfl rfl dX8_noCorner_23 ?_
  refine e_if_eq (tgt := 33) ⟨by decide, by decide⟩ dX8_noCorner_26 rfl (fun c_26 => ?_) (fun c_26 => absurd rfl c_26)
  refine e_iconst dX8_noCorner_33 ?_
  refine e_zret rfl (by first | exact Or.inl rfl | exact Or.inr rfl | exact bP_01 _) dX8_noCorner_34 (by decide) (by decide) ?_
  exact ⟨rfl, rfl, rfl⟩
set_option maxRecDepth 20000 in
theorem S_noCorner_f1 (X : mdX G sc ar m h0 h) {g k : Int} (hg : r32 g) (hk : r32 k) (c : ¬ pgOK g) (ht : sc 0 = 0) : Does G mX8_noCorner [.ref m, .int (iN g), .int (iN k)] h (fld G sc ar m h0 1) := by
  intro z
  refine run_of rfl plX8 rfl ?_
  refine e_aload_n dX8_noCorner_0 rfl ?_
  refine e_iload_n dX8_noCorner_1 rfl ?_
  refine e_doesV qcX8_195 X.obj rfl rfl (S_noPolygon_f X hg c ht) rfl rfl rfl rfl dX8_noCorner_2 ?_
  intro v h9 q9
  obtain ⟨rfl, X⟩ := q9
  refine e_if_ne (tgt := 29) ⟨by decide, by decide⟩ dX8_noCorner_5 rfl (fun c_5 => ?_) (fun c_5 => absurd (by decide) c_5)
  refine e_iconst dX8_noCorner_29 ?_
  refine e_goto (tgt := 34) dX8_noCorner_30 rfl ?_
  refine e_zret rfl (by first | exact Or.inl rfl | exact Or.inr rfl | exact bP_01 _) dX8_noCorner_34 (by decide) (by decide) ?_
  exact ⟨_, rfl, rfl, rfl, X⟩
set_option maxRecDepth 20000 in
theorem S_noCorner_f2 {S : Nat → PL} (X : mdX G sc ar m h0 h) (hS : mdS ar S) {g k : Int} (hg : r32 g) (hk : r32 k) (c : pgOK g) (d : ¬ crOK (S g.toNat) k) (ht : sc 0 = 0) : Does G mX8_noCorner [.ref m, .int (iN g), .int (iN k)] h (fld G sc ar m h0 2) := by
  have hg1 := hg.1
  have hg2 := hg.2
  have hk1 := hk.1
  have hk2 := hk.2
  obtain ⟨n, rfl⟩ : ∃ n : Nat, g = (n : Int) := ⟨g.toNat, by omega⟩
  obtain ⟨s1, s2, s3, s4⟩ := hS n (by omega)
  have d1 : ¬ (0 ≤ k ∧ k < (S n).length) := d
  intro z
  refine run_of rfl plX8 rfl ?_
  refine e_aload_n dX8_noCorner_0 rfl ?_
  refine e_iload_n dX8_noCorner_1 rfl ?_
  refine e_pureV qcX8_195 X.obj rfl rfl (S_noPolygon_t X hg c ht) rfl rfl rfl rfl dX8_noCorner_2 ?_
  refine e_if_ne (tgt := 29) ⟨by decide, by decide⟩ dX8_noCorner_5 rfl (fun c_5 => absurd rfl c_5) (fun c_5 => ?_)
  refine e_aload_n dX8_noCorner_8 rfl ?_
  refine e_iload_n dX8_noCorner_9 rfl ?_
  refine e_iconst dX8_noCorner_10 ?_
  refine e_aload_n dX8_noCorner_11 rfl ?_
  refine e_getf fX8_48 X.obj rfl dX8_noCorner_12 ?_
  refine e_iload_n dX8_noCorner_15 rfl ?_
  refine e_ial X.a11 (by omega) (by omega) rfl s1 dX8_noCorner_16 ?_
  refine e_iconst dX8_noCorner_17 ?_
  refine e_isub dX8_noCorner_18 ?_
  refine e_pureS qcX8_96 (S_min hk ⟨by decide, by decide⟩ ⟨by omega, by omega⟩) rfl rfl rfl rfl dX8_noCorner_19 ?_
  refine e_iconst dX8_noCorner_22 ?_
  refine e_doesV qcX8_104 X.obj rfl rfl (S_fails_f X (p := 0 ≤ k ∧ k ≤ ((S n).length : Int) - 1) (by omega) ht ⟨by decide, by decide⟩) rfl rfl rfl rfl dX8_noCorner_23 ?_
  intro v h9 q9
  obtain ⟨rfl, X⟩ := q9
  refine e_if_eq (tgt := 33) ⟨by decide, by decide⟩ dX8_noCorner_26 rfl (fun c_26 => absurd c_26 (by decide)) (fun c_26 => ?_)
  refine e_iconst dX8_noCorner_29 ?_
  refine e_goto (tgt := 34) dX8_noCorner_30 rfl ?_
  refine e_zret rfl (by first | exact Or.inl rfl | exact Or.inr rfl | exact bP_01 _) dX8_noCorner_34 (by decide) (by decide) ?_
  exact ⟨_, rfl, rfl, rfl, X⟩
theorem mdQ.add {sc : Nat → Int} {ar : Nat → Nat → Int} {Q : PL} (hQ : mdQ sc ar Q) (hl : Q.length < 3700) {x y : Int} (hx : -400 ≤ x ∧ x ≤ 400) (hy : -400 ≤ y ∧ y ≤ 400) : mdQ (uI sc 7 ((Q.length : Int) + 1)) (uA (uA ar 3 (uI (ar 3) Q.length x)) 4 (uI (ar 4) Q.length y)) (Q ++ [(x, y, 0)]) := by
  obtain ⟨q1, q2, q3, q4⟩ := hQ
  have el : (Q ++ [(x, y, 0)]).length = Q.length + 1 := by rw [List.length_append, List.length_singleton]
  refine ⟨by rw [el]; rfl, by omega, fun i hi => ?_, fun k hk => ?_⟩
  · rw [el] at hi
    by_cases c : i < Q.length
    · obtain ⟨a1, a2, -⟩ := (pX_app (L := Q) (p := (x, y, 0)) (i := i)).1 c
      rw [a1, a2]
      exact q3 i c
    · obtain ⟨a1, a2, -⟩ := (pX_app (L := Q) (p := (x, y, 0)) (i := i)).2 (by omega)
      rw [a1, a2]
      exact ⟨hx, hy⟩
  · rw [el] at hk
    show uI (ar 3) Q.length x k = _ ∧ uI (ar 4) Q.length y k = _
    by_cases c : k < Q.length
    · obtain ⟨a1, a2, -⟩ := (pX_app (L := Q) (p := (x, y, 0)) (i := k)).1 c
      rw [a1, a2, uI_n _ _ (by omega), uI_n _ _ (by omega)]
      exact q4 k c
    · have e : k = Q.length := by omega
      obtain ⟨a1, a2, -⟩ := (pX_app (L := Q) (p := (x, y, 0)) (i := k)).2 e
      rw [a1, a2, e, uI_s, uI_s]
      exact ⟨rfl, rfl⟩
set_option maxRecDepth 20000 in
theorem S_lays {Q : PL} (X : mdX G sc ar m h0 h) (hQ : mdQ sc ar Q) (hl : Q.length < 3700) {x y : Int} (hx : -400 ≤ x ∧ x ≤ 400) (hy : -400 ≤ y ∧ y ≤ 400) : Does G mX8_lays [.ref m, .int (iN x), .int (iN y)] h (fun v h1 => v = none ∧ ∃ sc2 ar2, mdX G sc2 ar2 m h0 h1 ∧ mdQ sc2 ar2 (Q ++ [(x, y, 0)]) ∧ agr [7] [3, 4] sc ar sc2 ar2) := by
  have q1 := hQ.1
  intro z
  refine run_of rfl plX8 rfl ?_
  refine e_aload_n dX8_lays_0 rfl ?_
  refine e_getf fX8_23 X.obj rfl dX8_lays_1 ?_
  refine e_aload_n dX8_lays_4 rfl ?_
  refine e_getf fX8_136 X.obj rfl dX8_lays_5 ?_
  rw [q1]
  refine e_iload_n dX8_lays_8 rfl ?_
  refine e_iastore X.a3 (by omega) (by omega) rfl dX8_lays_9 ?_
  refine X.sto3 (fun h9 X9 => ?_)
  replace X := X9
  clear X9
  refine e_aload_n dX8_lays_10 rfl ?_
  refine e_getf fX8_26 X.obj rfl dX8_lays_11 ?_
  refine e_aload_n dX8_lays_14 rfl ?_
  refine e_getf fX8_136 X.obj rfl dX8_lays_15 ?_
  rw [show sc 7 = (Q.length : Int) from q1]
  refine e_iload_n dX8_lays_18 rfl ?_
  refine e_iastore X.a4 (by omega) (by omega) rfl dX8_lays_19 ?_
  refine X.sto4 (fun h9 X9 => ?_)
  replace X := X9
  clear X9
  refine e_aload_n dX8_lays_20 rfl ?_
  refine e_dup dX8_lays_21 rfl ?_
  refine e_getf fX8_136 X.obj rfl dX8_lays_22 ?_
  rw [show sc 7 = (Q.length : Int) from q1]
  refine e_iconst dX8_lays_25 ?_
  refine e_iadd dX8_lays_26 ?_
  refine e_putf pfX8_136 X.obj rfl rfl rfl dX8_lays_27 ?_
  refine X.pto (q := 7) (fun h9 X9 => ?_) rfl
  replace X := X9
  clear X9
  refine e_vret rfl dX8_lays_30 (by decide) (by decide) ?_
  exact ⟨none, rfl, rfl, rfl, _, _, X, hQ.add hl hx hy, ((agr.rf.pj (by decide)).pj (by decide)).pk (by decide)⟩
/-- the points of a heap among the first n, as they came -/
def lhN (P : PL) (a : Int) : Nat → PL
  | 0 => []
  | n + 1 => if pM P n = a then lhN P a n ++ [(pX P n, pY P n, 0)] else lhN P a n
theorem lhN_le (P : PL) (a : Int) : ∀ n, (lhN P a n).length ≤ n
  | 0 => Nat.le_refl _
  | n + 1 => by
    have := lhN_le P a n
    unfold lhN
    split
    · rw [List.length_append, List.length_singleton]; omega
    · omega
theorem mdQ.to {sc sc' : Nat → Int} {ar ar' : Nat → Nat → Int} {Q : PL} (x : mdQ sc ar Q) (h1 : sc' 7 = sc 7) (h3 : ar' 3 = ar 3) (h4 : ar' 4 = ar 4) : mdQ sc' ar' Q := by
  unfold mdQ
  rw [h1, h3, h4]
  exact x
set_option maxRecDepth 20000 in
theorem lh_loop {z : Option Nat} {P Q : PL} {a : Int} (ha : r32 a) (hl : Q.length + 60 ≤ 3700) : ∀ (n i : Nat) (sc1 : Nat → Int) (ar1 : Nat → Nat → Int) (h : g_hp), mdX G sc1 ar1 m h0 h → mdP sc1 ar1 P → mdQ sc1 ar1 (Q ++ lhN P a i) → agr [7] [3, 4] sc ar sc1 ar1 → i + n = P.length → Ev (g_B G mX8_laysHeap 0 0 (fun o z1 h1 => ∃ v, o = .inl v ∧ z1 = z ∧ (v = none ∧ ∃ sc2 ar2, mdX G sc2 ar2 m h0 h1 ∧ mdQ sc2 ar2 (Q ++ lhN P a P.length) ∧ agr [7] [3, 4] sc ar sc2 ar2))) 0 0 z h 2 [(2, .int (iN (i : Nat))), (0, .ref m), (1, .int (iN a))] [] := by
  have ha1 := ha.1
  have ha2 := ha.2
  intro n
  induction n with
  | zero =>
    intro i sc1 ar1 h X hP hQ hA hin
    obtain ⟨e1, e2, e3, e4⟩ := hP
    have e9 : i = P.length := by omega
    rw [e9] at hQ
    refine e_iload_n dX8_laysHeap_2 rfl ?_
    refine e_aload_n dX8_laysHeap_3 rfl ?_
    refine e_getf fX8_108 X.obj rfl dX8_laysHeap_4 ?_
    rw [e1]
    refine e_icmp_ge (tgt := 42) ⟨by omega, by omega⟩ ⟨by omega, by omega⟩ dX8_laysHeap_7 rfl (fun c_7 => ?_) (fun c_7 => absurd (by omega) c_7)
    refine e_vret rfl dX8_laysHeap_42 (by decide) (by decide) ?_
    exact ⟨none, rfl, rfl, rfl, _, _, X, hQ, hA⟩
  | succ n ih =>
    intro i sc1 ar1 h X hP hQ hA hin
    obtain ⟨e1, e2, e3, e4⟩ := id hP
    have hi : i < P.length := by omega
    have hb := e3.at hi
    have hk := lhN_le P a i
    refine e_iload_n dX8_laysHeap_2 rfl ?_
    refine e_aload_n dX8_laysHeap_3 rfl ?_
    refine e_getf fX8_108 X.obj rfl dX8_laysHeap_4 ?_
    rw [e1]
    refine e_icmp_ge (tgt := 42) ⟨by omega, by omega⟩ ⟨by omega, by omega⟩ dX8_laysHeap_7 rfl (fun c_7 => absurd c_7 (by omega)) (fun c_7 => ?_)
    refine e_aload_n dX8_laysHeap_10 rfl ?_
    refine e_getf fX8_13 X.obj rfl dX8_laysHeap_11 ?_
    refine e_iload_n dX8_laysHeap_14 rfl ?_
    refine e_ial X.a0 (by omega) (by omega) rfl (e4 i hi).1 dX8_laysHeap_15 ?_
    refine e_iload_n dX8_laysHeap_16 rfl ?_
    refine e_icmp_ne (tgt := 36) ⟨by omega, by omega⟩ ⟨by omega, by omega⟩ dX8_laysHeap_17 rfl (fun c_17 => ?_) (fun c_17 => ?_)
    · have e6 : lhN P a (i + 1) = lhN P a i := if_neg c_17
      refine e_iinc dX8_laysHeap_36 rfl ?_
      refine e_goto (tgt := 2) dX8_laysHeap_39 rfl ?_
      exact e_loc [(2, .int (iN (i + 1 : Nat))), (0, .ref m), (1, .int (iN a))] ⟨rfl, rfl, rfl, trivial⟩ (ih (i + 1) _ _ _ X hP (by rw [e6]; first | exact hQ | (rw [← List.append_assoc]; exact hQ)) hA (by omega))
    · have e6 : lhN P a (i + 1) = lhN P a i ++ [(pX P i, pY P i, 0)] := if_pos (Decidable.of_not_not c_17)
      refine e_aload_n dX8_laysHeap_20 rfl ?_
      refine e_aload_n dX8_laysHeap_21 rfl ?_
      refine e_getf fX8_17 X.obj rfl dX8_laysHeap_22 ?_
      refine e_iload_n dX8_laysHeap_25 rfl ?_
      refine e_ial X.a1 (by omega) (by omega) rfl (e4 i hi).2.1 dX8_laysHeap_26 ?_
      refine e_aload_n dX8_laysHeap_27 rfl ?_
      refine e_getf fX8_20 X.obj rfl dX8_laysHeap_28 ?_
      refine e_iload_n dX8_laysHeap_31 rfl ?_
      refine e_ial X.a2 (by omega) (by omega) rfl (e4 i hi).2.2 dX8_laysHeap_32 ?_
      refine e_doesV qcX8_139 X.obj rfl rfl (S_lays X hQ (by rw [List.length_append]; omega) ⟨by omega, by omega⟩ ⟨by omega, by omega⟩) rfl rfl rfl rfl dX8_laysHeap_33 ?_
      intro v h9 q9
      obtain ⟨rfl, sc2, ar2, X, hQ, hB⟩ := q9
      replace hP := hP.to (hB.wk (by decide) (by decide))
      replace hA := hA.tr hB
      refine e_iinc dX8_laysHeap_36 rfl ?_
      refine e_goto (tgt := 2) dX8_laysHeap_39 rfl ?_
      exact e_loc [(2, .int (iN (i + 1 : Nat))), (0, .ref m), (1, .int (iN a))] ⟨rfl, rfl, rfl, trivial⟩ (ih (i + 1) _ _ _ X hP (by rw [e6]; first | exact hQ | (rw [← List.append_assoc]; exact hQ)) hA (by omega))
set_option maxRecDepth 20000 in
theorem S_laysHeap {P Q : PL} (X : mdX G sc ar m h0 h) (hP : mdP sc ar P) (hQ : mdQ sc ar Q) (hl : Q.length + 60 ≤ 3700) {a : Int} (ha : r32 a) : Does G mX8_laysHeap [.ref m, .int (iN a)] h (fun v h1 => v = none ∧ ∃ sc2 ar2, mdX G sc2 ar2 m h0 h1 ∧ mdQ sc2 ar2 (Q ++ lhN P a P.length) ∧ agr [7] [3, 4] sc ar sc2 ar2) := by
  intro z
  refine run_of rfl plX8 rfl ?_
  refine e_iconst dX8_laysHeap_0 ?_
  refine e_istore_n dX8_laysHeap_1 rfl ?_
  exact e_loc [(2, .int (iN (0 : Nat))), (0, .ref m), (1, .int (iN a))] ⟨rfl, rfl, rfl, trivial⟩ (lh_loop ha hl _ 0 _ _ _ X hP (by rw [show Q ++ lhN P a 0 = Q from List.append_nil Q]; exact hQ) agr.rf (Nat.zero_add _))
abbrev farQ (Q : PL) (i j : Nat) : Int := ((pX Q i - pX Q j).natAbs : Int) + ((pY Q i - pY Q j).natAbs : Int)
set_option maxRecDepth 20000 in
theorem S_far {Q : PL} (X : mdX G sc ar m h0 h) (hQ : mdQ sc ar Q) {i j : Nat} (hi : i < Q.length) (hj : j < Q.length) : Pure G mX8_far [.ref m, .int (iN i), .int (iN j)] h (.int (iN (farQ Q i j))) := by
  obtain ⟨q1, q2, q3, q4⟩ := hQ
  have b1 := q3 i hi
  have b2 := q3 j hj
  intro z
  refine run_of rfl plX8 rfl ?_
  refine e_aload_n dX8_far_0 rfl ?_
  refine e_getf fX8_23 X.obj rfl dX8_far_1 ?_
  refine e_iload_n dX8_far_4 rfl ?_
  refine e_ial X.a3 (by omega) (by omega) rfl (q4 i hi).1 dX8_far_5 ?_
  refine e_aload_n dX8_far_6 rfl ?_
  refine e_getf fX8_23 X.obj rfl dX8_far_7 ?_
  refine e_iload_n dX8_far_10 rfl ?_
  refine e_ial X.a3 (by omega) (by omega) rfl (q4 j hj).1 dX8_far_11 ?_
  refine e_isub dX8_far_12 ?_
  refine e_pureS qcX8_100 (S_amount (v := pX Q i - pX Q j) ⟨by omega, by omega⟩) rfl rfl rfl rfl dX8_far_13 ?_
  refine e_aload_n dX8_far_16 rfl ?_
  refine e_getf fX8_26 X.obj rfl dX8_far_17 ?_
  refine e_iload_n dX8_far_20 rfl ?_
  refine e_ial X.a4 (by omega) (by omega) rfl (q4 i hi).2 dX8_far_21 ?_
  refine e_aload_n dX8_far_22 rfl ?_
  refine e_getf fX8_26 X.obj rfl dX8_far_23 ?_
  refine e_iload_n dX8_far_26 rfl ?_
  refine e_ial X.a4 (by omega) (by omega) rfl (q4 j hj).2 dX8_far_27 ?_
  refine e_isub dX8_far_28 ?_
  refine e_pureS qcX8_100 (S_amount (v := pY Q i - pY Q j) ⟨by omega, by omega⟩) rfl rfl rfl rfl dX8_far_29 ?_
  refine e_iadd dX8_far_32 ?_
  refine e_iret rfl dX8_far_33 (by decide) (by decide) ?_
  exact ⟨rfl, rfl, rfl⟩
end MTHREE
