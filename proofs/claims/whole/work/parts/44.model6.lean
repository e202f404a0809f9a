/-! The reference: calls about points -/
abbrev mZ (G : g_X) (R : Nat × Int) (P E : PL) (S : Nat → PL) (b : Int) (P2 E2 : PL) (S2 : Nat → PL) (F : PL) (m : Nat) (h0 : g_hp) : g_Z := fun oc z1 h1 => z1 = none ∧ oc = .inl (some (.int (iN R.2))) ∧ ∃ sc ar, mdX G sc ar m h0 h1 ∧ mdR sc ar P E S b P2 E2 S2 F ∧ sc 0 = R.1
theorem mz {G : g_X} {k R : Nat × Int} {P E : PL} {S : Nat → PL} {b : Int} {P2 E2 : PL} {S2 : Nat → PL} {F : PL} {m : Nat} {h0 : g_hp} {oc : g_O} {z : Option Nat} {h : g_hp} (e : k = R) (w : mZ G R P E S b P2 E2 S2 F m h0 oc z h) : mZ G k P E S b P2 E2 S2 F m h0 oc z h := e ▸ w
theorem mdR.t0 {sc : Nat → Int} {ar : Nat → Nat → Int} {P E : PL} {S : Nat → PL} {b : Int} {P2 E2 : PL} {S2 : Nat → PL} {F : PL} (x : mdR sc ar P E S b P2 E2 S2 F) (v : Int) : mdR (uI sc 0 v) ar P E S b P2 E2 S2 F := x.to (agr.rf.pk (by decide)) x.2.2.2.2

theorem mdP.add {sc : Nat → Int} {ar : Nat → Nat → Int} {P : PL} (x : mdP sc ar P) (hl : P.length < 60) {a u v : Int} (ha : hpOK a) (hn : nrOK u v) {sc' : Nat → Int} {ar' : Nat → Nat → Int} (e4 : sc' 4 = (P.length : Int) + 1) (a0 : ar' 0 = uI (ar 0) P.length a) (a1 : ar' 1 = uI (ar 1) P.length u) (a2 : ar' 2 = uI (ar 2) P.length v) : mdP sc' ar' (P ++ [(u, v, a)]) := by
  obtain ⟨x1, x2, x3, x4⟩ := x
  have el : (P ++ [(u, v, a)]).length = P.length + 1 := by rw [List.length_append, List.length_singleton]
  refine ⟨by rw [el, e4]; rfl, by omega, fun i hi => ?_, fun k hk => ?_⟩
  · rw [el] at hi
    by_cases c : i < P.length
    · obtain ⟨q1, q2, q3⟩ := (pX_app (L := P) (p := (u, v, a)) (i := i)).1 c
      rw [q1, q2, q3]
      exact x3 i c
    · obtain ⟨q1, q2, q3⟩ := (pX_app (L := P) (p := (u, v, a)) (i := i)).2 (by omega)
      rw [q1, q2, q3]
      exact ⟨⟨hn.1, hn.2.1⟩, ⟨hn.2.2.1, hn.2.2.2⟩, by show -1 ≤ a; omega, by show a ≤ 100; omega⟩
  · rw [el] at hk
    rw [a0, a1, a2]
    by_cases c : k < P.length
    · obtain ⟨q1, q2, q3⟩ := (pX_app (L := P) (p := (u, v, a)) (i := k)).1 c
      rw [q1, q2, q3, uI_n _ _ (by omega), uI_n _ _ (by omega), uI_n _ _ (by omega)]
      exact x4 k c
    · have e : k = P.length := by omega
      obtain ⟨q1, q2, q3⟩ := (pX_app (L := P) (p := (u, v, a)) (i := k)).2 e
      rw [q1, q2, q3, e, uI_s, uI_s, uI_s]
      exact ⟨rfl, rfl, rfl⟩
theorem mdP.drop {sc : Nat → Int} {ar : Nat → Nat → Int} {P : PL} (x : mdP sc ar P) {n : Nat} (hn : n < P.length) : mdP sc (uA ar 0 (uI (ar 0) n (-1))) (P.set n (pX P n, pY P n, -1)) := by
  obtain ⟨x1, x2, x3, x4⟩ := x
  refine ⟨by rw [List.length_set]; exact x1, by rw [List.length_set]; exact x2, fun i hi => ?_, fun k hk => ?_⟩
  · rw [List.length_set] at hi
    obtain ⟨q1, q2, q3⟩ := pX_set (j := i) hn (pX P n, pY P n, -1)
    rw [q1, q2, q3]
    unfold uI
    by_cases c : i = n
    · subst c
      simp only [if_true]
      have := x3 i hi
      exact ⟨this.1, this.2.1, by decide, by decide⟩
    · simp only [c, if_false]
      exact x3 i hi
  · rw [List.length_set] at hk
    obtain ⟨q1, q2, q3⟩ := pX_set (j := k) hn (pX P n, pY P n, -1)
    rw [q1, q2, q3]
    show uI (ar 0) n (-1) k = _ ∧ ar 1 k = _ ∧ ar 2 k = _
    have := x4 k hk
    unfold uI
    by_cases c : k = n
    · subst c
      simp only [if_true]
      exact ⟨trivial, this.2⟩
    · simp only [c, if_false]
      exact this
section MSIX
variable {G : g_X} {sc0 : Nat → Int} {ar : Nat → Nat → Int} {m : Nat} {h0 h : g_hp} {P E : PL} {S : Nat → PL} {b : Int} {P2 E2 : PL} {S2 : Nat → PL} {F : PL}
set_option maxRecDepth 20000 in
theorem M_point (X : mdX G sc0 ar m h0 h) (hR : mdR sc0 ar P E S b P2 E2 S2 F) {a : Int} (ra : r32 a) {x : Int} (rx : r32 x) {y : Int} (ry : r32 y) : Run G mX8_point [.ref m, .int (iN a), .int (iN x), .int (iN y)] none h 0 0 (mZ G (k_point P a x y) (s_point P a x y) E S b P2 E2 S2 F m h0) := by
  have ra1 := ra.1
  have ra2 := ra.2
  have rx1 := rx.1
  have rx2 := rx.2
  have ry1 := ry.1
  have ry2 := ry.2
  refine run_of rfl plX8 rfl ?_
  refine e_aload_n dX8_point_0 rfl ?_
  refine e_iconst dX8_point_1 ?_
  refine e_putf pfX8_1 X.obj rfl rfl rfl dX8_point_2 ?_
  refine X.pto (q := 0) (fun h9 X9 => ?_) rfl
  replace X := X9
  clear X9
  replace hR := hR.t0 0
  have ht : uI sc0 0 0 0 = 0 := uI_s _ _ _
  generalize uI sc0 0 0 = sc at X hR ht
  refine e_aload_n dX8_point_5 rfl ?_
  refine e_iload_n dX8_point_6 rfl ?_
  
  by_cases c_7 : hpOK a
  · refine e_pureV qcX8_111 X.obj rfl rfl (S_noHeap_t X ra c_7 ht) rfl rfl rfl rfl dX8_point_7 ?_
    refine e_if_ne (tgt := 48) ⟨by decide, by decide⟩ dX8_point_10 rfl (fun c_10 => absurd rfl c_10) (fun c_10 => ?_)
    refine e_aload_n dX8_point_13 rfl ?_
    refine e_iload_n dX8_point_14 rfl ?_
    refine e_iload_n dX8_point_15 rfl ?_
    refine e_pureS qcX8_115 (S_isPlace rx ry) rfl rfl rfl rfl dX8_point_16 ?_
    refine e_iconst dX8_point_19 ?_
    
    by_cases c_20 : nrOK x y
    · refine e_pureV qcX8_104 X.obj rfl rfl (S_fails_t X c_20 ht) rfl rfl rfl rfl dX8_point_20 ?_
      refine e_if_ne (tgt := 48) ⟨by decide, by decide⟩ dX8_point_23 rfl (fun c_23 => absurd rfl c_23) (fun c_23 => ?_)
      refine e_aload_n dX8_point_26 rfl ?_
      refine e_aload_n dX8_point_27 rfl ?_
      refine e_getf fX8_108 X.obj rfl dX8_point_28 ?_
      have x2 := hR.1.2.1
      have x1 := hR.1.1
      rw [x1]
      refine e_bipush dX8_point_31 (by decide) ?_
      
      by_cases c_33 : P.length < 60
      · refine e_icmp_ge (tgt := 40) ⟨by omega, by omega⟩ ⟨by omega, by omega⟩ dX8_point_33 rfl (fun c_0 => absurd c_0 (by omega)) (fun c_0 => ?_)
        refine e_iconst dX8_point_36 ?_
        refine e_top (bP (P.length < 60)) (bP_t c_33).symm ?_
        refine e_goto (tgt := 41) dX8_point_37 rfl ?_
        refine e_iconst dX8_point_41 ?_
        refine e_pureV qcX8_104 X.obj rfl rfl (S_fails_t X c_33 ht) rfl rfl rfl rfl dX8_point_42 ?_
        refine e_if_eq (tgt := 50) ⟨by decide, by decide⟩ dX8_point_45 rfl (fun c_45 => ?_) (fun c_45 => absurd rfl c_45)
        refine e_aload_n dX8_point_50 rfl ?_
        refine e_getf fX8_13 X.obj rfl dX8_point_51 ?_
        refine e_aload_n dX8_point_54 rfl ?_
        refine e_getf fX8_108 X.obj rfl dX8_point_55 ?_
        rw [x1]
        refine e_iload_n dX8_point_58 rfl ?_
        refine e_iastore X.a0 (by omega) (by omega) rfl dX8_point_59 ?_
        refine X.sto0 (fun h9 X9 => ?_)
        replace X := X9
        clear X9
        refine e_aload_n dX8_point_60 rfl ?_
        refine e_getf fX8_17 X.obj rfl dX8_point_61 ?_
        refine e_aload_n dX8_point_64 rfl ?_
        refine e_getf fX8_108 X.obj rfl dX8_point_65 ?_
        rw [show sc 4 = (P.length : Int) from x1]
        refine e_iload_n dX8_point_68 rfl ?_
        refine e_iastore X.a1 (by omega) (by omega) rfl dX8_point_69 ?_
        refine X.sto1 (fun h9 X9 => ?_)
        replace X := X9
        clear X9
        refine e_aload_n dX8_point_70 rfl ?_
        refine e_getf fX8_20 X.obj rfl dX8_point_71 ?_
        refine e_aload_n dX8_point_74 rfl ?_
        refine e_getf fX8_108 X.obj rfl dX8_point_75 ?_
        rw [show sc 4 = (P.length : Int) from x1]
        refine e_iload_n dX8_point_78 rfl ?_
        refine e_iastore X.a2 (by omega) (by omega) rfl dX8_point_79 ?_
        refine X.sto2 (fun h9 X9 => ?_)
        replace X := X9
        clear X9
        refine e_aload_n dX8_point_80 rfl ?_
        refine e_dup dX8_point_81 rfl ?_
        refine e_getf fX8_108 X.obj rfl dX8_point_82 ?_
        rw [show sc 4 = (P.length : Int) from x1]
        refine e_iconst dX8_point_85 ?_
        refine e_iadd dX8_point_86 ?_
        refine e_putf pfX8_108 X.obj rfl rfl rfl dX8_point_87 ?_
        refine X.pto (q := 4) (fun h9 X9 => ?_) rfl
        replace X := X9
        clear X9
        refine e_aload_n dX8_point_90 rfl ?_
        refine e_getf fX8_108 X.obj rfl dX8_point_91 ?_
        rw [show uI sc 4 ((P.length : Int) + 1) 4 = (P.length : Int) + 1 from rfl]
        refine e_iconst dX8_point_94 ?_
        refine e_isub dX8_point_95 ?_
        rw [show (P.length : Int) + 1 - 1 = (P.length : Int) by omega]
        refine e_iret rfl dX8_point_96 (by decide) (by decide) ?_
        have hP := hR.1.add c_33 (a := a) c_7 c_20 (sc' := uI sc 4 ((P.length : Int) + 1)) (ar' := uA (uA (uA ar 0 (uI (ar 0) P.length a)) 1 (uI (ar 1) P.length x)) 2 (uI (ar 2) P.length y)) rfl rfl rfl rfl
        exact mz (show (k_point P a x y) = (0, (P.length : Int)) from (((if_pos c_7).trans (if_pos c_20)).trans (if_pos c_33))) ⟨rfl, rfl, _, _, X, (by rw [show s_point P a x y = P ++ [(x, y, a)] from if_pos ⟨c_7, c_20, c_33⟩]; exact ⟨hP, hR.2.1, hR.2.2.1, hR.2.2.2.1, hR.2.2.2.2⟩), ht⟩
      refine e_icmp_ge (tgt := 40) ⟨by omega, by omega⟩ ⟨by omega, by omega⟩ dX8_point_33 rfl (fun c_0 => ?_) (fun c_0 => absurd (by omega) c_0)
      refine e_iconst dX8_point_40 ?_
      refine e_top (bP (P.length < 60)) (bP_f c_33).symm ?_
      refine e_iconst dX8_point_41 ?_
      refine e_doesV qcX8_104 X.obj rfl rfl (S_fails_f X c_33 ht ⟨by decide, by decide⟩) rfl rfl rfl rfl dX8_point_42 ?_
      intro v h9 q9
      obtain ⟨rfl, X⟩ := q9
      refine e_if_eq (tgt := 50) ⟨by decide, by decide⟩ dX8_point_45 rfl (fun c_45 => absurd c_45 (by decide)) (fun c_45 => ?_)
      refine e_iconst dX8_point_48 ?_
      refine e_iret rfl dX8_point_49 (by decide) (by decide) ?_
      exact mz (show (k_point P a x y) = (2, 0) from (((if_pos c_7).trans (if_pos c_20)).trans (if_neg c_33))) ⟨rfl, rfl, _, _, X, (by rw [show s_point P a x y = P from if_neg (fun w => absurd w.2.2 c_33)]; exact hR.t0 _), uI_s _ _ _⟩
    refine e_doesV qcX8_104 X.obj rfl rfl (S_fails_f X c_20 ht ⟨by decide, by decide⟩) rfl rfl rfl rfl dX8_point_20 ?_
    intro v h9 q9
    obtain ⟨rfl, X⟩ := q9
    refine e_if_ne (tgt := 48) ⟨by decide, by decide⟩ dX8_point_23 rfl (fun c_23 => ?_) (fun c_23 => absurd (by decide) c_23)
    refine e_iconst dX8_point_48 ?_
    refine e_iret rfl dX8_point_49 (by decide) (by decide) ?_
    exact mz (show (k_point P a x y) = (1, 0) from ((if_pos c_7).trans (if_neg c_20))) ⟨rfl, rfl, _, _, X, (by rw [show s_point P a x y = P from if_neg (fun w => c_20 w.2.1)]; exact hR.t0 _), uI_s _ _ _⟩
  refine e_doesV qcX8_111 X.obj rfl rfl (S_noHeap_f X ra c_7 ht) rfl rfl rfl rfl dX8_point_7 ?_
  intro v h9 q9
  obtain ⟨rfl, X⟩ := q9
  refine e_if_ne (tgt := 48) ⟨by decide, by decide⟩ dX8_point_10 rfl (fun c_10 => ?_) (fun c_10 => absurd (by decide) c_10)
  refine e_iconst dX8_point_48 ?_
  refine e_iret rfl dX8_point_49 (by decide) (by decide) ?_
  exact mz (show (k_point P a x y) = (1, 0) from (if_neg c_7)) ⟨rfl, rfl, _, _, X, (by rw [show s_point P a x y = P from if_neg (fun w => c_7 w.1)]; exact hR.t0 _), uI_s _ _ _⟩
set_option maxRecDepth 20000 in
theorem M_drop (X : mdX G sc0 ar m h0 h) (hR : mdR sc0 ar P E S b P2 E2 S2 F) {a : Int} (ra : r32 a) : Run G mX8_drop [.ref m, .int (iN a)] none h 0 0 (mZ G (k_drop P a) (s_drop P a) E S b P2 E2 S2 F m h0) := by
  have ra1 := ra.1
  have ra2 := ra.2
  refine run_of rfl plX8 rfl ?_
  refine e_aload_n dX8_drop_0 rfl ?_
  refine e_iconst dX8_drop_1 ?_
  refine e_putf pfX8_1 X.obj rfl rfl rfl dX8_drop_2 ?_
  refine X.pto (q := 0) (fun h9 X9 => ?_) rfl
  replace X := X9
  clear X9
  replace hR := hR.t0 0
  have ht : uI sc0 0 0 0 = 0 := uI_s _ _ _
  generalize uI sc0 0 0 = sc at X hR ht
  refine e_aload_n dX8_drop_5 rfl ?_
  refine e_iload_n dX8_drop_6 rfl ?_
  
  by_cases c_7 : isPt P a
  · obtain ⟨n, rfl⟩ : ∃ n : Nat, a = (n : Int) := ⟨a.toNat, by have := c_7.1; omega⟩
    have hn : n < P.length := by have := c_7.2.1; omega
    have hb := (hR.1.2.2.1.at hn).2.2
    have x2 := hR.1.2.1
    refine e_pureV qcX8_119 X.obj rfl rfl (S_noPoint_t X hR.1 ra c_7 ht) rfl rfl rfl rfl dX8_drop_7 ?_
    refine e_if_eq (tgt := 15) ⟨by decide, by decide⟩ dX8_drop_10 rfl (fun c_10 => ?_) (fun c_10 => absurd rfl c_10)
    refine e_aload_n dX8_drop_15 rfl ?_
    refine e_getf fX8_13 X.obj rfl dX8_drop_16 ?_
    refine e_iload_n dX8_drop_19 rfl ?_
    refine e_ial X.a0 (by omega) (by omega) rfl (hR.1.2.2.2 n hn).1 dX8_drop_20 ?_
    refine e_istore_n dX8_drop_21 rfl ?_
    refine e_aload_n dX8_drop_22 rfl ?_
    refine e_getf fX8_13 X.obj rfl dX8_drop_23 ?_
    refine e_iload_n dX8_drop_26 rfl ?_
    refine e_iconst dX8_drop_27 ?_
    refine e_iastore X.a0 (by omega) (by omega) rfl dX8_drop_28 ?_
    refine X.sto0 (fun h9 X9 => ?_)
    replace X := X9
    clear X9
    have hP9 := hR.1.drop hn
    refine e_aload_n dX8_drop_29 rfl ?_
    refine e_iload_n dX8_drop_30 rfl ?_
    refine e_pureV qcX8_122 X.obj rfl rfl (S_many X hP9 (show r32 (pM P n) from ⟨by omega, by omega⟩)) rfl rfl rfl rfl dX8_drop_31 ?_
    refine e_iret rfl dX8_drop_34 (by decide) (by decide) ?_
    have e9 : s_drop P (n : Int) = P.set n (pX P n, pY P n, -1) := if_pos c_7
    exact mz (show (k_drop P (n : Int)) = (0, (cntN (P.set n (pX P n, pY P n, -1)) (pM P n) (P.set n (pX P n, pY P n, -1)).length : Int)) from by rw [← e9]; exact if_pos c_7) ⟨rfl, rfl, _, _, X, (by rw [e9]; exact ⟨hP9, hR.2.1, hR.2.2.1, hR.2.2.2.1, hR.2.2.2.2⟩), ht⟩
  refine e_doesV qcX8_119 X.obj rfl rfl (S_noPoint_f X hR.1 ra c_7 ht) rfl rfl rfl rfl dX8_drop_7 ?_
  intro v h9 q9
  obtain ⟨rfl, X⟩ := q9
  refine e_if_eq (tgt := 15) ⟨by decide, by decide⟩ dX8_drop_10 rfl (fun c_10 => absurd c_10 (by decide)) (fun c_10 => ?_)
  refine e_iconst dX8_drop_13 ?_
  refine e_iret rfl dX8_drop_14 (by decide) (by decide) ?_
  exact mz (show (k_drop P a) = (1, 0) from (if_neg c_7)) ⟨rfl, rfl, _, _, X, (by rw [show s_drop P a = P from if_neg c_7]; exact hR.t0 _), uI_s _ _ _⟩
set_option maxRecDepth 20000 in
theorem M_pointOf (X : mdX G sc0 ar m h0 h) (hR : mdR sc0 ar P E S b P2 E2 S2 F) {a : Int} (ra : r32 a) {w : Int} (rw : r32 w) : Run G mX8_pointOf [.ref m, .int (iN a), .int (iN w)] none h 0 0 (mZ G (k_pointOf P a w) P E S b P2 E2 S2 F m h0) := by
  have ra1 := ra.1
  have ra2 := ra.2
  have rw1 := rw.1
  have rw2 := rw.2
  refine run_of rfl plX8 rfl ?_
  refine e_aload_n dX8_pointOf_0 rfl ?_
  refine e_iconst dX8_pointOf_1 ?_
  refine e_putf pfX8_1 X.obj rfl rfl rfl dX8_pointOf_2 ?_
  refine X.pto (q := 0) (fun h9 X9 => ?_) rfl
  replace X := X9
  clear X9
  replace hR := hR.t0 0
  have ht : uI sc0 0 0 0 = 0 := uI_s _ _ _
  generalize uI sc0 0 0 = sc at X hR ht
  refine e_aload_n dX8_pointOf_5 rfl ?_
  refine e_iload_n dX8_pointOf_6 rfl ?_
  
  by_cases c_7 : isPt P a
  · obtain ⟨n, rfl⟩ : ∃ n : Nat, a = (n : Int) := ⟨a.toNat, by have := c_7.1; omega⟩
    have hn : n < P.length := by have := c_7.2.1; omega
    have x2 := hR.1.2.1
    refine e_pureV qcX8_119 X.obj rfl rfl (S_noPoint_t X hR.1 ra c_7 ht) rfl rfl rfl rfl dX8_pointOf_7 ?_
    refine e_if_ne (tgt := 27) ⟨by decide, by decide⟩ dX8_pointOf_10 rfl (fun c_10 => absurd rfl c_10) (fun c_10 => ?_)
    refine e_aload_n dX8_pointOf_13 rfl ?_
    refine e_iload_n dX8_pointOf_14 rfl ?_
    refine e_iconst dX8_pointOf_15 ?_
    refine e_iconst dX8_pointOf_16 ?_
    refine e_pureS qcX8_96 (S_min rw ⟨by decide, by decide⟩ ⟨by decide, by decide⟩) rfl rfl rfl rfl dX8_pointOf_17 ?_
    refine e_iconst dX8_pointOf_20 ?_
    
    by_cases c_21 : 0 ≤ w ∧ w ≤ 2
    · refine e_pureV qcX8_104 X.obj rfl rfl (S_fails_t X c_21 ht) rfl rfl rfl rfl dX8_pointOf_21 ?_
      refine e_if_eq (tgt := 29) ⟨by decide, by decide⟩ dX8_pointOf_24 rfl (fun c_24 => ?_) (fun c_24 => absurd rfl c_24)
      refine e_iload_n dX8_pointOf_29 rfl ?_
      refine e_if_ne (tgt := 42) ⟨by omega, by omega⟩ dX8_pointOf_30 rfl (fun c_30 => ?_) (fun c_30 => ?_)
      · have v1 : ¬ w = 0 := by omega
        refine e_iload_n dX8_pointOf_42 rfl ?_
        refine e_iconst dX8_pointOf_43 ?_
        refine e_icmp_ne (tgt := 56) ⟨by omega, by omega⟩ ⟨by omega, by omega⟩ dX8_pointOf_44 rfl (fun c_44 => ?_) (fun c_44 => ?_)
        · have v2 : ¬ w = 1 := by omega
          have e6 : (k_pointOf P (n : Int) w) = (0, pY P n) := (((if_pos c_7).trans (if_neg v1)).trans (if_neg v2)).trans (if_pos (by omega))
          refine e_aload_n dX8_pointOf_56 rfl ?_
          refine e_getf fX8_20 X.obj rfl dX8_pointOf_57 ?_
          refine e_iload_n dX8_pointOf_60 rfl ?_
          refine e_ial X.a2 (by omega) (by omega) rfl (hR.1.2.2.2 n hn).2.2 dX8_pointOf_61 ?_
          refine e_iret rfl dX8_pointOf_62 (by decide) (by decide) ?_
          exact mz e6 ⟨rfl, rfl, _, _, X, hR, ht⟩
        · have v2 : w = 1 := by omega
          have e6 : (k_pointOf P (n : Int) w) = (0, pX P n) := ((if_pos c_7).trans (if_neg v1)).trans (if_pos v2)
          refine e_aload_n dX8_pointOf_47 rfl ?_
          refine e_getf fX8_17 X.obj rfl dX8_pointOf_48 ?_
          refine e_iload_n dX8_pointOf_51 rfl ?_
          refine e_ial X.a1 (by omega) (by omega) rfl (hR.1.2.2.2 n hn).2.1 dX8_pointOf_52 ?_
          refine e_goto (tgt := 62) dX8_pointOf_53 rfl ?_
          refine e_iret rfl dX8_pointOf_62 (by decide) (by decide) ?_
          exact mz e6 ⟨rfl, rfl, _, _, X, hR, ht⟩
      · have v1 : w = 0 := by omega
        have e6 : (k_pointOf P (n : Int) w) = (0, pM P n) := (if_pos c_7).trans (if_pos v1)
        refine e_aload_n dX8_pointOf_33 rfl ?_
        refine e_getf fX8_13 X.obj rfl dX8_pointOf_34 ?_
        refine e_iload_n dX8_pointOf_37 rfl ?_
        refine e_ial X.a0 (by omega) (by omega) rfl (hR.1.2.2.2 n hn).1 dX8_pointOf_38 ?_
        refine e_goto (tgt := 62) dX8_pointOf_39 rfl ?_
        refine e_iret rfl dX8_pointOf_62 (by decide) (by decide) ?_
        exact mz e6 ⟨rfl, rfl, _, _, X, hR, ht⟩
    refine e_doesV qcX8_104 X.obj rfl rfl (S_fails_f X c_21 ht ⟨by decide, by decide⟩) rfl rfl rfl rfl dX8_pointOf_21 ?_
    intro v h9 q9
    obtain ⟨rfl, X⟩ := q9
    refine e_if_eq (tgt := 29) ⟨by decide, by decide⟩ dX8_pointOf_24 rfl (fun c_24 => absurd c_24 (by decide)) (fun c_24 => ?_)
    refine e_iconst dX8_pointOf_27 ?_
    refine e_iret rfl dX8_pointOf_28 (by decide) (by decide) ?_
    exact mz (show (k_pointOf P (n : Int) w) = (2, 0) from ((((if_pos c_7).trans (if_neg (by omega))).trans (if_neg (by omega))).trans (if_neg (by omega)))) ⟨rfl, rfl, _, _, X, hR.t0 _, uI_s _ _ _⟩
  refine e_doesV qcX8_119 X.obj rfl rfl (S_noPoint_f X hR.1 ra c_7 ht) rfl rfl rfl rfl dX8_pointOf_7 ?_
  intro v h9 q9
  obtain ⟨rfl, X⟩ := q9
  refine e_if_ne (tgt := 27) ⟨by decide, by decide⟩ dX8_pointOf_10 rfl (fun c_10 => ?_) (fun c_10 => absurd (by decide) c_10)
  refine e_iconst dX8_pointOf_27 ?_
  refine e_iret rfl dX8_pointOf_28 (by decide) (by decide) ?_
  exact mz (show (k_pointOf P a w) = (1, 0) from (if_neg c_7)) ⟨rfl, rfl, _, _, X, hR.t0 _, uI_s _ _ _⟩
set_option maxRecDepth 20000 in
theorem M_count (X : mdX G sc0 ar m h0 h) (hR : mdR sc0 ar P E S b P2 E2 S2 F) {a : Int} (ra : r32 a) : Run G mX8_count [.ref m, .int (iN a)] none h 0 0 (mZ G (k_count P a) P E S b P2 E2 S2 F m h0) := by
  refine run_of rfl plX8 rfl ?_
  refine e_aload_n dX8_count_0 rfl ?_
  refine e_iconst dX8_count_1 ?_
  refine e_putf pfX8_1 X.obj rfl rfl rfl dX8_count_2 ?_
  refine X.pto (q := 0) (fun h9 X9 => ?_) rfl
  replace X := X9
  clear X9
  replace hR := hR.t0 0
  have ht : uI sc0 0 0 0 = 0 := uI_s _ _ _
  generalize uI sc0 0 0 = sc at X hR ht
  refine e_aload_n dX8_count_5 rfl ?_
  refine e_iload_n dX8_count_6 rfl ?_
  
  by_cases c_7 : hpOK a
  · refine e_pureV qcX8_111 X.obj rfl rfl (S_noHeap_t X ra c_7 ht) rfl rfl rfl rfl dX8_count_7 ?_
    refine e_if_eq (tgt := 17) ⟨by decide, by decide⟩ dX8_count_10 rfl (fun c_10 => ?_) (fun c_10 => absurd rfl c_10)
    refine e_aload_n dX8_count_17 rfl ?_
    refine e_iload_n dX8_count_18 rfl ?_
    refine e_pureV qcX8_122 X.obj rfl rfl (S_many X hR.1 ra) rfl rfl rfl rfl dX8_count_19 ?_
    refine e_iret rfl dX8_count_22 (by decide) (by decide) ?_
    exact mz (show (k_count P a) = (0, (cntN P a P.length : Int)) from (if_pos c_7)) ⟨rfl, rfl, _, _, X, hR, ht⟩
  refine e_doesV qcX8_111 X.obj rfl rfl (S_noHeap_f X ra c_7 ht) rfl rfl rfl rfl dX8_count_7 ?_
  intro v h9 q9
  obtain ⟨rfl, X⟩ := q9
  refine e_if_eq (tgt := 17) ⟨by decide, by decide⟩ dX8_count_10 rfl (fun c_10 => absurd c_10 (by decide)) (fun c_10 => ?_)
  refine e_iconst dX8_count_13 ?_
  refine e_goto (tgt := 22) dX8_count_14 rfl ?_
  refine e_iret rfl dX8_count_22 (by decide) (by decide) ?_
  exact mz (show (k_count P a) = (1, 0) from (if_neg c_7)) ⟨rfl, rfl, _, _, X, hR.t0 _, uI_s _ _ _⟩
set_option maxRecDepth 20000 in
theorem M_sorted (X : mdX G sc0 ar m h0 h) (hR : mdR sc0 ar P E S b P2 E2 S2 F) {a : Int} (ra : r32 a) {p : Int} (rp : r32 p) (hm : ∀ q : Nat, q < cntN P a P.length → ptS P a q P.length 0 = pM (putN P a [] P.length) q) : Run G mX8_sorted [.ref m, .int (iN a), .int (iN p)] none h 0 0 (mZ G (k_sorted P a p) P E S b P2 E2 S2 F m h0) := by
  have ra1 := ra.1
  have ra2 := ra.2
  have rp1 := rp.1
  have rp2 := rp.2
  refine run_of rfl plX8 rfl ?_
  refine e_aload_n dX8_sorted_0 rfl ?_
  refine e_iconst dX8_sorted_1 ?_
  refine e_putf pfX8_1 X.obj rfl rfl rfl dX8_sorted_2 ?_
  refine X.pto (q := 0) (fun h9 X9 => ?_) rfl
  replace X := X9
  clear X9
  replace hR := hR.t0 0
  have ht : uI sc0 0 0 0 = 0 := uI_s _ _ _
  generalize uI sc0 0 0 = sc at X hR ht
  refine e_aload_n dX8_sorted_5 rfl ?_
  refine e_iload_n dX8_sorted_6 rfl ?_
  
  by_cases c_7 : hpOK a
  · have e9 := ord_len P a
    have e8 := cntN_le P a P.length
    have e7 := hR.1.2.1
    refine e_pureV qcX8_111 X.obj rfl rfl (S_noHeap_t X ra c_7 ht) rfl rfl rfl rfl dX8_sorted_7 ?_
    refine e_if_ne (tgt := 33) ⟨by decide, by decide⟩ dX8_sorted_10 rfl (fun c_10 => absurd rfl c_10) (fun c_10 => ?_)
    refine e_aload_n dX8_sorted_13 rfl ?_
    refine e_iload_n dX8_sorted_14 rfl ?_
    refine e_iconst dX8_sorted_15 ?_
    refine e_aload_n dX8_sorted_16 rfl ?_
    refine e_iload_n dX8_sorted_17 rfl ?_
    refine e_pureV qcX8_122 X.obj rfl rfl (S_many X hR.1 ra) rfl rfl rfl rfl dX8_sorted_18 ?_
    refine e_iconst dX8_sorted_21 ?_
    refine e_isub dX8_sorted_22 ?_
    refine e_pureS qcX8_96 (S_min rp ⟨by decide, by decide⟩ ⟨by omega, by omega⟩) rfl rfl rfl rfl dX8_sorted_23 ?_
    refine e_iconst dX8_sorted_26 ?_
    
    by_cases c_27 : (0 ≤ p ∧ p ≤ ((cntN P a P.length : Nat) : Int) - 1)
    · have c3 : crOK (putN P a [] P.length) p := by omega
      obtain ⟨q, rfl⟩ : ∃ q : Nat, p = (q : Int) := ⟨p.toNat, by omega⟩
      refine e_pureV qcX8_104 X.obj rfl rfl (S_fails_t X c_27 ht) rfl rfl rfl rfl dX8_sorted_27 ?_
      refine e_if_eq (tgt := 37) ⟨by decide, by decide⟩ dX8_sorted_30 rfl (fun c_30 => ?_) (fun c_30 => absurd rfl c_30)
      refine e_aload_n dX8_sorted_37 rfl ?_
      refine e_iload_n dX8_sorted_38 rfl ?_
      refine e_iload_n dX8_sorted_39 rfl ?_
      refine e_pureV qcX8_128 X.obj rfl rfl (S_pointAt X hR.1 ra rp) rfl rfl rfl rfl dX8_sorted_40 ?_
      refine e_iret rfl dX8_sorted_43 (by decide) (by decide) ?_
      rw [hm q (by omega)]
      exact mz (show (k_sorted P a (q : Int)) = (0, pM (putN P a [] P.length) q) from ((if_pos c_7).trans (if_pos c3))) ⟨rfl, rfl, _, _, X, hR, ht⟩
    refine e_doesV qcX8_104 X.obj rfl rfl (S_fails_f X c_27 ht ⟨by decide, by decide⟩) rfl rfl rfl rfl dX8_sorted_27 ?_
    intro v h9 q9
    obtain ⟨rfl, X⟩ := q9
    refine e_if_eq (tgt := 37) ⟨by decide, by decide⟩ dX8_sorted_30 rfl (fun c_30 => absurd c_30 (by decide)) (fun c_30 => ?_)
    refine e_iconst dX8_sorted_33 ?_
    refine e_goto (tgt := 43) dX8_sorted_34 rfl ?_
    refine e_iret rfl dX8_sorted_43 (by decide) (by decide) ?_
    exact mz (show (k_sorted P a p) = (2, 0) from ((if_pos c_7).trans (if_neg (by omega)))) ⟨rfl, rfl, _, _, X, hR.t0 _, uI_s _ _ _⟩
  refine e_doesV qcX8_111 X.obj rfl rfl (S_noHeap_f X ra c_7 ht) rfl rfl rfl rfl dX8_sorted_7 ?_
  intro v h9 q9
  obtain ⟨rfl, X⟩ := q9
  refine e_if_ne (tgt := 33) ⟨by decide, by decide⟩ dX8_sorted_10 rfl (fun c_10 => ?_) (fun c_10 => absurd (by decide) c_10)
  refine e_iconst dX8_sorted_33 ?_
  refine e_goto (tgt := 43) dX8_sorted_34 rfl ?_
  refine e_iret rfl dX8_sorted_43 (by decide) (by decide) ?_
  exact mz (show (k_sorted P a p) = (1, 0) from (if_neg c_7)) ⟨rfl, rfl, _, _, X, hR.t0 _, uI_s _ _ _⟩
/-- whether no point of the heap among the first n lies where p lies -/
def frP (P : PL) (a : Int) (p n : Nat) : Prop := pM P p = a ∧ ∀ o, o < n → ¬ (pM P o = a ∧ pX P o = pX P p ∧ pY P o = pY P p)
noncomputable def plM (P : PL) (a : Int) : Nat → Nat
  | 0 => 0
  | n + 1 => cif (frP P a n n) (plM P a n + 1) (plM P a n)
theorem iand_b {p q : Prop} (ip : Decidable p) (iq : Decidable q) : iN (@bP p ip) &&& iN (@bP q iq) = iN (bC (p ∧ q)) := by
  by_cases c : p
  · by_cases d : q
    · rw [bP_t c, bP_t d, show bC (p ∧ q) = 1 from bC_t ⟨c, d⟩]; rfl
    · rw [bP_t c, bP_f d, show bC (p ∧ q) = 0 from bC_f (fun w => d w.2)]; rfl
  · by_cases d : q
    · rw [bP_f c, bP_t d, show bC (p ∧ q) = 0 from bC_f (fun w => c w.1)]; rfl
    · rw [bP_f c, bP_f d, show bC (p ∧ q) = 0 from bC_f (fun w => c w.1)]; rfl
theorem frP_s {P : PL} {a : Int} {p n : Nat} : (frP P a p n ∧ ¬ (pM P n = a ∧ pX P n = pX P p ∧ pY P n = pY P p)) ↔ frP P a p (n + 1) := ⟨fun w => ⟨w.1.1, fun o ho => if c : o < n then w.1.2 o c else by rw [show o = n by omega]; exact w.2⟩, fun w => ⟨⟨w.1, fun o ho => w.2 o (by omega)⟩, w.2 n (by omega)⟩⟩
set_option maxRecDepth 20000 in
theorem pl_inner {Z : g_Z} {sc : Nat → Int} (X : mdX G sc ar m h0 h) (hR : mdR sc ar P E S b P2 E2 S2 F) (ht : sc 0 = 0) {a : Int} (ra : r32 a) {p : Nat} (hp : p < P.length) (k : Ev (g_B G mX8_places 0 0 Z) 0 0 none h 112 [(5, .int (iN (p : Nat))), (4, .int (iN (bC (frP P a p (p))))), (3, .int (iN (p : Nat))), (2, .int (iN (plM P a (p) : Nat))), (0, .ref m), (1, .int (iN a))] []) : ∀ (n o : Nat), o + n = p → Ev (g_B G mX8_places 0 0 Z) 0 0 none h 47 [(5, .int (iN (o : Nat))), (4, .int (iN (bC (frP P a p (o))))), (3, .int (iN (p : Nat))), (2, .int (iN (plM P a (p) : Nat))), (0, .ref m), (1, .int (iN a))] [] := by
  obtain ⟨e1, e2, e3, e4⟩ := hR.1
  have ra1 := ra.1
  have ra2 := ra.2
  have b1 := e3.at hp
  intro n
  induction n with
  | zero =>
    intro o hon
    have e9 : o = p := by omega
    rw [e9]
    refine e_iload dX8_places_47 rfl ?_
    refine e_iload_n dX8_places_49 rfl ?_
    refine e_icmp_ge (tgt := 112) ⟨by omega, by omega⟩ ⟨by omega, by omega⟩ dX8_places_50 rfl (fun c_50 => ?_) (fun c_50 => absurd (by omega) c_50)
    exact e_loc [(5, .int (iN (p : Nat))), (4, .int (iN (bC (frP P a p (p))))), (3, .int (iN (p : Nat))), (2, .int (iN (plM P a (p) : Nat))), (0, .ref m), (1, .int (iN a))] ⟨rfl, rfl, rfl, rfl, rfl, rfl, trivial⟩ k
  | succ n ih =>
    intro o hon
    have ho : o < P.length := by omega
    have b2 := e3.at ho
    letI : Decidable (pM P o = a ∧ pX P o = pX P p ∧ pY P o = pY P p) := inferInstance
    refine e_iload dX8_places_47 rfl ?_
    refine e_iload_n dX8_places_49 rfl ?_
    refine e_icmp_ge (tgt := 112) ⟨by omega, by omega⟩ ⟨by omega, by omega⟩ dX8_places_50 rfl (fun c_50 => absurd c_50 (by omega)) (fun c_50 => ?_)
    refine e_iload dX8_places_53 rfl ?_
    refine e_aload_n dX8_places_55 rfl ?_
    refine e_getf fX8_13 X.obj rfl dX8_places_56 ?_
    refine e_iload dX8_places_59 rfl ?_
    refine e_ial X.a0 (by omega) (by omega) rfl (e4 o ho).1 dX8_places_61 ?_
    refine e_iload_n dX8_places_62 rfl ?_
    refine e_icmp_ne (tgt := 98) ⟨by omega, by omega⟩ ⟨by omega, by omega⟩ dX8_places_63 rfl (fun c_63 => ?_) (fun c_63 => ?_)
    · refine e_iconst dX8_places_98 ?_
      refine e_top (bC (¬ (pM P o = a ∧ pX P o = pX P p ∧ pY P o = pY P p))) (bC_t (fun w => by omega)).symm ?_
      refine e_goto (tgt := 103) dX8_places_99 rfl ?_
      refine e_iand dX8_places_103 ?_
      rw [iand_b, bC_c frP_s]
      refine e_istore dX8_places_104 rfl ?_
      refine e_iinc dX8_places_106 rfl ?_
      refine e_goto (tgt := 47) dX8_places_109 rfl ?_
      exact e_loc [(5, .int (iN (o + 1 : Nat))), (4, .int (iN (bC (frP P a p (o + 1))))), (3, .int (iN (p : Nat))), (2, .int (iN (plM P a (p) : Nat))), (0, .ref m), (1, .int (iN a))] ⟨rfl, rfl, rfl, rfl, rfl, rfl, trivial⟩ (ih (o + 1) (by omega))
    · refine e_aload_n dX8_places_66 rfl ?_
      refine e_getf fX8_17 X.obj rfl dX8_places_67 ?_
      refine e_iload dX8_places_70 rfl ?_
      refine e_ial X.a1 (by omega) (by omega) rfl (e4 o ho).2.1 dX8_places_72 ?_
      refine e_aload_n dX8_places_73 rfl ?_
      refine e_getf fX8_17 X.obj rfl dX8_places_74 ?_
      refine e_iload_n dX8_places_77 rfl ?_
      refine e_ial X.a1 (by omega) (by omega) rfl (e4 p hp).2.1 dX8_places_78 ?_
      refine e_icmp_ne (tgt := 98) ⟨by omega, by omega⟩ ⟨by omega, by omega⟩ dX8_places_79 rfl (fun c_79 => ?_) (fun c_79 => ?_)
      · refine e_iconst dX8_places_98 ?_
        refine e_top (bC (¬ (pM P o = a ∧ pX P o = pX P p ∧ pY P o = pY P p))) (bC_t (fun w => by omega)).symm ?_
        refine e_goto (tgt := 103) dX8_places_99 rfl ?_
        refine e_iand dX8_places_103 ?_
        rw [iand_b, bC_c frP_s]
        refine e_istore dX8_places_104 rfl ?_
        refine e_iinc dX8_places_106 rfl ?_
        refine e_goto (tgt := 47) dX8_places_109 rfl ?_
        exact e_loc [(5, .int (iN (o + 1 : Nat))), (4, .int (iN (bC (frP P a p (o + 1))))), (3, .int (iN (p : Nat))), (2, .int (iN (plM P a (p) : Nat))), (0, .ref m), (1, .int (iN a))] ⟨rfl, rfl, rfl, rfl, rfl, rfl, trivial⟩ (ih (o + 1) (by omega))
      · refine e_aload_n dX8_places_82 rfl ?_
        refine e_getf fX8_20 X.obj rfl dX8_places_83 ?_
        refine e_iload dX8_places_86 rfl ?_
        refine e_ial X.a2 (by omega) (by omega) rfl (e4 o ho).2.2 dX8_places_88 ?_
        refine e_aload_n dX8_places_89 rfl ?_
        refine e_getf fX8_20 X.obj rfl dX8_places_90 ?_
        refine e_iload_n dX8_places_93 rfl ?_
        refine e_ial X.a2 (by omega) (by omega) rfl (e4 p hp).2.2 dX8_places_94 ?_
        refine e_icmp_eq (tgt := 102) ⟨by omega, by omega⟩ ⟨by omega, by omega⟩ dX8_places_95 rfl (fun c_95 => ?_) (fun c_95 => ?_)
        · refine e_iconst dX8_places_102 ?_
          refine e_top (bC (¬ (pM P o = a ∧ pX P o = pX P p ∧ pY P o = pY P p))) (bC_f (fun w => w ⟨by omega, by omega, by omega⟩)).symm ?_
          refine e_iand dX8_places_103 ?_
          rw [iand_b, bC_c frP_s]
          refine e_istore dX8_places_104 rfl ?_
          refine e_iinc dX8_places_106 rfl ?_
          refine e_goto (tgt := 47) dX8_places_109 rfl ?_
          exact e_loc [(5, .int (iN (o + 1 : Nat))), (4, .int (iN (bC (frP P a p (o + 1))))), (3, .int (iN (p : Nat))), (2, .int (iN (plM P a (p) : Nat))), (0, .ref m), (1, .int (iN a))] ⟨rfl, rfl, rfl, rfl, rfl, rfl, trivial⟩ (ih (o + 1) (by omega))
        · refine e_iconst dX8_places_98 ?_
          refine e_top (bC (¬ (pM P o = a ∧ pX P o = pX P p ∧ pY P o = pY P p))) (bC_t (fun w => by omega)).symm ?_
          refine e_goto (tgt := 103) dX8_places_99 rfl ?_
          refine e_iand dX8_places_103 ?_
          rw [iand_b, bC_c frP_s]
          refine e_istore dX8_places_104 rfl ?_
          refine e_iinc dX8_places_106 rfl ?_
          refine e_goto (tgt := 47) dX8_places_109 rfl ?_
          exact e_loc [(5, .int (iN (o + 1 : Nat))), (4, .int (iN (bC (frP P a p (o + 1))))), (3, .int (iN (p : Nat))), (2, .int (iN (plM P a (p) : Nat))), (0, .ref m), (1, .int (iN a))] ⟨rfl, rfl, rfl, rfl, rfl, rfl, trivial⟩ (ih (o + 1) (by omega))
set_option maxRecDepth 20000 in
theorem pl_outer {sc : Nat → Int} (X : mdX G sc ar m h0 h) (hR : mdR sc ar P E S b P2 E2 S2 F) (ht : sc 0 = 0) {a : Int} (ra : r32 a) : ∀ (n p : Nat), p + n = P.length → Ev (g_B G mX8_places 0 0 (mZ G ((0, (plM P a P.length : Int)) : Nat × Int) P E S b P2 E2 S2 F m h0)) 0 0 none h 19 [(3, .int (iN (p : Nat))), (2, .int (iN (plM P a (p) : Nat))), (0, .ref m), (1, .int (iN a))] [] := by
  obtain ⟨e1, e2, e3, e4⟩ := hR.1
  have ra1 := ra.1
  have ra2 := ra.2
  intro n
  induction n with
  | zero =>
    intro p hpn
    have e9 : p = P.length := by omega
    rw [e9]
    refine e_iload_n dX8_places_19 rfl ?_
    refine e_aload_n dX8_places_20 rfl ?_
    refine e_getf fX8_108 X.obj rfl dX8_places_21 ?_
    rw [e1]
    refine e_icmp_ge (tgt := 131) ⟨by omega, by omega⟩ ⟨by omega, by omega⟩ dX8_places_24 rfl (fun c_24 => ?_) (fun c_24 => absurd (by omega) c_24)
    refine e_iload_n dX8_places_131 rfl ?_
    refine e_iret rfl dX8_places_132 (by decide) (by decide) ?_
    exact ⟨rfl, rfl, _, _, X, hR, ht⟩
  | succ n ih =>
    intro p hpn
    have hp : p < P.length := by omega
    have b1 := e3.at hp
    letI : Decidable (frP P a p p) := Classical.propDecidable _
    refine e_iload_n dX8_places_19 rfl ?_
    refine e_aload_n dX8_places_20 rfl ?_
    refine e_getf fX8_108 X.obj rfl dX8_places_21 ?_
    rw [e1]
    refine e_icmp_ge (tgt := 131) ⟨by omega, by omega⟩ ⟨by omega, by omega⟩ dX8_places_24 rfl (fun c_24 => absurd c_24 (by omega)) (fun c_24 => ?_)
    refine e_aload_n dX8_places_27 rfl ?_
    refine e_getf fX8_13 X.obj rfl dX8_places_28 ?_
    refine e_iload_n dX8_places_31 rfl ?_
    refine e_ial X.a0 (by omega) (by omega) rfl (e4 p hp).1 dX8_places_32 ?_
    refine e_iload_n dX8_places_33 rfl ?_
    refine e_icmp_ne (tgt := 41) ⟨by omega, by omega⟩ ⟨by omega, by omega⟩ dX8_places_34 rfl (fun c_34 => ?_) (fun c_34 => ?_)
    · refine e_iconst dX8_places_41 ?_
      refine e_top (bC (frP P a p 0)) (bC_f (show ¬ frP P a p 0 from fun w => absurd w.1 (by omega))).symm ?_
      refine e_istore dX8_places_42 rfl ?_
      refine e_iconst dX8_places_44 ?_
      refine e_istore dX8_places_45 rfl ?_
      refine e_loc [(5, .int (iN (0 : Nat))), (4, .int (iN (bC (frP P a p (0))))), (3, .int (iN (p : Nat))), (2, .int (iN (plM P a (p) : Nat))), (0, .ref m), (1, .int (iN a))] ⟨rfl, rfl, rfl, rfl, rfl, rfl, trivial⟩ (pl_inner X hR ht ra hp ?_ _ 0 (Nat.zero_add _))
      refine e_iload_n dX8_places_112 rfl ?_
      refine e_iload dX8_places_113 rfl ?_
      refine e_ifP_eq (tgt := 122) dX8_places_115 rfl (fun c_115 => ?_) (fun c_115 => ?_)
      · have e6 : plM P a (p + 1) = plM P a p := cif_f c_115
        refine e_iconst dX8_places_122 ?_
        refine e_iadd dX8_places_123 ?_
        refine e_istore_n dX8_places_124 rfl ?_
        refine e_iinc dX8_places_125 rfl ?_
        refine e_goto (tgt := 19) dX8_places_128 rfl ?_
        exact e_loc [(3, .int (iN (p + 1 : Nat))), (2, .int (iN (plM P a (p + 1) : Nat))), (0, .ref m), (1, .int (iN a))] ⟨rfl, by rw [e6]; exact congrArg (fun v => some (Value.int (iN v))) (by omega), rfl, rfl, trivial⟩ (ih (p + 1) (by omega))
      · have e6 : plM P a (p + 1) = plM P a p + 1 := cif_t c_115
        refine e_iconst dX8_places_118 ?_
        refine e_goto (tgt := 123) dX8_places_119 rfl ?_
        refine e_iadd dX8_places_123 ?_
        refine e_istore_n dX8_places_124 rfl ?_
        refine e_iinc dX8_places_125 rfl ?_
        refine e_goto (tgt := 19) dX8_places_128 rfl ?_
        exact e_loc [(3, .int (iN (p + 1 : Nat))), (2, .int (iN (plM P a (p + 1) : Nat))), (0, .ref m), (1, .int (iN a))] ⟨rfl, by rw [e6]; exact congrArg (fun v => some (Value.int (iN v))) (by omega), rfl, rfl, trivial⟩ (ih (p + 1) (by omega))
    · refine e_iconst dX8_places_37 ?_
      refine e_top (bC (frP P a p 0)) (bC_t (show frP P a p 0 from ⟨by omega, (fun o ho => absurd ho (Nat.not_lt_zero _))⟩)).symm ?_
      refine e_goto (tgt := 42) dX8_places_38 rfl ?_
      refine e_istore dX8_places_42 rfl ?_
      refine e_iconst dX8_places_44 ?_
      refine e_istore dX8_places_45 rfl ?_
      refine e_loc [(5, .int (iN (0 : Nat))), (4, .int (iN (bC (frP P a p (0))))), (3, .int (iN (p : Nat))), (2, .int (iN (plM P a (p) : Nat))), (0, .ref m), (1, .int (iN a))] ⟨rfl, rfl, rfl, rfl, rfl, rfl, trivial⟩ (pl_inner X hR ht ra hp ?_ _ 0 (Nat.zero_add _))
      refine e_iload_n dX8_places_112 rfl ?_
      refine e_iload dX8_places_113 rfl ?_
      refine e_ifP_eq (tgt := 122) dX8_places_115 rfl (fun c_115 => ?_) (fun c_115 => ?_)
      · have e6 : plM P a (p + 1) = plM P a p := cif_f c_115
        refine e_iconst dX8_places_122 ?_
        refine e_iadd dX8_places_123 ?_
        refine e_istore_n dX8_places_124 rfl ?_
        refine e_iinc dX8_places_125 rfl ?_
        refine e_goto (tgt := 19) dX8_places_128 rfl ?_
        exact e_loc [(3, .int (iN (p + 1 : Nat))), (2, .int (iN (plM P a (p + 1) : Nat))), (0, .ref m), (1, .int (iN a))] ⟨rfl, by rw [e6]; exact congrArg (fun v => some (Value.int (iN v))) (by omega), rfl, rfl, trivial⟩ (ih (p + 1) (by omega))
      · have e6 : plM P a (p + 1) = plM P a p + 1 := cif_t c_115
        refine e_iconst dX8_places_118 ?_
        refine e_goto (tgt := 123) dX8_places_119 rfl ?_
        refine e_iadd dX8_places_123 ?_
        refine e_istore_n dX8_places_124 rfl ?_
        refine e_iinc dX8_places_125 rfl ?_
        refine e_goto (tgt := 19) dX8_places_128 rfl ?_
        exact e_loc [(3, .int (iN (p + 1 : Nat))), (2, .int (iN (plM P a (p + 1) : Nat))), (0, .ref m), (1, .int (iN a))] ⟨rfl, by rw [e6]; exact congrArg (fun v => some (Value.int (iN v))) (by omega), rfl, rfl, trivial⟩ (ih (p + 1) (by omega))
set_option maxRecDepth 20000 in
theorem M_places (X : mdX G sc0 ar m h0 h) (hR : mdR sc0 ar P E S b P2 E2 S2 F) {a : Int} (ra : r32 a) (hm : plM P a P.length = plN (putN P a [] P.length) (putN P a [] P.length).length) : Run G mX8_places [.ref m, .int (iN a)] none h 0 0 (mZ G (k_places P a) P E S b P2 E2 S2 F m h0) := by
  refine run_of rfl plX8 rfl ?_
  refine e_aload_n dX8_places_0 rfl ?_
  refine e_iconst dX8_places_1 ?_
  refine e_putf pfX8_1 X.obj rfl rfl rfl dX8_places_2 ?_
  refine X.pto (q := 0) (fun h9 X9 => ?_) rfl
  replace X := X9
  clear X9
  replace hR := hR.t0 0
  have ht : uI sc0 0 0 0 = 0 := uI_s _ _ _
  generalize uI sc0 0 0 = sc at X hR ht
  refine e_aload_n dX8_places_5 rfl ?_
  refine e_iload_n dX8_places_6 rfl ?_
  
  by_cases c_7 : hpOK a
  · refine e_pureV qcX8_111 X.obj rfl rfl (S_noHeap_t X ra c_7 ht) rfl rfl rfl rfl dX8_places_7 ?_
    refine e_if_eq (tgt := 15) ⟨by decide, by decide⟩ dX8_places_10 rfl (fun c_10 => ?_) (fun c_10 => absurd rfl c_10)
    refine e_iconst dX8_places_15 ?_
    refine e_istore_n dX8_places_16 rfl ?_
    refine e_iconst dX8_places_17 ?_
    refine e_istore_n dX8_places_18 rfl ?_
    rw [show (k_places P a) = (0, (plM P a P.length : Int)) from (if_pos c_7).trans (by rw [hm])]
    exact e_loc [(3, .int (iN (0 : Nat))), (2, .int (iN (plM P a 0 : Nat))), (0, .ref m), (1, .int (iN a))] ⟨rfl, rfl, rfl, rfl, trivial⟩ (pl_outer X hR ht ra _ 0 (Nat.zero_add _))
  refine e_doesV qcX8_111 X.obj rfl rfl (S_noHeap_f X ra c_7 ht) rfl rfl rfl rfl dX8_places_7 ?_
  intro v h9 q9
  obtain ⟨rfl, X⟩ := q9
  refine e_if_eq (tgt := 15) ⟨by decide, by decide⟩ dX8_places_10 rfl (fun c_10 => absurd c_10 (by decide)) (fun c_10 => ?_)
  refine e_iconst dX8_places_13 ?_
  refine e_iret rfl dX8_places_14 (by decide) (by decide) ?_
  exact mz (show (k_places P a) = (1, 0) from (if_neg c_7)) ⟨rfl, rfl, _, _, X, hR.t0 _, uI_s _ _ _⟩
set_option maxRecDepth 20000 in
theorem M_turn (X : mdX G sc0 ar m h0 h) (hR : mdR sc0 ar P E S b P2 E2 S2 F) {a : Int} (ra : r32 a) {u : Int} (ru : r32 u) {v : Int} (rv : r32 v) : Run G mX8_turn [.ref m, .int (iN a), .int (iN u), .int (iN v)] none h 0 0 (mZ G (k_turn P a u v) P E S b P2 E2 S2 F m h0) := by
  have ra1 := ra.1
  have ra2 := ra.2
  have ru1 := ru.1
  have ru2 := ru.2
  have rv1 := rv.1
  have rv2 := rv.2
  refine run_of rfl plX8 rfl ?_
  refine e_aload_n dX8_turn_0 rfl ?_
  refine e_iconst dX8_turn_1 ?_
  refine e_putf pfX8_1 X.obj rfl rfl rfl dX8_turn_2 ?_
  refine X.pto (q := 0) (fun h9 X9 => ?_) rfl
  replace X := X9
  clear X9
  replace hR := hR.t0 0
  have ht : uI sc0 0 0 0 = 0 := uI_s _ _ _
  generalize uI sc0 0 0 = sc at X hR ht
  refine e_aload_n dX8_turn_5 rfl ?_
  refine e_iload_n dX8_turn_6 rfl ?_
  
  by_cases c_7 : isPt P a
  · refine e_pureV qcX8_119 X.obj rfl rfl (S_noPoint_t X hR.1 ra c_7 ht) rfl rfl rfl rfl dX8_turn_7 ?_
    refine e_if_ne (tgt := 29) ⟨by decide, by decide⟩ dX8_turn_10 rfl (fun c_10 => absurd rfl c_10) (fun c_10 => ?_)
    refine e_aload_n dX8_turn_13 rfl ?_
    refine e_iload_n dX8_turn_14 rfl ?_
    
    by_cases c_15 : isPt P u
    · refine e_pureV qcX8_119 X.obj rfl rfl (S_noPoint_t X hR.1 ru c_15 ht) rfl rfl rfl rfl dX8_turn_15 ?_
      refine e_if_ne (tgt := 29) ⟨by decide, by decide⟩ dX8_turn_18 rfl (fun c_18 => absurd rfl c_18) (fun c_18 => ?_)
      refine e_aload_n dX8_turn_21 rfl ?_
      refine e_iload_n dX8_turn_22 rfl ?_
      
      by_cases c_23 : isPt P v
      · obtain ⟨n, rfl⟩ : ∃ n : Nat, a = (n : Int) := ⟨a.toNat, by have := c_7.1; omega⟩
        have hn : n < P.length := by have := c_7.2.1; omega
        obtain ⟨n2, rfl⟩ : ∃ n2 : Nat, u = (n2 : Int) := ⟨u.toNat, by have := c_15.1; omega⟩
        have hn2 : n2 < P.length := by have := c_15.2.1; omega
        obtain ⟨n3, rfl⟩ : ∃ n3 : Nat, v = (n3 : Int) := ⟨v.toNat, by have := c_23.1; omega⟩
        have hn3 : n3 < P.length := by have := c_23.2.1; omega
        have x2 := hR.1.2.1
        have b1 := hR.1.2.2.1.at hn
        have b2 := hR.1.2.2.1.at hn2
        have b3 := hR.1.2.2.1.at hn3
        refine e_pureV qcX8_119 X.obj rfl rfl (S_noPoint_t X hR.1 rv c_23 ht) rfl rfl rfl rfl dX8_turn_23 ?_
        refine e_if_eq (tgt := 33) ⟨by decide, by decide⟩ dX8_turn_26 rfl (fun c_26 => ?_) (fun c_26 => absurd rfl c_26)
        refine e_aload_n dX8_turn_33 rfl ?_
        refine e_getf fX8_17 X.obj rfl dX8_turn_34 ?_
        refine e_iload_n dX8_turn_37 rfl ?_
        refine e_ial X.a1 (by omega) (by omega) rfl (hR.1.2.2.2 n hn).2.1 dX8_turn_38 ?_
        refine e_i2l ⟨by omega, by omega⟩ dX8_turn_39 ?_
        refine e_aload_n dX8_turn_40 rfl ?_
        refine e_getf fX8_20 X.obj rfl dX8_turn_41 ?_
        refine e_iload_n dX8_turn_44 rfl ?_
        refine e_ial X.a2 (by omega) (by omega) rfl (hR.1.2.2.2 n hn).2.2 dX8_turn_45 ?_
        refine e_i2l ⟨by omega, by omega⟩ dX8_turn_46 ?_
        refine e_aload_n dX8_turn_47 rfl ?_
        refine e_getf fX8_17 X.obj rfl dX8_turn_48 ?_
        refine e_iload_n dX8_turn_51 rfl ?_
        refine e_ial X.a1 (by omega) (by omega) rfl (hR.1.2.2.2 n2 hn2).2.1 dX8_turn_52 ?_
        refine e_i2l ⟨by omega, by omega⟩ dX8_turn_53 ?_
        refine e_aload_n dX8_turn_54 rfl ?_
        refine e_getf fX8_20 X.obj rfl dX8_turn_55 ?_
        refine e_iload_n dX8_turn_58 rfl ?_
        refine e_ial X.a2 (by omega) (by omega) rfl (hR.1.2.2.2 n2 hn2).2.2 dX8_turn_59 ?_
        refine e_i2l ⟨by omega, by omega⟩ dX8_turn_60 ?_
        refine e_aload_n dX8_turn_61 rfl ?_
        refine e_getf fX8_17 X.obj rfl dX8_turn_62 ?_
        refine e_iload_n dX8_turn_65 rfl ?_
        refine e_ial X.a1 (by omega) (by omega) rfl (hR.1.2.2.2 n3 hn3).2.1 dX8_turn_66 ?_
        refine e_i2l ⟨by omega, by omega⟩ dX8_turn_67 ?_
        refine e_aload_n dX8_turn_68 rfl ?_
        refine e_getf fX8_20 X.obj rfl dX8_turn_69 ?_
        refine e_iload_n dX8_turn_72 rfl ?_
        refine e_ial X.a2 (by omega) (by omega) rfl (hR.1.2.2.2 n3 hn3).2.2 dX8_turn_73 ?_
        refine e_i2l ⟨by omega, by omega⟩ dX8_turn_74 ?_
        refine e_pureS qcX8_132 (S_turns (twr ⟨by omega, by omega⟩ ⟨by omega, by omega⟩ ⟨by omega, by omega⟩ ⟨by omega, by omega⟩ ⟨by omega, by omega⟩ ⟨by omega, by omega⟩)) rfl rfl rfl rfl dX8_turn_75 ?_
        refine e_iret rfl dX8_turn_78 (by decide) (by decide) ?_
        exact mz (show (k_turn P (n : Int) (n2 : Int) (n3 : Int)) = (0, sd3 P n n2 P n3) from (((if_pos c_7).trans (if_pos c_15)).trans (if_pos c_23))) ⟨rfl, rfl, _, _, X, hR, ht⟩
      refine e_doesV qcX8_119 X.obj rfl rfl (S_noPoint_f X hR.1 rv c_23 ht) rfl rfl rfl rfl dX8_turn_23 ?_
      intro v h9 q9
      obtain ⟨rfl, X⟩ := q9
      refine e_if_eq (tgt := 33) ⟨by decide, by decide⟩ dX8_turn_26 rfl (fun c_26 => absurd c_26 (by decide)) (fun c_26 => ?_)
      refine e_iconst dX8_turn_29 ?_
      refine e_goto (tgt := 78) dX8_turn_30 rfl ?_
      refine e_iret rfl dX8_turn_78 (by decide) (by decide) ?_
      exact mz (show (k_turn P a u v) = (1, 0) from (((if_pos c_7).trans (if_pos c_15)).trans (if_neg c_23))) ⟨rfl, rfl, _, _, X, hR.t0 _, uI_s _ _ _⟩
    refine e_doesV qcX8_119 X.obj rfl rfl (S_noPoint_f X hR.1 ru c_15 ht) rfl rfl rfl rfl dX8_turn_15 ?_
    intro v h9 q9
    obtain ⟨rfl, X⟩ := q9
    refine e_if_ne (tgt := 29) ⟨by decide, by decide⟩ dX8_turn_18 rfl (fun c_18 => ?_) (fun c_18 => absurd (by decide) c_18)
    refine e_iconst dX8_turn_29 ?_
    refine e_goto (tgt := 78) dX8_turn_30 rfl ?_
    refine e_iret rfl dX8_turn_78 (by decide) (by decide) ?_
    exact mz (show (k_turn P a u v) = (1, 0) from ((if_pos c_7).trans (if_neg c_15))) ⟨rfl, rfl, _, _, X, hR.t0 _, uI_s _ _ _⟩
  refine e_doesV qcX8_119 X.obj rfl rfl (S_noPoint_f X hR.1 ra c_7 ht) rfl rfl rfl rfl dX8_turn_7 ?_
  intro v h9 q9
  obtain ⟨rfl, X⟩ := q9
  refine e_if_ne (tgt := 29) ⟨by decide, by decide⟩ dX8_turn_10 rfl (fun c_10 => ?_) (fun c_10 => absurd (by decide) c_10)
  refine e_iconst dX8_turn_29 ?_
  refine e_goto (tgt := 78) dX8_turn_30 rfl ?_
  refine e_iret rfl dX8_turn_78 (by decide) (by decide) ?_
  exact mz (show (k_turn P a u v) = (1, 0) from (if_neg c_7)) ⟨rfl, rfl, _, _, X, hR.t0 _, uI_s _ _ _⟩
end MSIX
