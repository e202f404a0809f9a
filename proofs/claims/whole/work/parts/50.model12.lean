/-! The reference: calls about polygons -/
section MTWELVE
variable {G : g_X} {sc sc0 : Nat → Int} {ar : Nat → Nat → Int} {m : Nat} {h0 h : g_hp} {P E : PL} {S : Nat → PL} {b : Int} {P2 E2 : PL} {S2 : Nat → PL} {F : PL}
set_option maxRecDepth 20000 in
theorem S_noSimple_t (X : mdX G sc ar m h0 h) (hS : mdS ar S) {g : Nat} (hg : g < 4) (hgc : ∀ g, g < 4 → (gdM (S g) ↔ closes (S g))) (c : closes (S g)) (ht : sc 0 = 0) : Does G mX8_noSimple [.ref m, .int (iN g)] h (fun v h1 => v = some (.int (iN 0)) ∧ ∃ sc2, mdX G sc2 ar m h0 h1 ∧ agr [17, 18, 19, 20, 21, 22, 23, 24] [] sc ar sc2 ar) := by
  have c0 := (hgc g hg).mpr c
  letI : Decidable (gdM (S g)) := Classical.propDecidable _
  intro z
  refine run_of rfl plX8 rfl ?_
  refine e_aload_n dX8_noSimple_0 rfl ?_
  refine e_iload_n dX8_noSimple_1 rfl ?_
  refine e_pureV qcX8_195 X.obj rfl rfl (S_noPolygon_t X (a := (g : Int)) ⟨by omega, by omega⟩ (show pgOK (g : Int) by omega) ht) rfl rfl rfl rfl dX8_noSimple_2 ?_
  refine e_if_ne (tgt := 21) ⟨by decide, by decide⟩ dX8_noSimple_5 rfl (fun c_5 => absurd rfl c_5) (fun c_5 => ?_)
  refine e_aload_n dX8_noSimple_8 rfl ?_
  refine e_aload_n dX8_noSimple_9 rfl ?_
  refine e_iload_n dX8_noSimple_10 rfl ?_
  refine e_doesV qcX8_239 X.obj rfl rfl (S_isGood X hS hg) rfl rfl rfl rfl dX8_noSimple_11 ?_
  intro v h9 q9
  obtain ⟨rfl, sc2, X, hA⟩ := q9
  replace ht := (hA.1 0 (by decide)).trans ht
  refine e_iconst dX8_noSimple_14 ?_
  refine e_pureV qcX8_104 X.obj rfl rfl (S_fails_t X c0 ht) rfl rfl rfl rfl dX8_noSimple_15 ?_
  refine e_if_eq (tgt := 25) ⟨by decide, by decide⟩ dX8_noSimple_18 rfl (fun c_18 => ?_) (fun c_18 => absurd rfl c_18)
  refine e_iconst dX8_noSimple_25 ?_
  refine e_zret rfl (by first | exact Or.inl rfl | exact Or.inr rfl | exact bP_01 _) dX8_noSimple_26 (by decide) (by decide) ?_
  exact ⟨_, rfl, rfl, rfl, _, X, hA⟩
set_option maxRecDepth 20000 in
theorem S_noSimple_f1 (X : mdX G sc ar m h0 h) {a : Int} (ha : r32 a) (c : ¬ pgOK a) (ht : sc 0 = 0) : Does G mX8_noSimple [.ref m, .int (iN a)] h (fld G sc ar m h0 1) := by
  intro z
  refine run_of rfl plX8 rfl ?_
  refine e_aload_n dX8_noSimple_0 rfl ?_
  refine e_iload_n dX8_noSimple_1 rfl ?_
  refine e_doesV qcX8_195 X.obj rfl rfl (S_noPolygon_f X ha c ht) rfl rfl rfl rfl dX8_noSimple_2 ?_
  intro v h9 q9
  obtain ⟨rfl, X⟩ := q9
  refine e_if_ne (tgt := 21) ⟨by decide, by decide⟩ dX8_noSimple_5 rfl (fun c_5 => ?_) (fun c_5 => absurd (by decide) c_5)
  refine e_iconst dX8_noSimple_21 ?_
  refine e_goto (tgt := 26) dX8_noSimple_22 rfl ?_
  refine e_zret rfl (by first | exact Or.inl rfl | exact Or.inr rfl | exact bP_01 _) dX8_noSimple_26 (by decide) (by decide) ?_
  exact ⟨_, rfl, rfl, rfl, X⟩
set_option maxRecDepth 20000 in
theorem S_noSimple_f2 (X : mdX G sc ar m h0 h) (hS : mdS ar S) {g : Nat} (hg : g < 4) (hgc : ∀ g, g < 4 → (gdM (S g) ↔ closes (S g))) (c : ¬ closes (S g)) (ht : sc 0 = 0) : Does G mX8_noSimple [.ref m, .int (iN g)] h (fun v h1 => v = some (.int (iN 1)) ∧ ∃ sc2, mdX G (uI sc2 0 2) ar m h0 h1 ∧ agr [17, 18, 19, 20, 21, 22, 23, 24] [] sc ar sc2 ar) := by
  have c0 : ¬ gdM (S g) := fun w => c ((hgc g hg).mp w)
  letI : Decidable (gdM (S g)) := Classical.propDecidable _
  intro z
  refine run_of rfl plX8 rfl ?_
  refine e_aload_n dX8_noSimple_0 rfl ?_
  refine e_iload_n dX8_noSimple_1 rfl ?_
  refine e_pureV qcX8_195 X.obj rfl rfl (S_noPolygon_t X (a := (g : Int)) ⟨by omega, by omega⟩ (show pgOK (g : Int) by omega) ht) rfl rfl rfl rfl dX8_noSimple_2 ?_
  refine e_if_ne (tgt := 21) ⟨by decide, by decide⟩ dX8_noSimple_5 rfl (fun c_5 => absurd rfl c_5) (fun c_5 => ?_)
  refine e_aload_n dX8_noSimple_8 rfl ?_
  refine e_aload_n dX8_noSimple_9 rfl ?_
  refine e_iload_n dX8_noSimple_10 rfl ?_
  refine e_doesV qcX8_239 X.obj rfl rfl (S_isGood X hS hg) rfl rfl rfl rfl dX8_noSimple_11 ?_
  intro v h9 q9
  obtain ⟨rfl, sc2, X, hA⟩ := q9
  replace ht := (hA.1 0 (by decide)).trans ht
  refine e_iconst dX8_noSimple_14 ?_
  refine e_doesV qcX8_104 X.obj rfl rfl (S_fails_f X c0 ht ⟨by decide, by decide⟩) rfl rfl rfl rfl dX8_noSimple_15 ?_
  intro v h9 q9
  obtain ⟨rfl, X⟩ := q9
  refine e_if_eq (tgt := 25) ⟨by decide, by decide⟩ dX8_noSimple_18 rfl (fun c_18 => absurd c_18 (by decide)) (fun c_18 => ?_)
  refine e_iconst dX8_noSimple_21 ?_
  refine e_goto (tgt := 26) dX8_noSimple_22 rfl ?_
  refine e_zret rfl (by first | exact Or.inl rfl | exact Or.inr rfl | exact bP_01 _) dX8_noSimple_26 (by decide) (by decide) ?_
  exact ⟨_, rfl, rfl, rfl, _, X, hA⟩
theorem mdS.add {ar ar' : Nat → Nat → Int} {S : Nat → PL} (x : mdS ar S) {g : Nat} (hg : g < 4) (hl : (S g).length < 16) {u v : Int} (hn : nrOK u v) (a9 : ar' 9 = uI (ar 9) (16 * g + (S g).length) u) (a10 : ar' 10 = uI (ar 10) (16 * g + (S g).length) v) (a11 : ar' 11 = uI (ar 11) g (((S g).length : Int) + 1)) : mdS ar' (uS S g (S g ++ [(u, v, ((S g).length : Int))])) := by
  intro q hq
  obtain ⟨s1, s2, s3, s4⟩ := x q hq
  by_cases c : q = g
  · subst c
    have el : (S q ++ [(u, v, ((S q).length : Int))]).length = (S q).length + 1 := by rw [List.length_append, List.length_singleton]
    rw [uS_s, a11, uI_s, el]
    refine ⟨rfl, by omega, fun i hi => ?_, fun k hk => ?_⟩
    · rw [el] at hi
      by_cases d : i < (S q).length
      · obtain ⟨q1, q2, q3⟩ := (pX_app (L := S q) (p := (u, v, ((S q).length : Int))) (i := i)).1 d
        rw [q1, q2, q3]
        exact s3 i d
      · obtain ⟨q1, q2, q3⟩ := (pX_app (L := S q) (p := (u, v, ((S q).length : Int))) (i := i)).2 (by omega)
        rw [q1, q2, q3]
        exact ⟨⟨hn.1, hn.2.1⟩, ⟨hn.2.2.1, hn.2.2.2⟩, by show -1 ≤ ((S q).length : Int); omega, by show ((S q).length : Int) ≤ 100; omega⟩
    · rw [a9, a10]
      by_cases d : k < (S q).length
      · obtain ⟨q1, q2, q3⟩ := (pX_app (L := S q) (p := (u, v, ((S q).length : Int))) (i := k)).1 d
        rw [q1, q2, uI_n _ _ (by omega), uI_n _ _ (by omega)]
        exact s4 k d
      · have e : k = (S q).length := by omega
        obtain ⟨q1, q2, q3⟩ := (pX_app (L := S q) (p := (u, v, ((S q).length : Int))) (i := k)).2 e
        rw [q1, q2, e, uI_s, uI_s]
        exact ⟨rfl, rfl⟩
  · rw [uS_n c, a11, uI_n _ _ c]
    refine ⟨s1, s2, s3, fun k hk => ?_⟩
    have hk2 : 16 * q + k ≠ 16 * g + (S g).length := by omega
    rw [a9, a10, uI_n _ _ hk2, uI_n _ _ hk2]
    exact s4 k hk
theorem mdS.clr {ar ar' : Nat → Nat → Int} {S : Nat → PL} (x : mdS ar S) {g : Nat} (a9 : ar' 9 = ar 9) (a10 : ar' 10 = ar 10) (a11 : ar' 11 = uI (ar 11) g 0) : mdS ar' (uS S g []) := by
  intro q hq
  obtain ⟨s1, s2, s3, s4⟩ := x q hq
  by_cases c : q = g
  · subst c
    rw [uS_s, a11, uI_s]
    exact ⟨rfl, Nat.zero_le _, fun i hi => absurd hi (Nat.not_lt_zero _), fun i hi => absurd hi (Nat.not_lt_zero _)⟩
  · rw [uS_n c, a11, uI_n _ _ c, a9, a10]
    exact ⟨s1, s2, s3, s4⟩
set_option maxRecDepth 20000 in
theorem M_add (X : mdX G sc0 ar m h0 h) (hR : mdR sc0 ar P E S b P2 E2 S2 F) {j : Int} (rj : r32 j) {x : Int} (rx : r32 x) {y : Int} (ry : r32 y) : Run G mX8_add [.ref m, .int (iN j), .int (iN x), .int (iN y)] none h 0 0 (mZ G (k_add S j x y) P E (s_add S j x y) b P2 E2 S2 F m h0) := by
  have rj1 := rj.1
  have rj2 := rj.2
  have rx1 := rx.1
  have rx2 := rx.2
  have ry1 := ry.1
  have ry2 := ry.2
  refine run_of rfl plX8 rfl ?_
  refine e_aload_n dX8_add_0 rfl ?_
  refine e_iconst dX8_add_1 ?_
  refine e_putf pfX8_1 X.obj rfl rfl rfl dX8_add_2 ?_
  refine X.pto (q := 0) (fun h9 X9 => ?_) rfl
  replace X := X9
  clear X9
  replace hR := hR.t0 0
  have ht : uI sc0 0 0 0 = 0 := uI_s _ _ _
  generalize uI sc0 0 0 = sc at X hR ht
  refine e_aload_n dX8_add_5 rfl ?_
  refine e_iload_n dX8_add_6 rfl ?_
  
  by_cases c_7 : pgOK j
  · obtain ⟨g, rfl⟩ : ∃ g : Nat, j = (g : Int) := ⟨j.toNat, by omega⟩
    have hg : g < 4 := by omega
    obtain ⟨s1, s2, s3, s4⟩ := id (hR.2.2.1 g hg)
    refine e_pureV qcX8_195 X.obj rfl rfl (S_noPolygon_t X rj c_7 ht) rfl rfl rfl rfl dX8_add_7 ?_
    refine e_if_ne (tgt := 50) ⟨by decide, by decide⟩ dX8_add_10 rfl (fun c_10 => absurd rfl c_10) (fun c_10 => ?_)
    refine e_aload_n dX8_add_13 rfl ?_
    refine e_iload_n dX8_add_14 rfl ?_
    refine e_iload_n dX8_add_15 rfl ?_
    refine e_pureS qcX8_115 (S_isPlace rx ry) rfl rfl rfl rfl dX8_add_16 ?_
    refine e_iconst dX8_add_19 ?_
    
    by_cases c_20 : nrOK x y
    · refine e_pureV qcX8_104 X.obj rfl rfl (S_fails_t X c_20 ht) rfl rfl rfl rfl dX8_add_20 ?_
      refine e_if_ne (tgt := 50) ⟨by decide, by decide⟩ dX8_add_23 rfl (fun c_23 => absurd rfl c_23) (fun c_23 => ?_)
      refine e_aload_n dX8_add_26 rfl ?_
      refine e_aload_n dX8_add_27 rfl ?_
      refine e_getf fX8_48 X.obj rfl dX8_add_28 ?_
      refine e_iload_n dX8_add_31 rfl ?_
      refine e_ial X.a11 (by omega) (by omega) rfl s1 dX8_add_32 ?_
      refine e_bipush dX8_add_33 (by decide) ?_
      
      by_cases c_35 : (S g).length < 16
      · refine e_icmp_ge (tgt := 42) ⟨by omega, by omega⟩ ⟨by omega, by omega⟩ dX8_add_35 rfl (fun c_0 => absurd c_0 (by omega)) (fun c_0 => ?_)
        refine e_iconst dX8_add_38 ?_
        refine e_top (bP ((S g).length < 16)) (bP_t c_35).symm ?_
        refine e_goto (tgt := 43) dX8_add_39 rfl ?_
        refine e_iconst dX8_add_43 ?_
        refine e_pureV qcX8_104 X.obj rfl rfl (S_fails_t X c_35 ht) rfl rfl rfl rfl dX8_add_44 ?_
        refine e_if_eq (tgt := 52) ⟨by decide, by decide⟩ dX8_add_47 rfl (fun c_47 => ?_) (fun c_47 => absurd rfl c_47)
        refine e_aload_n dX8_add_52 rfl ?_
        refine e_getf fX8_42 X.obj rfl dX8_add_53 ?_
        refine e_bipush dX8_add_56 (by decide) ?_
        refine e_iload_n dX8_add_58 rfl ?_
        refine e_imul dX8_add_59 ?_
        refine e_aload_n dX8_add_60 rfl ?_
        refine e_getf fX8_48 X.obj rfl dX8_add_61 ?_
        refine e_iload_n dX8_add_64 rfl ?_
        refine e_ial X.a11 (by omega) (by omega) rfl s1 dX8_add_65 ?_
        refine e_iadd dX8_add_66 ?_
        refine e_iload_n dX8_add_67 rfl ?_
        refine e_iastore X.a9 (by omega) (by omega) rfl dX8_add_68 ?_
        refine X.sto9 (fun h9 X9 => ?_)
        replace X := X9
        clear X9
        refine e_aload_n dX8_add_69 rfl ?_
        refine e_getf fX8_45 X.obj rfl dX8_add_70 ?_
        refine e_bipush dX8_add_73 (by decide) ?_
        refine e_iload_n dX8_add_75 rfl ?_
        refine e_imul dX8_add_76 ?_
        refine e_aload_n dX8_add_77 rfl ?_
        refine e_getf fX8_48 X.obj rfl dX8_add_78 ?_
        refine e_iload_n dX8_add_81 rfl ?_
        refine e_ial X.a11 (by omega) (by omega) rfl s1 dX8_add_82 ?_
        refine e_iadd dX8_add_83 ?_
        refine e_iload_n dX8_add_84 rfl ?_
        refine e_iastore X.a10 (by omega) (by omega) rfl dX8_add_85 ?_
        refine X.sto10 (fun h9 X9 => ?_)
        replace X := X9
        clear X9
        refine e_aload_n dX8_add_86 rfl ?_
        refine e_getf fX8_48 X.obj rfl dX8_add_87 ?_
        refine e_iload_n dX8_add_90 rfl ?_
        refine e_dup2 dX8_add_91 rfl rfl ?_
        refine e_ial X.a11 (by omega) (by omega) rfl s1 dX8_add_92 ?_
        refine e_iconst dX8_add_93 ?_
        refine e_iadd dX8_add_94 ?_
        refine e_iastore X.a11 (by omega) (by omega) rfl dX8_add_95 ?_
        refine X.sto11 (fun h9 X9 => ?_)
        replace X := X9
        clear X9
        refine e_aload_n dX8_add_96 rfl ?_
        refine e_getf fX8_48 X.obj rfl dX8_add_97 ?_
        refine e_iload_n dX8_add_100 rfl ?_
        refine e_ial X.a11 (by omega) (by omega) rfl (show uI _ _ _ _ = _ from uI_s _ _ _) dX8_add_101 ?_
        refine e_iret rfl dX8_add_102 (by decide) (by decide) ?_
        rw [(show (16 * (g : Int) + ((S g).length : Int)).toNat = 16 * g + (S g).length by omega)] at X
        have hS9 := hR.2.2.1.add hg c_35 c_20 (ar' := uA (uA (uA ar 9 (uI (ar 9) (16 * g + (S g).length) x)) 10 (uI (ar 10) (16 * g + (S g).length) y)) 11 (uI (ar 11) g (((S g).length : Int) + 1))) rfl rfl rfl
        exact mz (show (k_add S (g : Int) x y) = (0, ((S g).length : Int) + 1) from (((if_pos c_7).trans (if_pos c_20)).trans (if_pos c_35))) ⟨rfl, rfl, _, _, X, (by rw [show s_add S (g : Int) x y = uS S g (S g ++ [(x, y, ((S g).length : Int))]) from if_pos ⟨c_7, c_20, c_35⟩]; exact ⟨hR.1, hR.2.1, hS9, hR.2.2.2.1, hR.2.2.2.2⟩), ht⟩
      refine e_icmp_ge (tgt := 42) ⟨by omega, by omega⟩ ⟨by omega, by omega⟩ dX8_add_35 rfl (fun c_0 => ?_) (fun c_0 => absurd (by omega) c_0)
      refine e_iconst dX8_add_42 ?_
      refine e_top (bP ((S g).length < 16)) (bP_f c_35).symm ?_
      refine e_iconst dX8_add_43 ?_
      refine e_doesV qcX8_104 X.obj rfl rfl (S_fails_f X c_35 ht ⟨by decide, by decide⟩) rfl rfl rfl rfl dX8_add_44 ?_
      intro v h9 q9
      obtain ⟨rfl, X⟩ := q9
      refine e_if_eq (tgt := 52) ⟨by decide, by decide⟩ dX8_add_47 rfl (fun c_47 => absurd c_47 (by decide)) (fun c_47 => ?_)
      refine e_iconst dX8_add_50 ?_
      refine e_iret rfl dX8_add_51 (by decide) (by decide) ?_
      exact mz (show (k_add S (g : Int) x y) = (2, 0) from (((if_pos c_7).trans (if_pos c_20)).trans (if_neg c_35))) ⟨rfl, rfl, _, _, X, (by rw [show s_add S (g : Int) x y = S from if_neg (fun w => absurd w.2.2 c_35)]; exact hR.t0 _), uI_s _ _ _⟩
    refine e_doesV qcX8_104 X.obj rfl rfl (S_fails_f X c_20 ht ⟨by decide, by decide⟩) rfl rfl rfl rfl dX8_add_20 ?_
    intro v h9 q9
    obtain ⟨rfl, X⟩ := q9
    refine e_if_ne (tgt := 50) ⟨by decide, by decide⟩ dX8_add_23 rfl (fun c_23 => ?_) (fun c_23 => absurd (by decide) c_23)
    refine e_iconst dX8_add_50 ?_
    refine e_iret rfl dX8_add_51 (by decide) (by decide) ?_
    exact mz (show (k_add S (g : Int) x y) = (1, 0) from ((if_pos c_7).trans (if_neg c_20))) ⟨rfl, rfl, _, _, X, (by rw [show s_add S (g : Int) x y = S from if_neg (fun w => c_20 w.2.1)]; exact hR.t0 _), uI_s _ _ _⟩
  refine e_doesV qcX8_195 X.obj rfl rfl (S_noPolygon_f X rj c_7 ht) rfl rfl rfl rfl dX8_add_7 ?_
  intro v h9 q9
  obtain ⟨rfl, X⟩ := q9
  refine e_if_ne (tgt := 50) ⟨by decide, by decide⟩ dX8_add_10 rfl (fun c_10 => ?_) (fun c_10 => absurd (by decide) c_10)
  refine e_iconst dX8_add_50 ?_
  refine e_iret rfl dX8_add_51 (by decide) (by decide) ?_
  exact mz (show (k_add S j x y) = (1, 0) from (if_neg c_7)) ⟨rfl, rfl, _, _, X, (by rw [show s_add S j x y = S from if_neg (fun w => c_7 w.1)]; exact hR.t0 _), uI_s _ _ _⟩
set_option maxRecDepth 20000 in
theorem M_clear (X : mdX G sc0 ar m h0 h) (hR : mdR sc0 ar P E S b P2 E2 S2 F) {j : Int} (rj : r32 j) : Run G mX8_clear [.ref m, .int (iN j)] none h 0 0 (mZ G (k_clear S j) P E (s_clear S j) b P2 E2 S2 F m h0) := by
  have rj1 := rj.1
  have rj2 := rj.2
  refine run_of rfl plX8 rfl ?_
  refine e_aload_n dX8_clear_0 rfl ?_
  refine e_iconst dX8_clear_1 ?_
  refine e_putf pfX8_1 X.obj rfl rfl rfl dX8_clear_2 ?_
  refine X.pto (q := 0) (fun h9 X9 => ?_) rfl
  replace X := X9
  clear X9
  replace hR := hR.t0 0
  have ht : uI sc0 0 0 0 = 0 := uI_s _ _ _
  generalize uI sc0 0 0 = sc at X hR ht
  refine e_aload_n dX8_clear_5 rfl ?_
  refine e_iload_n dX8_clear_6 rfl ?_
  
  by_cases c_7 : pgOK j
  · obtain ⟨g, rfl⟩ : ∃ g : Nat, j = (g : Int) := ⟨j.toNat, by omega⟩
    have hg : g < 4 := by omega
    obtain ⟨s1, s2, s3, s4⟩ := id (hR.2.2.1 g hg)
    refine e_pureV qcX8_195 X.obj rfl rfl (S_noPolygon_t X rj c_7 ht) rfl rfl rfl rfl dX8_clear_7 ?_
    refine e_if_eq (tgt := 15) ⟨by decide, by decide⟩ dX8_clear_10 rfl (fun c_10 => ?_) (fun c_10 => absurd rfl c_10)
    refine e_aload_n dX8_clear_15 rfl ?_
    refine e_getf fX8_48 X.obj rfl dX8_clear_16 ?_
    refine e_iload_n dX8_clear_19 rfl ?_
    refine e_ial X.a11 (by omega) (by omega) rfl s1 dX8_clear_20 ?_
    refine e_istore_n dX8_clear_21 rfl ?_
    refine e_aload_n dX8_clear_22 rfl ?_
    refine e_getf fX8_48 X.obj rfl dX8_clear_23 ?_
    refine e_iload_n dX8_clear_26 rfl ?_
    refine e_iconst dX8_clear_27 ?_
    refine e_iastore X.a11 (by omega) (by omega) rfl dX8_clear_28 ?_
    refine X.sto11 (fun h9 X9 => ?_)
    replace X := X9
    clear X9
    refine e_iload_n dX8_clear_29 rfl ?_
    refine e_iret rfl dX8_clear_30 (by decide) (by decide) ?_
    have hS9 := hR.2.2.1.clr (g := g) (ar' := uA ar 11 (uI (ar 11) g 0)) rfl rfl rfl
    exact mz (show (k_clear S (g : Int)) = (0, ((S g).length : Int)) from (if_pos c_7)) ⟨rfl, rfl, _, _, X, (by rw [show s_clear S (g : Int) = uS S g [] from if_pos c_7]; exact ⟨hR.1, hR.2.1, hS9, hR.2.2.2.1, hR.2.2.2.2⟩), ht⟩
  refine e_doesV qcX8_195 X.obj rfl rfl (S_noPolygon_f X rj c_7 ht) rfl rfl rfl rfl dX8_clear_7 ?_
  intro v h9 q9
  obtain ⟨rfl, X⟩ := q9
  refine e_if_eq (tgt := 15) ⟨by decide, by decide⟩ dX8_clear_10 rfl (fun c_10 => absurd c_10 (by decide)) (fun c_10 => ?_)
  refine e_iconst dX8_clear_13 ?_
  refine e_iret rfl dX8_clear_14 (by decide) (by decide) ?_
  exact mz (show (k_clear S j) = (1, 0) from (if_neg c_7)) ⟨rfl, rfl, _, _, X, (by rw [show s_clear S j = S from if_neg c_7]; exact hR.t0 _), uI_s _ _ _⟩
set_option maxRecDepth 20000 in
theorem M_isSimple (X : mdX G sc0 ar m h0 h) (hR : mdR sc0 ar P E S b P2 E2 S2 F) {j : Int} (rj : r32 j) (hgc : ∀ g, g < 4 → (gdM (S g) ↔ closes (S g))) : Run G mX8_isSimple [.ref m, .int (iN j)] none h 0 0 (mZ G (k_isSimple S j) P E S b P2 E2 S2 F m h0) := by
  have rj1 := rj.1
  have rj2 := rj.2
  refine run_of rfl plX8 rfl ?_
  refine e_aload_n dX8_isSimple_0 rfl ?_
  refine e_iconst dX8_isSimple_1 ?_
  refine e_putf pfX8_1 X.obj rfl rfl rfl dX8_isSimple_2 ?_
  refine X.pto (q := 0) (fun h9 X9 => ?_) rfl
  replace X := X9
  clear X9
  replace hR := hR.t0 0
  have ht : uI sc0 0 0 0 = 0 := uI_s _ _ _
  generalize uI sc0 0 0 = sc at X hR ht
  refine e_aload_n dX8_isSimple_5 rfl ?_
  refine e_iload_n dX8_isSimple_6 rfl ?_
  
  by_cases c_7 : pgOK j
  · obtain ⟨g, rfl⟩ : ∃ g : Nat, j = (g : Int) := ⟨j.toNat, by omega⟩
    have hg : g < 4 := by omega
    obtain ⟨s1, s2, s3, s4⟩ := id (hR.2.2.1 g hg)
    refine e_pureV qcX8_195 X.obj rfl rfl (S_noPolygon_t X rj c_7 ht) rfl rfl rfl rfl dX8_isSimple_7 ?_
    refine e_if_ne (tgt := 25) ⟨by decide, by decide⟩ dX8_isSimple_10 rfl (fun c_10 => absurd rfl c_10) (fun c_10 => ?_)
    refine e_aload_n dX8_isSimple_13 rfl ?_
    refine e_iload_n dX8_isSimple_14 rfl ?_
    refine e_doesV qcX8_239 X.obj rfl rfl (S_isGood X hR.2.2.1 hg) rfl rfl rfl rfl dX8_isSimple_15 ?_
    intro v h9 q9
    obtain ⟨rfl, sc2, X, hA⟩ := q9
    replace hR := hR.to (hA.wk (by decide) (by decide)) hR.2.2.2.2
    replace ht := (hA.1 0 (by decide)).trans ht
    letI : Decidable (gdM (S g)) := Classical.propDecidable _
    refine e_ifP_eq (tgt := 25) dX8_isSimple_18 rfl (fun c_18 => ?_) (fun c_18 => ?_)
    · have e6 : (k_isSimple S (g : Int)) = (0, 0) := (if_pos c_7).trans (congrArg (fun v => ((0 : Nat), v)) (bC_f (fun w => c_18 ((hgc g hg).mpr w))))
      refine e_iconst dX8_isSimple_25 ?_
      refine e_zret rfl (by first | exact Or.inl rfl | exact Or.inr rfl | exact bP_01 _) dX8_isSimple_26 (by decide) (by decide) ?_
      exact mz e6 ⟨rfl, rfl, _, _, X, hR, ht⟩
    · have e6 : (k_isSimple S (g : Int)) = (0, 1) := (if_pos c_7).trans (congrArg (fun v => ((0 : Nat), v)) (bC_t ((hgc g hg).mp c_18)))
      refine e_iconst dX8_isSimple_21 ?_
      refine e_goto (tgt := 26) dX8_isSimple_22 rfl ?_
      refine e_zret rfl (by first | exact Or.inl rfl | exact Or.inr rfl | exact bP_01 _) dX8_isSimple_26 (by decide) (by decide) ?_
      exact mz e6 ⟨rfl, rfl, _, _, X, hR, ht⟩
  refine e_doesV qcX8_195 X.obj rfl rfl (S_noPolygon_f X rj c_7 ht) rfl rfl rfl rfl dX8_isSimple_7 ?_
  intro v h9 q9
  obtain ⟨rfl, X⟩ := q9
  refine e_if_ne (tgt := 25) ⟨by decide, by decide⟩ dX8_isSimple_10 rfl (fun c_10 => ?_) (fun c_10 => absurd (by decide) c_10)
  refine e_iconst dX8_isSimple_25 ?_
  refine e_zret rfl (by first | exact Or.inl rfl | exact Or.inr rfl | exact bP_01 _) dX8_isSimple_26 (by decide) (by decide) ?_
  exact mz (show (k_isSimple S j) = (1, 0) from (if_neg c_7)) ⟨rfl, rfl, _, _, X, hR.t0 _, uI_s _ _ _⟩
set_option maxRecDepth 20000 in
theorem M_polygonArea (X : mdX G sc0 ar m h0 h) (hR : mdR sc0 ar P E S b P2 E2 S2 F) {j : Int} (rj : r32 j) : Run G mX8_polygonArea [.ref m, .int (iN j)] none h 0 0 (mZ G (k_polygonArea S j) P E S b P2 E2 S2 F m h0) := by
  have rj1 := rj.1
  have rj2 := rj.2
  refine run_of rfl plX8 rfl ?_
  refine e_aload_n dX8_polygonArea_0 rfl ?_
  refine e_iconst dX8_polygonArea_1 ?_
  refine e_putf pfX8_1 X.obj rfl rfl rfl dX8_polygonArea_2 ?_
  refine X.pto (q := 0) (fun h9 X9 => ?_) rfl
  replace X := X9
  clear X9
  replace hR := hR.t0 0
  have ht : uI sc0 0 0 0 = 0 := uI_s _ _ _
  generalize uI sc0 0 0 = sc at X hR ht
  refine e_aload_n dX8_polygonArea_5 rfl ?_
  refine e_iload_n dX8_polygonArea_6 rfl ?_
  
  by_cases c_7 : pgOK j
  · obtain ⟨g, rfl⟩ : ∃ g : Nat, j = (g : Int) := ⟨j.toNat, by omega⟩
    have hg : g < 4 := by omega
    obtain ⟨s1, s2, s3, s4⟩ := id (hR.2.2.1 g hg)
    refine e_pureV qcX8_195 X.obj rfl rfl (S_noPolygon_t X rj c_7 ht) rfl rfl rfl rfl dX8_polygonArea_7 ?_
    refine e_if_eq (tgt := 17) ⟨by decide, by decide⟩ dX8_polygonArea_10 rfl (fun c_10 => ?_) (fun c_10 => absurd rfl c_10)
    refine e_aload_n dX8_polygonArea_17 rfl ?_
    refine e_iload_n dX8_polygonArea_18 rfl ?_
    refine e_pureV qcX8_242 X.obj rfl rfl (S_doubledOf X hR.2.2.1 hg) rfl rfl rfl rfl dX8_polygonArea_19 ?_
    refine e_iret rfl dX8_polygonArea_22 (by decide) (by decide) ?_
    exact mz (show (k_polygonArea S (g : Int)) = (0, da (S g)) from (if_pos c_7)) ⟨rfl, rfl, _, _, X, hR, ht⟩
  refine e_doesV qcX8_195 X.obj rfl rfl (S_noPolygon_f X rj c_7 ht) rfl rfl rfl rfl dX8_polygonArea_7 ?_
  intro v h9 q9
  obtain ⟨rfl, X⟩ := q9
  refine e_if_eq (tgt := 17) ⟨by decide, by decide⟩ dX8_polygonArea_10 rfl (fun c_10 => absurd c_10 (by decide)) (fun c_10 => ?_)
  refine e_iconst dX8_polygonArea_13 ?_
  refine e_goto (tgt := 22) dX8_polygonArea_14 rfl ?_
  refine e_iret rfl dX8_polygonArea_22 (by decide) (by decide) ?_
  exact mz (show (k_polygonArea S j) = (1, 0) from (if_neg c_7)) ⟨rfl, rfl, _, _, X, hR.t0 _, uI_s _ _ _⟩
set_option maxRecDepth 20000 in
theorem pe_loop (X : mdX G sc ar m h0 h) (hR : mdR sc ar P E S b P2 E2 S2 F) (ht : sc 0 = 0) {g : Nat} (hg : g < 4) : ∀ (n k : Nat), k + n = (S g).length → Ev (g_B G mX8_polygonEdge 0 0 (mZ G ((0, srd (S g)) : Nat × Int) P E S b P2 E2 S2 F m h0)) 0 0 none h 19 [(3, .int (iN (k : Nat))), (2, .int (iN (sumN (fun i => (gsE (S g) i : Int)) (k)))), (0, .ref m), (1, .int (iN g))] [] := by
  have hS9 := hR.2.2.1
  obtain ⟨s1, s2, s3, s4⟩ := id (hR.2.2.1 g hg)
  intro n
  induction n with
  | zero =>
    intro k hkn
    have e9 : k = (S g).length := by omega
    rw [e9]
    refine e_iload_n dX8_polygonEdge_19 rfl ?_
    refine e_aload_n dX8_polygonEdge_20 rfl ?_
    refine e_getf fX8_48 X.obj rfl dX8_polygonEdge_21 ?_
    refine e_iload_n dX8_polygonEdge_24 rfl ?_
    refine e_ial X.a11 (by omega) (by omega) rfl s1 dX8_polygonEdge_25 ?_
    refine e_icmp_ge (tgt := 89) ⟨by omega, by omega⟩ ⟨by omega, by omega⟩ dX8_polygonEdge_26 rfl (fun c_26 => ?_) (fun c_26 => absurd (by omega) c_26)
    refine e_iload_n dX8_polygonEdge_89 rfl ?_
    refine e_iret rfl dX8_polygonEdge_90 (by decide) (by decide) ?_
    exact ⟨rfl, rfl, _, _, X, hR, ht⟩
  | succ n ih =>
    intro k hkn
    have hk : k < (S g).length := by omega
    have hn := nxt_lt hk
    have b1 := s3.at hk
    have b2 := s3.at hn
    refine e_iload_n dX8_polygonEdge_19 rfl ?_
    refine e_aload_n dX8_polygonEdge_20 rfl ?_
    refine e_getf fX8_48 X.obj rfl dX8_polygonEdge_21 ?_
    refine e_iload_n dX8_polygonEdge_24 rfl ?_
    refine e_ial X.a11 (by omega) (by omega) rfl s1 dX8_polygonEdge_25 ?_
    refine e_icmp_ge (tgt := 89) ⟨by omega, by omega⟩ ⟨by omega, by omega⟩ dX8_polygonEdge_26 rfl (fun c_26 => absurd c_26 (by omega)) (fun c_26 => ?_)
    refine e_aload_n dX8_polygonEdge_29 rfl ?_
    refine e_iload_n dX8_polygonEdge_30 rfl ?_
    refine e_iload_n dX8_polygonEdge_31 rfl ?_
    refine e_pureV qcX8_226 X.obj rfl rfl (S_corner0 X hS9 hg hk) rfl rfl rfl rfl dX8_polygonEdge_32 ?_
    refine e_istore dX8_polygonEdge_35 rfl ?_
    refine e_aload_n dX8_polygonEdge_37 rfl ?_
    refine e_iload_n dX8_polygonEdge_38 rfl ?_
    refine e_iload_n dX8_polygonEdge_39 rfl ?_
    refine e_iconst dX8_polygonEdge_40 ?_
    refine e_iadd dX8_polygonEdge_41 ?_
    refine e_pureV qcX8_226 X.obj rfl rfl (S_corner1 X hS9 hg hk) rfl rfl rfl rfl dX8_polygonEdge_42 ?_
    refine e_istore dX8_polygonEdge_45 rfl ?_
    refine e_iload_n dX8_polygonEdge_47 rfl ?_
    refine e_aload_n dX8_polygonEdge_48 rfl ?_
    refine e_getf fX8_42 X.obj rfl dX8_polygonEdge_49 ?_
    refine e_iload dX8_polygonEdge_52 rfl ?_
    refine e_ial X.a9 (by omega) (by omega) rfl ((congrArg _ (show (16 * ((g : Nat) : Int) + (((nxt (S g).length k) : Nat) : Int)).toNat = 16 * g + (nxt (S g).length k) by omega)).trans (s4 (nxt (S g).length k) hn).1) dX8_polygonEdge_54 ?_
    refine e_aload_n dX8_polygonEdge_55 rfl ?_
    refine e_getf fX8_42 X.obj rfl dX8_polygonEdge_56 ?_
    refine e_iload dX8_polygonEdge_59 rfl ?_
    refine e_ial X.a9 (by omega) (by omega) rfl ((congrArg _ (show (16 * ((g : Nat) : Int) + ((k : Nat) : Int)).toNat = 16 * g + k by omega)).trans (s4 k hk).1) dX8_polygonEdge_61 ?_
    refine e_isub dX8_polygonEdge_62 ?_
    refine e_aload_n dX8_polygonEdge_63 rfl ?_
    refine e_getf fX8_45 X.obj rfl dX8_polygonEdge_64 ?_
    refine e_iload dX8_polygonEdge_67 rfl ?_
    refine e_ial X.a10 (by omega) (by omega) rfl ((congrArg _ (show (16 * ((g : Nat) : Int) + (((nxt (S g).length k) : Nat) : Int)).toNat = 16 * g + (nxt (S g).length k) by omega)).trans (s4 (nxt (S g).length k) hn).2) dX8_polygonEdge_69 ?_
    refine e_aload_n dX8_polygonEdge_70 rfl ?_
    refine e_getf fX8_45 X.obj rfl dX8_polygonEdge_71 ?_
    refine e_iload dX8_polygonEdge_74 rfl ?_
    refine e_ial X.a10 (by omega) (by omega) rfl ((congrArg _ (show (16 * ((g : Nat) : Int) + ((k : Nat) : Int)).toNat = 16 * g + k by omega)).trans (s4 k hk).2) dX8_polygonEdge_76 ?_
    refine e_isub dX8_polygonEdge_77 ?_
    refine e_pureS qcX8_176 (S_common (x := rnE (S g) k) (y := rsE (S g) k) rfl rfl (show Nat.gcd _ _ = gsE (S g) k from rfl) ⟨by show _ ≤ _ - _; omega, by show _ - _ ≤ _; omega⟩ ⟨by show _ ≤ _ - _; omega, by show _ - _ ≤ _; omega⟩) rfl rfl rfl rfl dX8_polygonEdge_78 ?_
    refine e_iadd dX8_polygonEdge_81 ?_
    refine e_istore_n dX8_polygonEdge_82 rfl ?_
    refine e_iinc dX8_polygonEdge_83 rfl ?_
    refine e_goto (tgt := 19) dX8_polygonEdge_86 rfl ?_
    exact e_loc [(3, .int (iN (k + 1 : Nat))), (2, .int (iN (sumN (fun i => (gsE (S g) i : Int)) (k + 1)))), (0, .ref m), (1, .int (iN g))] ⟨rfl, rfl, rfl, rfl, trivial⟩ (ih (k + 1) (by omega))
set_option maxRecDepth 20000 in
theorem M_polygonEdge (X : mdX G sc0 ar m h0 h) (hR : mdR sc0 ar P E S b P2 E2 S2 F) {j : Int} (rj : r32 j) (hgc : ∀ g, g < 4 → (gdM (S g) ↔ closes (S g))) : Run G mX8_polygonEdge [.ref m, .int (iN j)] none h 0 0 (mZ G (k_polygonEdge S j) P E S b P2 E2 S2 F m h0) := by
  have rj1 := rj.1
  have rj2 := rj.2
  refine run_of rfl plX8 rfl ?_
  refine e_aload_n dX8_polygonEdge_0 rfl ?_
  refine e_iconst dX8_polygonEdge_1 ?_
  refine e_putf pfX8_1 X.obj rfl rfl rfl dX8_polygonEdge_2 ?_
  refine X.pto (q := 0) (fun h9 X9 => ?_) rfl
  replace X := X9
  clear X9
  replace hR := hR.t0 0
  have ht : uI sc0 0 0 0 = 0 := uI_s _ _ _
  generalize uI sc0 0 0 = sc at X hR ht
  refine e_aload_n dX8_polygonEdge_5 rfl ?_
  refine e_iload_n dX8_polygonEdge_6 rfl ?_
  
  by_cases c_1 : pgOK j
  · obtain ⟨g, rfl⟩ : ∃ g : Nat, j = (g : Int) := ⟨j.toNat, by omega⟩
    have hg : g < 4 := by omega
    obtain ⟨s1, s2, s3, s4⟩ := id (hR.2.2.1 g hg)
    by_cases c_2 : closes (S g)
    · refine e_doesV qcX8_245 X.obj rfl rfl (S_noSimple_t X hR.2.2.1 hg hgc c_2 ht) rfl rfl rfl rfl dX8_polygonEdge_7 ?_
      intro v h9 q9
      obtain ⟨rfl, sc2, X, hA⟩ := q9
      replace hR := hR.to (hA.wk (by decide) (by decide)) hR.2.2.2.2
      replace ht := (hA.1 0 (by decide)).trans ht
      clear hA
      generalize sc2 = sc at X hR ht
      refine e_if_eq (tgt := 15) ⟨by decide, by decide⟩ dX8_polygonEdge_10 rfl (fun c_10 => ?_) (fun c_10 => absurd rfl c_10)
      refine e_iconst dX8_polygonEdge_15 ?_
      refine e_istore_n dX8_polygonEdge_16 rfl ?_
      refine e_iconst dX8_polygonEdge_17 ?_
      refine e_istore_n dX8_polygonEdge_18 rfl ?_
      rw [show (k_polygonEdge S (g : Int)) = (0, srd (S g)) from (if_pos c_1).trans (cif_t c_2)]
      exact e_loc [(3, .int (iN (0 : Nat))), (2, .int (iN (sumN (fun i => (gsE (S g) i : Int)) (0)))), (0, .ref m), (1, .int (iN g))] ⟨rfl, rfl, rfl, rfl, trivial⟩ (pe_loop X hR ht hg _ 0 (Nat.zero_add _))
    refine e_doesV qcX8_245 X.obj rfl rfl (S_noSimple_f2 X hR.2.2.1 hg hgc c_2 ht) rfl rfl rfl rfl dX8_polygonEdge_7 ?_
    intro v h9 q9
    obtain ⟨rfl, sc2, X, hA⟩ := q9
    replace hR := hR.to (hA.wk (by decide) (by decide)) hR.2.2.2.2
    refine e_if_eq (tgt := 15) ⟨by decide, by decide⟩ dX8_polygonEdge_10 rfl (fun c_10 => absurd c_10 (by decide)) (fun c_10 => ?_)
    refine e_iconst dX8_polygonEdge_13 ?_
    refine e_iret rfl dX8_polygonEdge_14 (by decide) (by decide) ?_
    exact mz (show (k_polygonEdge S (g : Int)) = (2, 0) from ((if_pos c_1).trans (cif_f c_2))) ⟨rfl, rfl, _, _, X, hR.t0 _, uI_s _ _ _⟩
  refine e_doesV qcX8_245 X.obj rfl rfl (S_noSimple_f1 X rj c_1 ht) rfl rfl rfl rfl dX8_polygonEdge_7 ?_
  intro v h9 q9
  obtain ⟨rfl, X⟩ := q9
  refine e_if_eq (tgt := 15) ⟨by decide, by decide⟩ dX8_polygonEdge_10 rfl (fun c_10 => absurd c_10 (by decide)) (fun c_10 => ?_)
  refine e_iconst dX8_polygonEdge_13 ?_
  refine e_iret rfl dX8_polygonEdge_14 (by decide) (by decide) ?_
  exact mz (show (k_polygonEdge S j) = (1, 0) from (if_neg c_1)) ⟨rfl, rfl, _, _, X, hR.t0 _, uI_s _ _ _⟩
/-- the places of a row from -200 on that are inside, of the first n; of the first n rows -/
noncomputable def piX (L : PL) (y : Int) : Nat → Nat
  | 0 => 0
  | n + 1 => if 0 < wI L 1 ((n : Int) - 200) y then piX L y n + 1 else piX L y n
noncomputable def piY (L : PL) : Nat → Nat
  | 0 => 0
  | n + 1 => piY L n + piX L ((n : Int) - 200) 401
set_option maxRecDepth 20000 in
theorem pi_inner8 {Z : g_Z} (X : mdX G sc ar m h0 h) (hR : mdR sc ar P E S b P2 E2 S2 F) (ht : sc 0 = 0) {g : Nat} (hg : g < 4) {t : Nat} (ht4 : t < 401) (k : Ev (g_B G mX8_polygonInner 0 0 Z) 0 0 none h 69 [(3, .int (iN (((t : Nat) : Int) - 200))), (2, .int (iN (piY (S g) t + piX (S g) ((t : Int) - 200) 401 : Nat))), (0, .ref m), (1, .int (iN g))] []) : ∀ (n u : Nat), u + n = 401 → Ev (g_B G mX8_polygonInner 0 0 Z) 0 0 none h 33 [(4, .int (iN (((u : Nat) : Int) - 200))), (3, .int (iN (((t : Nat) : Int) - 200))), (2, .int (iN (piY (S g) t + piX (S g) ((t : Int) - 200) u : Nat))), (0, .ref m), (1, .int (iN g))] [] := by
  intro n
  induction n with
  | zero =>
    intro u hun
    have e9 : u = 401 := by omega
    subst e9
    refine e_iload dX8_polygonInner_33 rfl ?_
    refine e_sipush dX8_polygonInner_35 (by decide) ?_
    refine e_icmp_gt (tgt := 69) ⟨by omega, by omega⟩ ⟨by omega, by omega⟩ dX8_polygonInner_38 rfl (fun c_38 => ?_) (fun c_38 => absurd (by omega) c_38)
    exact e_loc [(3, .int (iN (((t : Nat) : Int) - 200))), (2, .int (iN (piY (S g) t + piX (S g) ((t : Int) - 200) 401 : Nat))), (0, .ref m), (1, .int (iN g))] ⟨rfl, rfl, rfl, rfl, trivial⟩ k
  | succ n ih =>
    intro u hun
    have hw := wI_b (S g) 1 ((u : Int) - 200) ((t : Int) - 200)
    refine e_iload dX8_polygonInner_33 rfl ?_
    refine e_sipush dX8_polygonInner_35 (by decide) ?_
    refine e_icmp_gt (tgt := 69) ⟨by omega, by omega⟩ ⟨by omega, by omega⟩ dX8_polygonInner_38 rfl (fun c_38 => absurd c_38 (by omega)) (fun c_38 => ?_)
    refine e_iload_n dX8_polygonInner_41 rfl ?_
    refine e_aload_n dX8_polygonInner_42 rfl ?_
    refine e_iload_n dX8_polygonInner_43 rfl ?_
    refine e_iload dX8_polygonInner_44 rfl ?_
    refine e_i2l ⟨by omega, by omega⟩ dX8_polygonInner_46 ?_
    refine e_iload_n dX8_polygonInner_47 rfl ?_
    refine e_i2l ⟨by omega, by omega⟩ dX8_polygonInner_48 ?_
    refine e_iconst dX8_polygonInner_49 ?_
    refine e_pureV qcX8_248 X.obj rfl rfl (S_sideOf X hR.2.2.1 hg (s := 1) ⟨by decide, by decide⟩ ⟨by omega, by omega⟩ ⟨by omega, by omega⟩) rfl rfl rfl rfl dX8_polygonInner_50 ?_
    refine e_if_le (tgt := 60) ⟨by omega, by omega⟩ dX8_polygonInner_53 rfl (fun c_53 => ?_) (fun c_53 => ?_)
    · have e6 : piX (S g) ((t : Int) - 200) (u + 1) = piX (S g) ((t : Int) - 200) u := if_neg (Int.not_lt.mpr c_53)
      refine e_iconst dX8_polygonInner_60 ?_
      refine e_iadd dX8_polygonInner_61 ?_
      refine e_istore_n dX8_polygonInner_62 rfl ?_
      refine e_iinc dX8_polygonInner_63 rfl ?_
      refine e_goto (tgt := 33) dX8_polygonInner_66 rfl ?_
      refine e_loc [(4, .int (iN (((u + 1 : Nat) : Int) - 200))), (3, .int (iN (((t : Nat) : Int) - 200))), (2, .int (iN (piY (S g) t + piX (S g) ((t : Int) - 200) (u + 1) : Nat))), (0, .ref m), (1, .int (iN g))] ⟨?_, rfl, ?_, rfl, rfl, trivial⟩ (ih (u + 1) (by omega))
      · exact congrArg (fun v => some (Value.int (iN v))) (show (u : Int) - 200 + 1 = ((u + 1 : Nat) : Int) - 200 by omega)
      · rw [e6]
        exact congrArg (fun v => some (Value.int (iN v))) (by omega)
    · have e6 : piX (S g) ((t : Int) - 200) (u + 1) = piX (S g) ((t : Int) - 200) u + 1 := if_pos (Int.not_le.mp c_53)
      refine e_iconst dX8_polygonInner_56 ?_
      refine e_goto (tgt := 61) dX8_polygonInner_57 rfl ?_
      refine e_iadd dX8_polygonInner_61 ?_
      refine e_istore_n dX8_polygonInner_62 rfl ?_
      refine e_iinc dX8_polygonInner_63 rfl ?_
      refine e_goto (tgt := 33) dX8_polygonInner_66 rfl ?_
      refine e_loc [(4, .int (iN (((u + 1 : Nat) : Int) - 200))), (3, .int (iN (((t : Nat) : Int) - 200))), (2, .int (iN (piY (S g) t + piX (S g) ((t : Int) - 200) (u + 1) : Nat))), (0, .ref m), (1, .int (iN g))] ⟨?_, rfl, ?_, rfl, rfl, trivial⟩ (ih (u + 1) (by omega))
      · exact congrArg (fun v => some (Value.int (iN v))) (show (u : Int) - 200 + 1 = ((u + 1 : Nat) : Int) - 200 by omega)
      · rw [e6]
        exact congrArg (fun v => some (Value.int (iN v))) (by omega)
set_option maxRecDepth 20000 in
theorem pi_outer8 (X : mdX G sc ar m h0 h) (hR : mdR sc ar P E S b P2 E2 S2 F) (ht : sc 0 = 0) {g : Nat} (hg : g < 4) : ∀ (n t : Nat), t + n = 401 → Ev (g_B G mX8_polygonInner 0 0 (mZ G ((0, (piY (S g) 401 : Int)) : Nat × Int) P E S b P2 E2 S2 F m h0)) 0 0 none h 21 [(3, .int (iN (((t : Nat) : Int) - 200))), (2, .int (iN (piY (S g) t : Nat))), (0, .ref m), (1, .int (iN g))] [] := by
  intro n
  induction n with
  | zero =>
    intro t htn
    have e9 : t = 401 := by omega
    subst e9
    refine e_iload_n dX8_polygonInner_21 rfl ?_
    refine e_sipush dX8_polygonInner_22 (by decide) ?_
    refine e_icmp_gt (tgt := 75) ⟨by omega, by omega⟩ ⟨by omega, by omega⟩ dX8_polygonInner_25 rfl (fun c_25 => ?_) (fun c_25 => absurd (by omega) c_25)
    refine e_iload_n dX8_polygonInner_75 rfl ?_
    refine e_iret rfl dX8_polygonInner_76 (by decide) (by decide) ?_
    exact ⟨rfl, rfl, _, _, X, hR, ht⟩
  | succ n ih =>
    intro t htn
    refine e_iload_n dX8_polygonInner_21 rfl ?_
    refine e_sipush dX8_polygonInner_22 (by decide) ?_
    refine e_icmp_gt (tgt := 75) ⟨by omega, by omega⟩ ⟨by omega, by omega⟩ dX8_polygonInner_25 rfl (fun c_25 => absurd c_25 (by omega)) (fun c_25 => ?_)
    refine e_sipush dX8_polygonInner_28 (by decide) ?_
    refine e_istore dX8_polygonInner_31 rfl ?_
    refine e_loc [(4, .int (iN (((0 : Nat) : Int) - 200))), (3, .int (iN (((t : Nat) : Int) - 200))), (2, .int (iN (piY (S g) t + piX (S g) ((t : Int) - 200) 0 : Nat))), (0, .ref m), (1, .int (iN g))] ⟨rfl, rfl, rfl, rfl, rfl, trivial⟩ (pi_inner8 X hR ht hg (by omega) ?_ _ 0 (Nat.zero_add _))
    refine e_iinc dX8_polygonInner_69 rfl ?_
    refine e_goto (tgt := 21) dX8_polygonInner_72 rfl ?_
    refine e_loc [(3, .int (iN (((t + 1 : Nat) : Int) - 200))), (2, .int (iN (piY (S g) (t + 1) : Nat))), (0, .ref m), (1, .int (iN g))] ⟨?_, rfl, rfl, rfl, trivial⟩ (ih (t + 1) (by omega))
    exact congrArg (fun v => some (Value.int (iN v))) (show (t : Int) - 200 + 1 = ((t + 1 : Nat) : Int) - 200 by omega)
set_option maxRecDepth 20000 in
theorem M_polygonInner (X : mdX G sc0 ar m h0 h) (hR : mdR sc0 ar P E S b P2 E2 S2 F) {j : Int} (rj : r32 j) (hgc : ∀ g, g < 4 → (gdM (S g) ↔ closes (S g))) (hm : ∀ g : Nat, g < 4 → closes (S g) → (piY (S g) 401 : Int) = pin (S g)) : Run G mX8_polygonInner [.ref m, .int (iN j)] none h 0 0 (mZ G (k_polygonInner S j) P E S b P2 E2 S2 F m h0) := by
  have rj1 := rj.1
  have rj2 := rj.2
  refine run_of rfl plX8 rfl ?_
  refine e_aload_n dX8_polygonInner_0 rfl ?_
  refine e_iconst dX8_polygonInner_1 ?_
  refine e_putf pfX8_1 X.obj rfl rfl rfl dX8_polygonInner_2 ?_
  refine X.pto (q := 0) (fun h9 X9 => ?_) rfl
  replace X := X9
  clear X9
  replace hR := hR.t0 0
  have ht : uI sc0 0 0 0 = 0 := uI_s _ _ _
  generalize uI sc0 0 0 = sc at X hR ht
  refine e_aload_n dX8_polygonInner_5 rfl ?_
  refine e_iload_n dX8_polygonInner_6 rfl ?_
  
  by_cases c_1 : pgOK j
  · obtain ⟨g, rfl⟩ : ∃ g : Nat, j = (g : Int) := ⟨j.toNat, by omega⟩
    have hg : g < 4 := by omega
    obtain ⟨s1, s2, s3, s4⟩ := id (hR.2.2.1 g hg)
    by_cases c_2 : closes (S g)
    · refine e_doesV qcX8_245 X.obj rfl rfl (S_noSimple_t X hR.2.2.1 hg hgc c_2 ht) rfl rfl rfl rfl dX8_polygonInner_7 ?_
      intro v h9 q9
      obtain ⟨rfl, sc2, X, hA⟩ := q9
      replace hR := hR.to (hA.wk (by decide) (by decide)) hR.2.2.2.2
      replace ht := (hA.1 0 (by decide)).trans ht
      clear hA
      generalize sc2 = sc at X hR ht
      refine e_if_eq (tgt := 15) ⟨by decide, by decide⟩ dX8_polygonInner_10 rfl (fun c_10 => ?_) (fun c_10 => absurd rfl c_10)
      refine e_iconst dX8_polygonInner_15 ?_
      refine e_istore_n dX8_polygonInner_16 rfl ?_
      refine e_sipush dX8_polygonInner_17 (by decide) ?_
      refine e_istore_n dX8_polygonInner_20 rfl ?_
      rw [show (k_polygonInner S (g : Int)) = (0, (piY (S g) 401 : Int)) from ((if_pos c_1).trans (cif_t c_2)).trans (by rw [hm g hg c_2]; rfl)]
      exact e_loc [(3, .int (iN (((0 : Nat) : Int) - 200))), (2, .int (iN (piY (S g) 0 : Nat))), (0, .ref m), (1, .int (iN g))] ⟨rfl, rfl, rfl, rfl, trivial⟩ (pi_outer8 X hR ht hg _ 0 (Nat.zero_add _))
    refine e_doesV qcX8_245 X.obj rfl rfl (S_noSimple_f2 X hR.2.2.1 hg hgc c_2 ht) rfl rfl rfl rfl dX8_polygonInner_7 ?_
    intro v h9 q9
    obtain ⟨rfl, sc2, X, hA⟩ := q9
    replace hR := hR.to (hA.wk (by decide) (by decide)) hR.2.2.2.2
    refine e_if_eq (tgt := 15) ⟨by decide, by decide⟩ dX8_polygonInner_10 rfl (fun c_10 => absurd c_10 (by decide)) (fun c_10 => ?_)
    refine e_iconst dX8_polygonInner_13 ?_
    refine e_iret rfl dX8_polygonInner_14 (by decide) (by decide) ?_
    exact mz (show (k_polygonInner S (g : Int)) = (2, 0) from ((if_pos c_1).trans (cif_f c_2))) ⟨rfl, rfl, _, _, X, hR.t0 _, uI_s _ _ _⟩
  refine e_doesV qcX8_245 X.obj rfl rfl (S_noSimple_f1 X rj c_1 ht) rfl rfl rfl rfl dX8_polygonInner_7 ?_
  intro v h9 q9
  obtain ⟨rfl, X⟩ := q9
  refine e_if_eq (tgt := 15) ⟨by decide, by decide⟩ dX8_polygonInner_10 rfl (fun c_10 => absurd c_10 (by decide)) (fun c_10 => ?_)
  refine e_iconst dX8_polygonInner_13 ?_
  refine e_iret rfl dX8_polygonInner_14 (by decide) (by decide) ?_
  exact mz (show (k_polygonInner S j) = (1, 0) from (if_neg c_1)) ⟨rfl, rfl, _, _, X, hR.t0 _, uI_s _ _ _⟩
set_option maxRecDepth 20000 in
theorem M_polygonLies (X : mdX G sc0 ar m h0 h) (hR : mdR sc0 ar P E S b P2 E2 S2 F) {j : Int} (rj : r32 j) {x : Int} (rx : r32 x) {y : Int} (ry : r32 y) (hgc : ∀ g, g < 4 → (gdM (S g) ↔ closes (S g))) (hm : ∀ g : Nat, g < 4 → ¬ nrOK x y → wI (S g) 1 x y = -1) : Run G mX8_polygonLies [.ref m, .int (iN j), .int (iN x), .int (iN y)] none h 0 0 (mZ G (k_polygonLies S j x y) P E S b P2 E2 S2 F m h0) := by
  have rj1 := rj.1
  have rj2 := rj.2
  have rx1 := rx.1
  have rx2 := rx.2
  have ry1 := ry.1
  have ry2 := ry.2
  refine run_of rfl plX8 rfl ?_
  refine e_aload_n dX8_polygonLies_0 rfl ?_
  refine e_iconst dX8_polygonLies_1 ?_
  refine e_putf pfX8_1 X.obj rfl rfl rfl dX8_polygonLies_2 ?_
  refine X.pto (q := 0) (fun h9 X9 => ?_) rfl
  replace X := X9
  clear X9
  replace hR := hR.t0 0
  have ht : uI sc0 0 0 0 = 0 := uI_s _ _ _
  generalize uI sc0 0 0 = sc at X hR ht
  refine e_aload_n dX8_polygonLies_5 rfl ?_
  refine e_iload_n dX8_polygonLies_6 rfl ?_
  
  by_cases c_1 : pgOK j
  · obtain ⟨g, rfl⟩ : ∃ g : Nat, j = (g : Int) := ⟨j.toNat, by omega⟩
    have hg : g < 4 := by omega
    obtain ⟨s1, s2, s3, s4⟩ := id (hR.2.2.1 g hg)
    by_cases c_2 : closes (S g)
    · refine e_doesV qcX8_245 X.obj rfl rfl (S_noSimple_t X hR.2.2.1 hg hgc c_2 ht) rfl rfl rfl rfl dX8_polygonLies_7 ?_
      intro v h9 q9
      obtain ⟨rfl, sc2, X, hA⟩ := q9
      replace hR := hR.to (hA.wk (by decide) (by decide)) hR.2.2.2.2
      replace ht := (hA.1 0 (by decide)).trans ht
      clear hA
      generalize sc2 = sc at X hR ht
      refine e_if_eq (tgt := 15) ⟨by decide, by decide⟩ dX8_polygonLies_10 rfl (fun c_10 => ?_) (fun c_10 => absurd rfl c_10)
      refine e_iload_n dX8_polygonLies_15 rfl ?_
      refine e_iload_n dX8_polygonLies_16 rfl ?_
      refine e_pureS qcX8_115 (S_isPlace rx ry) rfl rfl rfl rfl dX8_polygonLies_17 ?_
      refine e_ifP_eq (tgt := 36) dX8_polygonLies_20 rfl (fun c_20 => ?_) (fun c_20 => ?_)
      · refine e_iconst dX8_polygonLies_36 ?_
        refine e_top (wI (S g) 1 x y) (hm g hg c_20).symm ?_
        refine e_iret rfl dX8_polygonLies_37 (by decide) (by decide) ?_
        exact mz (show (k_polygonLies S (g : Int) x y) = (0, wI (S g) 1 x y) from ((if_pos c_1).trans (cif_t c_2))) ⟨rfl, rfl, _, _, X, hR, ht⟩
      · refine e_aload_n dX8_polygonLies_23 rfl ?_
        refine e_iload_n dX8_polygonLies_24 rfl ?_
        refine e_iload_n dX8_polygonLies_25 rfl ?_
        refine e_i2l ⟨by omega, by omega⟩ dX8_polygonLies_26 ?_
        refine e_iload_n dX8_polygonLies_27 rfl ?_
        refine e_i2l ⟨by omega, by omega⟩ dX8_polygonLies_28 ?_
        refine e_iconst dX8_polygonLies_29 ?_
        refine e_pureV qcX8_248 X.obj rfl rfl (S_sideOf X hR.2.2.1 hg (s := 1) ⟨by decide, by decide⟩ ⟨by omega, by omega⟩ ⟨by omega, by omega⟩) rfl rfl rfl rfl dX8_polygonLies_30 ?_
        refine e_goto (tgt := 37) dX8_polygonLies_33 rfl ?_
        refine e_iret rfl dX8_polygonLies_37 (by decide) (by decide) ?_
        exact mz (show (k_polygonLies S (g : Int) x y) = (0, wI (S g) 1 x y) from ((if_pos c_1).trans (cif_t c_2))) ⟨rfl, rfl, _, _, X, hR, ht⟩
    refine e_doesV qcX8_245 X.obj rfl rfl (S_noSimple_f2 X hR.2.2.1 hg hgc c_2 ht) rfl rfl rfl rfl dX8_polygonLies_7 ?_
    intro v h9 q9
    obtain ⟨rfl, sc2, X, hA⟩ := q9
    replace hR := hR.to (hA.wk (by decide) (by decide)) hR.2.2.2.2
    refine e_if_eq (tgt := 15) ⟨by decide, by decide⟩ dX8_polygonLies_10 rfl (fun c_10 => absurd c_10 (by decide)) (fun c_10 => ?_)
    refine e_iconst dX8_polygonLies_13 ?_
    refine e_iret rfl dX8_polygonLies_14 (by decide) (by decide) ?_
    exact mz (show (k_polygonLies S (g : Int) x y) = (2, 0) from ((if_pos c_1).trans (cif_f c_2))) ⟨rfl, rfl, _, _, X, hR.t0 _, uI_s _ _ _⟩
  refine e_doesV qcX8_245 X.obj rfl rfl (S_noSimple_f1 X rj c_1 ht) rfl rfl rfl rfl dX8_polygonLies_7 ?_
  intro v h9 q9
  obtain ⟨rfl, X⟩ := q9
  refine e_if_eq (tgt := 15) ⟨by decide, by decide⟩ dX8_polygonLies_10 rfl (fun c_10 => absurd c_10 (by decide)) (fun c_10 => ?_)
  refine e_iconst dX8_polygonLies_13 ?_
  refine e_iret rfl dX8_polygonLies_14 (by decide) (by decide) ?_
  exact mz (show (k_polygonLies S j x y) = (1, 0) from (if_neg c_1)) ⟨rfl, rfl, _, _, X, hR.t0 _, uI_s _ _ _⟩
set_option maxRecDepth 20000 in
theorem ho_loop8 (X : mdX G sc ar m h0 h) (hR : mdR sc ar P E S b P2 E2 S2 F) (ht : sc 0 = 0) {g : Nat} (hg : g < 4) {a : Int} (ra : r32 a) : ∀ (n p : Nat), p + n = P.length → Ev (g_B G mX8_holds 0 0 (mZ G ((0, (hdN P (S g) a P.length : Int)) : Nat × Int) P E S b P2 E2 S2 F m h0)) 0 0 none h 36 [(4, .int (iN (p : Nat))), (3, .int (iN (hdN P (S g) a (p) : Nat))), (0, .ref m), (1, .int (iN g)), (2, .int (iN a))] [] := by
  obtain ⟨e1, e2, e3, e4⟩ := hR.1
  have ra1 := ra.1
  have ra2 := ra.2
  intro n
  induction n with
  | zero =>
    intro p hpn
    have e9 : p = P.length := by omega
    rw [e9]
    refine e_iload dX8_holds_36 rfl ?_
    refine e_aload_n dX8_holds_38 rfl ?_
    refine e_getf fX8_108 X.obj rfl dX8_holds_39 ?_
    rw [e1]
    refine e_icmp_ge (tgt := 95) ⟨by omega, by omega⟩ ⟨by omega, by omega⟩ dX8_holds_42 rfl (fun c_42 => ?_) (fun c_42 => absurd (by omega) c_42)
    refine e_iload_n dX8_holds_95 rfl ?_
    refine e_iret rfl dX8_holds_96 (by decide) (by decide) ?_
    exact ⟨rfl, rfl, _, _, X, hR, ht⟩
  | succ n ih =>
    intro p hpn
    have hp : p < P.length := by omega
    have hb := e3.at hp
    have hw := wI_b (S g) 1 (pX P p) (pY P p)
    refine e_iload dX8_holds_36 rfl ?_
    refine e_aload_n dX8_holds_38 rfl ?_
    refine e_getf fX8_108 X.obj rfl dX8_holds_39 ?_
    rw [e1]
    refine e_icmp_ge (tgt := 95) ⟨by omega, by omega⟩ ⟨by omega, by omega⟩ dX8_holds_42 rfl (fun c_42 => absurd c_42 (by omega)) (fun c_42 => ?_)
    refine e_iload_n dX8_holds_45 rfl ?_
    refine e_aload_n dX8_holds_46 rfl ?_
    refine e_getf fX8_13 X.obj rfl dX8_holds_47 ?_
    refine e_iload dX8_holds_50 rfl ?_
    refine e_ial X.a0 (by omega) (by omega) rfl (e4 p hp).1 dX8_holds_52 ?_
    refine e_iload_n dX8_holds_53 rfl ?_
    refine e_icmp_ne (tgt := 86) ⟨by omega, by omega⟩ ⟨by omega, by omega⟩ dX8_holds_54 rfl (fun c_54 => ?_) (fun c_54 => ?_)
    · have e6 : hdN P (S g) a (p + 1) = hdN P (S g) a p := if_neg (fun w => c_54 w.1)
      refine e_iconst dX8_holds_86 ?_
      refine e_iadd dX8_holds_87 ?_
      refine e_istore_n dX8_holds_88 rfl ?_
      refine e_iinc dX8_holds_89 rfl ?_
      refine e_goto (tgt := 36) dX8_holds_92 rfl ?_
      exact e_loc [(4, .int (iN (p + 1 : Nat))), (3, .int (iN (hdN P (S g) a (p + 1) : Nat))), (0, .ref m), (1, .int (iN g)), (2, .int (iN a))] ⟨rfl, by rw [e6]; exact congrArg (fun v => some (Value.int (iN v))) (by omega), rfl, rfl, rfl, trivial⟩ (ih (p + 1) (by omega))
    · refine e_aload_n dX8_holds_57 rfl ?_
      refine e_iload_n dX8_holds_58 rfl ?_
      refine e_aload_n dX8_holds_59 rfl ?_
      refine e_getf fX8_17 X.obj rfl dX8_holds_60 ?_
      refine e_iload dX8_holds_63 rfl ?_
      refine e_ial X.a1 (by omega) (by omega) rfl (e4 p hp).2.1 dX8_holds_65 ?_
      refine e_i2l ⟨by omega, by omega⟩ dX8_holds_66 ?_
      refine e_aload_n dX8_holds_67 rfl ?_
      refine e_getf fX8_20 X.obj rfl dX8_holds_68 ?_
      refine e_iload dX8_holds_71 rfl ?_
      refine e_ial X.a2 (by omega) (by omega) rfl (e4 p hp).2.2 dX8_holds_73 ?_
      refine e_i2l ⟨by omega, by omega⟩ dX8_holds_74 ?_
      refine e_iconst dX8_holds_75 ?_
      refine e_pureV qcX8_248 X.obj rfl rfl (S_sideOf X hR.2.2.1 hg (s := 1) ⟨by decide, by decide⟩ ⟨by omega, by omega⟩ ⟨by omega, by omega⟩) rfl rfl rfl rfl dX8_holds_76 ?_
      refine e_if_lt (tgt := 86) ⟨by omega, by omega⟩ dX8_holds_79 rfl (fun c_79 => ?_) (fun c_79 => ?_)
      · have e6 : hdN P (S g) a (p + 1) = hdN P (S g) a p := if_neg (fun w => absurd w.2 (Int.not_le.mpr c_79))
        refine e_iconst dX8_holds_86 ?_
        refine e_iadd dX8_holds_87 ?_
        refine e_istore_n dX8_holds_88 rfl ?_
        refine e_iinc dX8_holds_89 rfl ?_
        refine e_goto (tgt := 36) dX8_holds_92 rfl ?_
        exact e_loc [(4, .int (iN (p + 1 : Nat))), (3, .int (iN (hdN P (S g) a (p + 1) : Nat))), (0, .ref m), (1, .int (iN g)), (2, .int (iN a))] ⟨rfl, by rw [e6]; exact congrArg (fun v => some (Value.int (iN v))) (by omega), rfl, rfl, rfl, trivial⟩ (ih (p + 1) (by omega))
      · have e6 : hdN P (S g) a (p + 1) = hdN P (S g) a p + 1 := if_pos ⟨Decidable.of_not_not c_54, Int.not_lt.mp c_79⟩
        refine e_iconst dX8_holds_82 ?_
        refine e_goto (tgt := 87) dX8_holds_83 rfl ?_
        refine e_iadd dX8_holds_87 ?_
        refine e_istore_n dX8_holds_88 rfl ?_
        refine e_iinc dX8_holds_89 rfl ?_
        refine e_goto (tgt := 36) dX8_holds_92 rfl ?_
        exact e_loc [(4, .int (iN (p + 1 : Nat))), (3, .int (iN (hdN P (S g) a (p + 1) : Nat))), (0, .ref m), (1, .int (iN g)), (2, .int (iN a))] ⟨rfl, by rw [e6]; exact congrArg (fun v => some (Value.int (iN v))) (by omega), rfl, rfl, rfl, trivial⟩ (ih (p + 1) (by omega))
set_option maxRecDepth 20000 in
theorem M_holds (X : mdX G sc0 ar m h0 h) (hR : mdR sc0 ar P E S b P2 E2 S2 F) {j : Int} (rj : r32 j) {a : Int} (ra : r32 a) (hgc : ∀ g, g < 4 → (gdM (S g) ↔ closes (S g))) : Run G mX8_holds [.ref m, .int (iN j), .int (iN a)] none h 0 0 (mZ G (k_holds P S j a) P E S b P2 E2 S2 F m h0) := by
  have rj1 := rj.1
  have rj2 := rj.2
  refine run_of rfl plX8 rfl ?_
  refine e_aload_n dX8_holds_0 rfl ?_
  refine e_iconst dX8_holds_1 ?_
  refine e_putf pfX8_1 X.obj rfl rfl rfl dX8_holds_2 ?_
  refine X.pto (q := 0) (fun h9 X9 => ?_) rfl
  replace X := X9
  clear X9
  replace hR := hR.t0 0
  have ht : uI sc0 0 0 0 = 0 := uI_s _ _ _
  generalize uI sc0 0 0 = sc at X hR ht
  refine e_aload_n dX8_holds_5 rfl ?_
  refine e_iload_n dX8_holds_6 rfl ?_
  
  by_cases c_7 : pgOK j
  · obtain ⟨g, rfl⟩ : ∃ g : Nat, j = (g : Int) := ⟨j.toNat, by omega⟩
    have hg : g < 4 := by omega
    obtain ⟨s1, s2, s3, s4⟩ := id (hR.2.2.1 g hg)
    refine e_pureV qcX8_195 X.obj rfl rfl (S_noPolygon_t X rj c_7 ht) rfl rfl rfl rfl dX8_holds_7 ?_
    refine e_if_ne (tgt := 29) ⟨by decide, by decide⟩ dX8_holds_10 rfl (fun c_10 => absurd rfl c_10) (fun c_10 => ?_)
    refine e_aload_n dX8_holds_13 rfl ?_
    refine e_iload_n dX8_holds_14 rfl ?_
    
    by_cases c_15 : hpOK a
    · refine e_pureV qcX8_111 X.obj rfl rfl (S_noHeap_t X ra c_15 ht) rfl rfl rfl rfl dX8_holds_15 ?_
      refine e_if_ne (tgt := 29) ⟨by decide, by decide⟩ dX8_holds_18 rfl (fun c_18 => absurd rfl c_18) (fun c_18 => ?_)
      refine e_aload_n dX8_holds_21 rfl ?_
      refine e_iload_n dX8_holds_22 rfl ?_
      
      by_cases c_2 : closes (S g)
      · refine e_doesV qcX8_245 X.obj rfl rfl (S_noSimple_t X hR.2.2.1 hg hgc c_2 ht) rfl rfl rfl rfl dX8_holds_23 ?_
        intro v h9 q9
        obtain ⟨rfl, sc2, X, hA⟩ := q9
        replace hR := hR.to (hA.wk (by decide) (by decide)) hR.2.2.2.2
        replace ht := (hA.1 0 (by decide)).trans ht
        clear hA
        generalize sc2 = sc at X hR ht
        refine e_if_eq (tgt := 31) ⟨by decide, by decide⟩ dX8_holds_26 rfl (fun c_26 => ?_) (fun c_26 => absurd rfl c_26)
        refine e_iconst dX8_holds_31 ?_
        refine e_istore_n dX8_holds_32 rfl ?_
        refine e_iconst dX8_holds_33 ?_
        refine e_istore dX8_holds_34 rfl ?_
        rw [show (k_holds P S (g : Int) a) = (0, (hdN P (S g) a P.length : Int)) from ((if_pos c_7).trans (if_pos c_15)).trans (cif_t c_2)]
        exact e_loc [(4, .int (iN (0 : Nat))), (3, .int (iN (hdN P (S g) a (0) : Nat))), (0, .ref m), (1, .int (iN g)), (2, .int (iN a))] ⟨rfl, rfl, rfl, rfl, rfl, trivial⟩ (ho_loop8 X hR ht hg ra _ 0 (Nat.zero_add _))
      refine e_doesV qcX8_245 X.obj rfl rfl (S_noSimple_f2 X hR.2.2.1 hg hgc c_2 ht) rfl rfl rfl rfl dX8_holds_23 ?_
      intro v h9 q9
      obtain ⟨rfl, sc2, X, hA⟩ := q9
      replace hR := hR.to (hA.wk (by decide) (by decide)) hR.2.2.2.2
      refine e_if_eq (tgt := 31) ⟨by decide, by decide⟩ dX8_holds_26 rfl (fun c_26 => absurd c_26 (by decide)) (fun c_26 => ?_)
      refine e_iconst dX8_holds_29 ?_
      refine e_iret rfl dX8_holds_30 (by decide) (by decide) ?_
      exact mz (show (k_holds P S (g : Int) a) = (2, 0) from (((if_pos c_7).trans (if_pos c_15)).trans (cif_f c_2))) ⟨rfl, rfl, _, _, X, hR.t0 _, uI_s _ _ _⟩
    refine e_doesV qcX8_111 X.obj rfl rfl (S_noHeap_f X ra c_15 ht) rfl rfl rfl rfl dX8_holds_15 ?_
    intro v h9 q9
    obtain ⟨rfl, X⟩ := q9
    refine e_if_ne (tgt := 29) ⟨by decide, by decide⟩ dX8_holds_18 rfl (fun c_18 => ?_) (fun c_18 => absurd (by decide) c_18)
    refine e_iconst dX8_holds_29 ?_
    refine e_iret rfl dX8_holds_30 (by decide) (by decide) ?_
    exact mz (show (k_holds P S (g : Int) a) = (1, 0) from ((if_pos c_7).trans (if_neg c_15))) ⟨rfl, rfl, _, _, X, hR.t0 _, uI_s _ _ _⟩
  refine e_doesV qcX8_195 X.obj rfl rfl (S_noPolygon_f X rj c_7 ht) rfl rfl rfl rfl dX8_holds_7 ?_
  intro v h9 q9
  obtain ⟨rfl, X⟩ := q9
  refine e_if_ne (tgt := 29) ⟨by decide, by decide⟩ dX8_holds_10 rfl (fun c_10 => ?_) (fun c_10 => absurd (by decide) c_10)
  refine e_iconst dX8_holds_29 ?_
  refine e_iret rfl dX8_holds_30 (by decide) (by decide) ?_
  exact mz (show (k_holds P S j a) = (1, 0) from (if_neg c_7)) ⟨rfl, rfl, _, _, X, hR.t0 _, uI_s _ _ _⟩
end MTWELVE
