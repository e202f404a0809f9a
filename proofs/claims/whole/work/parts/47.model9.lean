/-! The reference: questions about the figure -/
section MNINE
variable {G : g_X} {sc sc0 : Nat → Int} {ar : Nat → Nat → Int} {m : Nat} {h0 h : g_hp} {P E : PL} {S : Nat → PL} {b : Int} {P2 E2 : PL} {S2 : Nat → PL} {F : PL}
set_option maxRecDepth 20000 in
theorem M_corners (X : mdX G sc0 ar m h0 h) (hR : mdR sc0 ar P E S b P2 E2 S2 F) : Run G mX8_corners [.ref m] none h 0 0 (mZ G (0, (F.length : Int)) P E S b P2 E2 S2 F m h0) := by
  refine run_of rfl plX8 rfl ?_
  refine e_aload_n dX8_corners_0 rfl ?_
  refine e_iconst dX8_corners_1 ?_
  refine e_putf pfX8_1 X.obj rfl rfl rfl dX8_corners_2 ?_
  refine X.pto (q := 0) (fun h9 X9 => ?_) rfl
  replace X := X9
  clear X9
  replace hR := hR.t0 0
  have ht : uI sc0 0 0 0 = 0 := uI_s _ _ _
  generalize uI sc0 0 0 = sc at X hR ht
  obtain ⟨f1, f2, f3, f4⟩ := id hR.2.2.2.2
  have g4 : ∀ k, k < F.length → ar 5 k = pX F k ∧ ar 6 k = pY F k := fun k hk => by have := f4 k hk; rw [show 200 * 0 + k = k by omega] at this; exact this
  refine e_aload_n dX8_corners_5 rfl ?_
  refine e_getf fX8_35 X.obj rfl dX8_corners_6 ?_
  refine e_iconst dX8_corners_9 ?_
  refine e_ial X.a7 (by omega) (by omega) rfl f1 dX8_corners_10 ?_
  refine e_iret rfl dX8_corners_11 (by decide) (by decide) ?_
  exact ⟨rfl, rfl, _, _, X, hR, ht⟩
set_option maxRecDepth 20000 in
theorem M_area (X : mdX G sc0 ar m h0 h) (hR : mdR sc0 ar P E S b P2 E2 S2 F) : Run G mX8_area [.ref m] none h 0 0 (mZ G (0, da F) P E S b P2 E2 S2 F m h0) := by
  refine run_of rfl plX8 rfl ?_
  refine e_aload_n dX8_area_0 rfl ?_
  refine e_iconst dX8_area_1 ?_
  refine e_putf pfX8_1 X.obj rfl rfl rfl dX8_area_2 ?_
  refine X.pto (q := 0) (fun h9 X9 => ?_) rfl
  replace X := X9
  clear X9
  replace hR := hR.t0 0
  have ht : uI sc0 0 0 0 = 0 := uI_s _ _ _
  generalize uI sc0 0 0 = sc at X hR ht
  refine e_aload_n dX8_area_5 rfl ?_
  refine e_iconst dX8_area_6 ?_
  refine e_pureV qcX8_173 X.obj rfl rfl (S_doubled (f := 0) X hR.2.2.2.2 (by decide)) rfl rfl rfl rfl dX8_area_7 ?_
  refine e_iret rfl dX8_area_10 (by decide) (by decide) ?_
  exact ⟨rfl, rfl, _, _, X, hR, ht⟩
set_option maxRecDepth 20000 in
theorem M_corner (X : mdX G sc0 ar m h0 h) (hR : mdR sc0 ar P E S b P2 E2 S2 F) {k : Int} (rk : r32 k) {u : Prop} [Decidable u] : Run G mX8_corner [.ref m, .int (iN k), .int (iN (bP u))] none h 0 0 (mZ G (k_corner F k u) P E S b P2 E2 S2 F m h0) := by
  have rk1 := rk.1
  have rk2 := rk.2
  refine run_of rfl plX8 rfl ?_
  refine e_aload_n dX8_corner_0 rfl ?_
  refine e_iconst dX8_corner_1 ?_
  refine e_putf pfX8_1 X.obj rfl rfl rfl dX8_corner_2 ?_
  refine X.pto (q := 0) (fun h9 X9 => ?_) rfl
  replace X := X9
  clear X9
  replace hR := hR.t0 0
  have ht : uI sc0 0 0 0 = 0 := uI_s _ _ _
  generalize uI sc0 0 0 = sc at X hR ht
  obtain ⟨f1, f2, f3, f4⟩ := id hR.2.2.2.2
  have g4 : ∀ k, k < F.length → ar 5 k = pX F k ∧ ar 6 k = pY F k := fun k hk => by have := f4 k hk; rw [show 200 * 0 + k = k by omega] at this; exact this
  refine e_aload_n dX8_corner_5 rfl ?_
  refine e_iload_n dX8_corner_6 rfl ?_
  refine e_iconst dX8_corner_7 ?_
  refine e_aload_n dX8_corner_8 rfl ?_
  refine e_getf fX8_35 X.obj rfl dX8_corner_9 ?_
  refine e_iconst dX8_corner_12 ?_
  refine e_ial X.a7 (by omega) (by omega) rfl f1 dX8_corner_13 ?_
  refine e_iconst dX8_corner_14 ?_
  refine e_isub dX8_corner_15 ?_
  refine e_pureS qcX8_96 (S_min rk ⟨by decide, by decide⟩ ⟨by omega, by omega⟩) rfl rfl rfl rfl dX8_corner_16 ?_
  refine e_iconst dX8_corner_19 ?_
  
  by_cases c_20 : 0 ≤ k ∧ k ≤ (F.length : Int) - 1
  · obtain ⟨q, rfl⟩ : ∃ q : Nat, k = (q : Int) := ⟨k.toNat, by omega⟩
    have hq : q < F.length := by omega
    refine e_pureV qcX8_104 X.obj rfl rfl (S_fails_t X c_20 ht) rfl rfl rfl rfl dX8_corner_20 ?_
    refine e_if_eq (tgt := 30) ⟨by decide, by decide⟩ dX8_corner_23 rfl (fun c_23 => ?_) (fun c_23 => absurd rfl c_23)
    refine e_iload_n dX8_corner_30 rfl ?_
    refine e_ifP_eq (tgt := 43) dX8_corner_31 rfl (fun c_31 => ?_) (fun c_31 => ?_)
    · have e6 : (if u then pY F q else pX F q) = pX F q := if_neg c_31
      refine e_aload_n dX8_corner_43 rfl ?_
      refine e_getf fX8_29 X.obj rfl dX8_corner_44 ?_
      refine e_iload_n dX8_corner_47 rfl ?_
      refine e_ial X.a5 (by omega) (by omega) rfl (g4 q hq).1 dX8_corner_48 ?_
      refine e_iret rfl dX8_corner_49 (by decide) (by decide) ?_
      rw [← e6]
      exact mz (show (k_corner F (q : Int) u) = (0, if u then pY F q else pX F q) from (if_pos (show crOK F (q : Int) by omega))) ⟨rfl, rfl, _, _, X, hR, ht⟩
    · have e6 : (if u then pY F q else pX F q) = pY F q := if_pos c_31
      refine e_aload_n dX8_corner_34 rfl ?_
      refine e_getf fX8_32 X.obj rfl dX8_corner_35 ?_
      refine e_iload_n dX8_corner_38 rfl ?_
      refine e_ial X.a6 (by omega) (by omega) rfl (g4 q hq).2 dX8_corner_39 ?_
      refine e_goto (tgt := 49) dX8_corner_40 rfl ?_
      refine e_iret rfl dX8_corner_49 (by decide) (by decide) ?_
      rw [← e6]
      exact mz (show (k_corner F (q : Int) u) = (0, if u then pY F q else pX F q) from (if_pos (show crOK F (q : Int) by omega))) ⟨rfl, rfl, _, _, X, hR, ht⟩
  refine e_doesV qcX8_104 X.obj rfl rfl (S_fails_f X c_20 ht ⟨by decide, by decide⟩) rfl rfl rfl rfl dX8_corner_20 ?_
  intro v h9 q9
  obtain ⟨rfl, X⟩ := q9
  refine e_if_eq (tgt := 30) ⟨by decide, by decide⟩ dX8_corner_23 rfl (fun c_23 => absurd c_23 (by decide)) (fun c_23 => ?_)
  refine e_iconst dX8_corner_26 ?_
  refine e_goto (tgt := 49) dX8_corner_27 rfl ?_
  refine e_iret rfl dX8_corner_49 (by decide) (by decide) ?_
  exact mz (show (k_corner F k u) = (1, 0) from (if_neg (by omega))) ⟨rfl, rfl, _, _, X, hR.t0 _, uI_s _ _ _⟩
set_option maxRecDepth 20000 in
theorem M_lies (X : mdX G sc0 ar m h0 h) (hR : mdR sc0 ar P E S b P2 E2 S2 F) {x : Int} (rx : r32 x) {y : Int} (ry : r32 y) (hm : (if F.length = 0 then (-1 : Int) else sdI F x y) = wI F 1 x y) : Run G mX8_lies [.ref m, .int (iN x), .int (iN y)] none h 0 0 (mZ G (0, wI F 1 x y) P E S b P2 E2 S2 F m h0) := by
  refine run_of rfl plX8 rfl ?_
  refine e_aload_n dX8_lies_0 rfl ?_
  refine e_iconst dX8_lies_1 ?_
  refine e_putf pfX8_1 X.obj rfl rfl rfl dX8_lies_2 ?_
  refine X.pto (q := 0) (fun h9 X9 => ?_) rfl
  replace X := X9
  clear X9
  replace hR := hR.t0 0
  have ht : uI sc0 0 0 0 = 0 := uI_s _ _ _
  generalize uI sc0 0 0 = sc at X hR ht
  obtain ⟨f1, f2, f3, f4⟩ := id hR.2.2.2.2
  have g4 : ∀ k, k < F.length → ar 5 k = pX F k ∧ ar 6 k = pY F k := fun k hk => by have := f4 k hk; rw [show 200 * 0 + k = k by omega] at this; exact this
  refine e_aload_n dX8_lies_5 rfl ?_
  refine e_getf fX8_35 X.obj rfl dX8_lies_6 ?_
  refine e_iconst dX8_lies_9 ?_
  refine e_ial X.a7 (by omega) (by omega) rfl f1 dX8_lies_10 ?_
  refine e_if_ne (tgt := 18) ⟨by omega, by omega⟩ dX8_lies_11 rfl (fun c_11 => ?_) (fun c_11 => ?_)
  · have e6 : wI F 1 x y = sdI F x y := hm.symm.trans (if_neg (by omega))
    refine e_aload_n dX8_lies_18 rfl ?_
    refine e_iconst dX8_lies_19 ?_
    refine e_iload_n dX8_lies_20 rfl ?_
    refine e_iload_n dX8_lies_21 rfl ?_
    refine e_pureV qcX8_162 X.obj rfl rfl (S_mside (f := 0) X hR.2.2.2.2 (by decide) rx ry) rfl rfl rfl rfl dX8_lies_22 ?_
    refine e_iret rfl dX8_lies_25 (by decide) (by decide) ?_
    rw [e6]
    exact ⟨rfl, rfl, _, _, X, hR, ht⟩
  · have e6 : wI F 1 x y = -1 := hm.symm.trans (if_pos (by omega))
    refine e_iconst dX8_lies_14 ?_
    refine e_goto (tgt := 25) dX8_lies_15 rfl ?_
    refine e_iret rfl dX8_lies_25 (by decide) (by decide) ?_
    rw [e6]
    exact ⟨rfl, rfl, _, _, X, hR, ht⟩
set_option maxRecDepth 20000 in
theorem eg_loop (X : mdX G sc ar m h0 h) (hR : mdR sc ar P E S b P2 E2 S2 F) (ht : sc 0 = 0) : ∀ (n k : Nat), k + n = F.length → Ev (g_B G mX8_edge 0 0 (mZ G ((0, srd F) : Nat × Int) P E S b P2 E2 S2 F m h0)) 0 0 none h 62 [(3, .int (iN (k : Nat))), (2, .int (iN (sumN (fun i => (gsE F i : Int)) (k)))), (1, .int (iN F.length)), (0, .ref m)] [] := by
  obtain ⟨f1, f2, f3, f4⟩ := id hR.2.2.2.2
  have g4 : ∀ k, k < F.length → ar 5 k = pX F k ∧ ar 6 k = pY F k := fun k hk => by have := f4 k hk; rw [show 200 * 0 + k = k by omega] at this; exact this
  intro n
  induction n with
  | zero =>
    intro k hkn
    have e9 : k = F.length := by omega
    subst e9
    refine e_iload_n dX8_edge_62 rfl ?_
    refine e_iload_n dX8_edge_63 rfl ?_
    refine e_icmp_ge (tgt := 113) ⟨by omega, by omega⟩ ⟨by omega, by omega⟩ dX8_edge_64 rfl (fun c_64 => ?_) (fun c_64 => absurd (by omega) c_64)
    refine e_iload_n dX8_edge_113 rfl ?_
    refine e_iret rfl dX8_edge_114 (by decide) (by decide) ?_
    exact ⟨rfl, rfl, _, _, X, hR, ht⟩
  | succ n ih =>
    intro k hkn
    have hk : k < F.length := by omega
    have hn := nxt_lt hk
    have b1 := f3 k hk
    have b2 := f3 _ hn
    refine e_iload_n dX8_edge_62 rfl ?_
    refine e_iload_n dX8_edge_63 rfl ?_
    refine e_icmp_ge (tgt := 113) ⟨by omega, by omega⟩ ⟨by omega, by omega⟩ dX8_edge_64 rfl (fun c_64 => absurd c_64 (by omega)) (fun c_64 => ?_)
    refine e_iload_n dX8_edge_67 rfl ?_
    refine e_aload_n dX8_edge_68 rfl ?_
    refine e_getf fX8_29 X.obj rfl dX8_edge_69 ?_
    refine e_iload_n dX8_edge_72 rfl ?_
    refine e_iconst dX8_edge_73 ?_
    refine e_iadd dX8_edge_74 ?_
    refine e_iload_n dX8_edge_75 rfl ?_
    refine e_irem ⟨by omega, by omega⟩ ⟨by omega, by omega⟩ (by omega) dX8_edge_76 ?_
    rw [tmod_nxt hk]
    refine e_ial X.a5 (by omega) (by omega) rfl (g4 _ hn).1 dX8_edge_77 ?_
    refine e_aload_n dX8_edge_78 rfl ?_
    refine e_getf fX8_29 X.obj rfl dX8_edge_79 ?_
    refine e_iload_n dX8_edge_82 rfl ?_
    refine e_ial X.a5 (by omega) (by omega) rfl (g4 k hk).1 dX8_edge_83 ?_
    refine e_isub dX8_edge_84 ?_
    refine e_aload_n dX8_edge_85 rfl ?_
    refine e_getf fX8_32 X.obj rfl dX8_edge_86 ?_
    refine e_iload_n dX8_edge_89 rfl ?_
    refine e_iconst dX8_edge_90 ?_
    refine e_iadd dX8_edge_91 ?_
    refine e_iload_n dX8_edge_92 rfl ?_
    refine e_irem ⟨by omega, by omega⟩ ⟨by omega, by omega⟩ (by omega) dX8_edge_93 ?_
    rw [tmod_nxt hk]
    refine e_ial X.a6 (by omega) (by omega) rfl (g4 _ hn).2 dX8_edge_94 ?_
    refine e_aload_n dX8_edge_95 rfl ?_
    refine e_getf fX8_32 X.obj rfl dX8_edge_96 ?_
    refine e_iload_n dX8_edge_99 rfl ?_
    refine e_ial X.a6 (by omega) (by omega) rfl (g4 k hk).2 dX8_edge_100 ?_
    refine e_isub dX8_edge_101 ?_
    refine e_pureS qcX8_176 (S_common (x := rnE F k) (y := rsE F k) rfl rfl (show Nat.gcd _ _ = gsE F k from rfl) ⟨by show _ ≤ _ - _; omega, by show _ - _ ≤ _; omega⟩ ⟨by show _ ≤ _ - _; omega, by show _ - _ ≤ _; omega⟩) rfl rfl rfl rfl dX8_edge_102 ?_
    refine e_iadd dX8_edge_105 ?_
    refine e_istore_n dX8_edge_106 rfl ?_
    refine e_iinc dX8_edge_107 rfl ?_
    refine e_goto (tgt := 62) dX8_edge_110 rfl ?_
    exact e_loc [(3, .int (iN (k + 1 : Nat))), (2, .int (iN (sumN (fun i => (gsE F i : Int)) (k + 1)))), (1, .int (iN F.length)), (0, .ref m)] ⟨rfl, rfl, rfl, rfl, trivial⟩ (ih (k + 1) (by omega))
set_option maxRecDepth 20000 in
theorem M_edge (X : mdX G sc0 ar m h0 h) (hR : mdR sc0 ar P E S b P2 E2 S2 F) : Run G mX8_edge [.ref m] none h 0 0 (mZ G (0, k_edge F) P E S b P2 E2 S2 F m h0) := by
  refine run_of rfl plX8 rfl ?_
  refine e_aload_n dX8_edge_0 rfl ?_
  refine e_iconst dX8_edge_1 ?_
  refine e_putf pfX8_1 X.obj rfl rfl rfl dX8_edge_2 ?_
  refine X.pto (q := 0) (fun h9 X9 => ?_) rfl
  replace X := X9
  clear X9
  replace hR := hR.t0 0
  have ht : uI sc0 0 0 0 = 0 := uI_s _ _ _
  generalize uI sc0 0 0 = sc at X hR ht
  obtain ⟨f1, f2, f3, f4⟩ := id hR.2.2.2.2
  have g4 : ∀ k, k < F.length → ar 5 k = pX F k ∧ ar 6 k = pY F k := fun k hk => by have := f4 k hk; rw [show 200 * 0 + k = k by omega] at this; exact this
  refine e_aload_n dX8_edge_5 rfl ?_
  refine e_getf fX8_35 X.obj rfl dX8_edge_6 ?_
  refine e_iconst dX8_edge_9 ?_
  refine e_ial X.a7 (by omega) (by omega) rfl f1 dX8_edge_10 ?_
  refine e_istore_n dX8_edge_11 rfl ?_
  refine e_iload_n dX8_edge_12 rfl ?_
  refine e_iconst dX8_edge_13 ?_
  refine e_icmp_ge (tgt := 58) ⟨by omega, by omega⟩ ⟨by omega, by omega⟩ dX8_edge_14 rfl (fun c_14 => ?_) (fun c_14 => ?_)
  · have e6 : k_edge F = srd F := ((if_neg (by omega)).trans (if_neg (by omega))).trans (if_neg (by omega))
    refine e_iconst dX8_edge_58 ?_
    refine e_istore_n dX8_edge_59 rfl ?_
    refine e_iconst dX8_edge_60 ?_
    refine e_istore_n dX8_edge_61 rfl ?_
    rw [e6]
    exact e_loc [(3, .int (iN (0 : Nat))), (2, .int (iN (sumN (fun i => (gsE F i : Int)) (0)))), (1, .int (iN F.length)), (0, .ref m)] ⟨rfl, rfl, rfl, rfl, trivial⟩ (eg_loop X hR ht _ 0 (Nat.zero_add _))
  · refine e_iload_n dX8_edge_17 rfl ?_
    refine e_iconst dX8_edge_18 ?_
    refine e_icmp_ge (tgt := 26) ⟨by omega, by omega⟩ ⟨by omega, by omega⟩ dX8_edge_19 rfl (fun c_19 => ?_) (fun c_19 => ?_)
    · have e6 : k_edge F = (gsE F 0 : Int) + 1 := ((if_neg (by omega)).trans (if_neg (by omega))).trans (if_pos (by omega))
      have n1 : nxt F.length 0 = 1 := if_pos (by omega)
      have b1 := f3 0 (by omega)
      have b2 := f3 1 (by omega)
      have n2 : rnE F 0 = pX F 1 - pX F 0 := by unfold rnE; rw [n1]
      have n3 : rsE F 0 = pY F 1 - pY F 0 := by unfold rsE; rw [n1]
      refine e_iconst dX8_edge_26 ?_
      refine e_aload_n dX8_edge_27 rfl ?_
      refine e_getf fX8_29 X.obj rfl dX8_edge_28 ?_
      refine e_iconst dX8_edge_31 ?_
      refine e_ial X.a5 (by omega) (by omega) rfl (g4 1 (by omega)).1 dX8_edge_32 ?_
      refine e_aload_n dX8_edge_33 rfl ?_
      refine e_getf fX8_29 X.obj rfl dX8_edge_34 ?_
      refine e_iconst dX8_edge_37 ?_
      refine e_ial X.a5 (by omega) (by omega) rfl (g4 0 (by omega)).1 dX8_edge_38 ?_
      refine e_isub dX8_edge_39 ?_
      refine e_aload_n dX8_edge_40 rfl ?_
      refine e_getf fX8_32 X.obj rfl dX8_edge_41 ?_
      refine e_iconst dX8_edge_44 ?_
      refine e_ial X.a6 (by omega) (by omega) rfl (g4 1 (by omega)).2 dX8_edge_45 ?_
      refine e_aload_n dX8_edge_46 rfl ?_
      refine e_getf fX8_32 X.obj rfl dX8_edge_47 ?_
      refine e_iconst dX8_edge_50 ?_
      refine e_ial X.a6 (by omega) (by omega) rfl (g4 0 (by omega)).2 dX8_edge_51 ?_
      refine e_isub dX8_edge_52 ?_
      refine e_pureS qcX8_176 (S_common (x := pX F 1 - pX F 0) (y := pY F 1 - pY F 0) rfl rfl (show Nat.gcd _ _ = gsE F 0 from by unfold gsE; rw [n2, n3]) ⟨by omega, by omega⟩ ⟨by omega, by omega⟩) rfl rfl rfl rfl dX8_edge_53 ?_
      refine e_iadd dX8_edge_56 ?_
      
      refine e_iret rfl dX8_edge_57 (by decide) (by decide) ?_
      first | (rw [e6]; exact ⟨rfl, rfl, _, _, X, hR, ht⟩) | (rw [e6, Int.add_comm]; exact ⟨rfl, rfl, _, _, X, hR, ht⟩)
    · have e6 : k_edge F = (F.length : Int) := by unfold k_edge; split; omega; rw [if_pos (by omega)]; omega
      refine e_iload_n dX8_edge_22 rfl ?_
      refine e_goto (tgt := 57) dX8_edge_23 rfl ?_
      refine e_iret rfl dX8_edge_57 (by decide) (by decide) ?_
      first | (rw [e6]; exact ⟨rfl, rfl, _, _, X, hR, ht⟩) | (rw [e6, Int.add_comm]; exact ⟨rfl, rfl, _, _, X, hR, ht⟩)
theorem flr_neg {a b : Int} (hb : 0 < b) (ha : a < 0) : 0 - (b - 1 - a).tdiv b = a / b := by
  rw [Int.tdiv_eq_ediv_of_nonneg (by omega), show b - 1 - a = (-a - 1) + b * 1 by omega, Int.add_mul_ediv_left _ _ (by omega)]
  have h1 := Int.ediv_mul_add_emod a b
  have h2 := Int.emod_nonneg a (show b ≠ 0 by omega)
  have h3 := Int.emod_lt_of_pos a hb
  have h4 : (-a - 1) / b = -(a / b) - 1 := by
    apply Int.le_antisymm
    · apply Int.le_of_lt_add_one
      apply Int.ediv_lt_of_lt_mul hb
      rw [show (-(a / b) - 1 + 1) * b = -(a / b * b) by rw [show -(a / b) - 1 + 1 = -(a / b) by omega, Int.neg_mul]]
      omega
    · apply Int.le_ediv_of_mul_le hb
      rw [Int.sub_mul, Int.neg_mul, Int.one_mul]
      omega
  rw [h4]
  omega
set_option maxRecDepth 20000 in
theorem S_floor {a b : Int} (hb : 0 < b ∧ b ≤ 1000000) (ha : -1000000000 ≤ a ∧ a ≤ 1000000000) : Pure G mX8_floor [.int (iN a), .int (iN b)] h (.int (iN (a / b))) := by
  intro z
  refine run_of rfl plX8 rfl ?_
  refine e_iload_n dX8_floor_0 rfl ?_
  refine e_if_lt (tgt := 10) ⟨by omega, by omega⟩ dX8_floor_1 rfl (fun c_1 => ?_) (fun c_1 => ?_)
  · refine e_iconst dX8_floor_10 ?_
    refine e_iload_n dX8_floor_11 rfl ?_
    refine e_iconst dX8_floor_12 ?_
    refine e_isub dX8_floor_13 ?_
    refine e_iload_n dX8_floor_14 rfl ?_
    refine e_isub dX8_floor_15 ?_
    refine e_iload_n dX8_floor_16 rfl ?_
    refine e_idiv ⟨by omega, by omega⟩ ⟨by omega, by omega⟩ (by omega) dX8_floor_17 ?_
    refine e_isub dX8_floor_18 ?_
    rw [flr_neg hb.1 (by omega)]
    refine e_iret rfl dX8_floor_19 (by decide) (by decide) ?_
    exact ⟨rfl, rfl, rfl⟩
  · refine e_iload_n dX8_floor_4 rfl ?_
    refine e_iload_n dX8_floor_5 rfl ?_
    refine e_idiv ⟨by omega, by omega⟩ ⟨by omega, by omega⟩ (by omega) dX8_floor_6 ?_
    rw [Int.tdiv_eq_ediv_of_nonneg (by omega)]
    refine e_goto (tgt := 19) dX8_floor_7 rfl ?_
    refine e_iret rfl dX8_floor_19 (by decide) (by decide) ?_
    exact ⟨rfl, rfl, rfl⟩
abbrev inS (F : PL) (y : Int) (k : Nat) : Int := rnE F k * (y - pY F k)
def inB (F : PL) (y : Int) (k : Nat) : Int := if 0 < rsE F k then pX F k + (inS F y k - 1) / rsE F k else if rsE F k < 0 then pX F k + (0 - inS F y k) / (0 - rsE F k) + 1 else 0
def inL (F : PL) (y : Int) : Nat → Int
  | 0 => -500
  | k + 1 => if rsE F k < 0 ∧ inL F y k < inB F y k then inB F y k else inL F y k
def inH (F : PL) (y : Int) : Nat → Int
  | 0 => 500
  | k + 1 => if 0 < rsE F k ∧ inB F y k < inH F y k then inB F y k else inH F y k
def inZ (F : PL) (y : Int) (k : Nat) : Prop := rsE F k = 0 ∧ inS F y k ≤ 0
noncomputable def inI (F : PL) (y : Int) : Int := cif (∃ k, k < F.length ∧ inZ F y k) 0 (if inH F y F.length < inL F y F.length then 0 else inH F y F.length - inL F y F.length + 1)
theorem inS_bd {F : PL} (h : okS F) {k : Nat} (hk : k < F.length) {y : Int} (hy : -400 ≤ y ∧ y ≤ 400) : -640000 ≤ inS F y k ∧ inS F y k ≤ 640000 := by
  have b1 := h k hk
  have b2 := h _ (nxt_lt hk)
  exact mul_bd (A := 800) (B := 800) ⟨by show _ ≤ _ - _; omega, by show _ - _ ≤ _; omega⟩ ⟨by omega, by omega⟩
theorem ed_bd {a b B : Int} (hb : 0 < b) (ha : -B ≤ a ∧ a ≤ B) (hB : 0 ≤ B) : -B ≤ a / b ∧ a / b ≤ B := by
  constructor
  · apply Int.le_ediv_of_mul_le hb
    have : B * 1 ≤ B * b := Int.mul_le_mul_of_nonneg_left (by omega) hB
    rw [Int.neg_mul]
    omega
  · apply Int.le_of_lt_add_one
    apply Int.ediv_lt_of_lt_mul hb
    have : (B + 1) * 1 ≤ (B + 1) * b := Int.mul_le_mul_of_nonneg_left (by omega) (by omega)
    omega
theorem inB_bd {F : PL} (h : okS F) {k : Nat} (hk : k < F.length) {y : Int} (hy : -400 ≤ y ∧ y ≤ 400) : -700000 ≤ inB F y k ∧ inB F y k ≤ 700000 := by
  have b1 := h k hk
  have s := inS_bd h hk hy
  unfold inB
  split
  · rename_i c
    have := ed_bd (B := 640001) c (show -640001 ≤ inS F y k - 1 ∧ inS F y k - 1 ≤ 640001 from ⟨by omega, by omega⟩) (by decide)
    omega
  · split
    · rename_i c
      have := ed_bd (B := 640001) (show 0 < 0 - rsE F k by omega) (show -640001 ≤ 0 - inS F y k ∧ 0 - inS F y k ≤ 640001 from ⟨by omega, by omega⟩) (by decide)
      omega
    · omega
theorem inLH_bd {F : PL} (h : okS F) {y : Int} (hy : -400 ≤ y ∧ y ≤ 400) : ∀ k, k ≤ F.length → (-700000 ≤ inL F y k ∧ inL F y k ≤ 700000) ∧ -700000 ≤ inH F y k ∧ inH F y k ≤ 700000
  | 0, _ => by unfold inL inH; omega
  | k + 1, hk => by
    have h1 := inLH_bd h hy k (by omega)
    have h2 := inB_bd h (show k < F.length by omega) hy
    unfold inL inH
    constructor
    · split
      · exact h2
      · exact h1.1
    · split
      · exact h2
      · exact h1.2
set_option maxRecDepth 20000 in
theorem in_loop {z : Option Nat} (X : mdX G sc ar m h0 h) (hF : mdH ar 0 F) {y : Int} (hy : -400 ≤ y ∧ y ≤ 400) : ∀ (n k : Nat), k + n = F.length → (∀ i, i < k → ¬ inZ F y i) → Ev (g_B G mX8_innerIn 0 0 (fun o z1 h1 => o = .inl (some (.int (iN (inI F y)))) ∧ z1 = z ∧ h1 = h)) 0 0 z h 19 [(5, .int (iN (k : Nat))), (4, .int (iN F.length)), (3, .int (iN (inH F y (k)))), (2, .int (iN (inL F y (k)))), (0, .ref m), (1, .int (iN y))] [] := by
  obtain ⟨f1, f2, f3, f4⟩ := hF
  have g4 : ∀ k, k < F.length → ar 5 k = pX F k ∧ ar 6 k = pY F k := fun k hk => by have := f4 k hk; rw [show 200 * 0 + k = k by omega] at this; exact this
  intro n
  induction n with
  | zero =>
    intro k hkn hno
    have e9 : k = F.length := by omega
    subst e9
    have b1 := inLH_bd f3 hy F.length (Nat.le_refl _)
    have e7 : inI F y = if inH F y F.length < inL F y F.length then 0 else inH F y F.length - inL F y F.length + 1 := cif_f (fun ⟨i, hi, w⟩ => hno i hi w)
    refine e_iload dX8_innerIn_19 rfl ?_
    refine e_iload dX8_innerIn_21 rfl ?_
    refine e_icmp_ge (tgt := 187) ⟨by omega, by omega⟩ ⟨by omega, by omega⟩ dX8_innerIn_23 rfl (fun c_23 => ?_) (fun c_23 => absurd (by omega) c_23)
    refine e_iload_n dX8_innerIn_187 rfl ?_
    refine e_iload_n dX8_innerIn_188 rfl ?_
    refine e_icmp_ge (tgt := 196) ⟨by omega, by omega⟩ ⟨by omega, by omega⟩ dX8_innerIn_189 rfl (fun c_189 => ?_) (fun c_189 => ?_)
    · have e6 : inI F y = inH F y F.length - inL F y F.length + 1 := e7.trans (if_neg (by omega))
      refine e_iload_n dX8_innerIn_196 rfl ?_
      refine e_iload_n dX8_innerIn_197 rfl ?_
      refine e_isub dX8_innerIn_198 ?_
      refine e_iconst dX8_innerIn_199 ?_
      refine e_iadd dX8_innerIn_200 ?_
      refine e_iret rfl dX8_innerIn_201 (by decide) (by decide) ?_
      exact ⟨by rw [e6], rfl, rfl⟩
    · have e6 : inI F y = 0 := e7.trans (if_pos (by omega))
      refine e_iconst dX8_innerIn_192 ?_
      refine e_goto (tgt := 201) dX8_innerIn_193 rfl ?_
      refine e_iret rfl dX8_innerIn_201 (by decide) (by decide) ?_
      exact ⟨by rw [e6], rfl, rfl⟩
  | succ n ih =>
    intro k hkn hno
    have hk : k < F.length := by omega
    have hn := nxt_lt hk
    have b1 := f3 k hk
    have b2 := f3 _ hn
    have b3 := inLH_bd f3 hy k (by omega)
    have b4 := inB_bd f3 hk hy
    have b5 := inS_bd f3 hk hy
    have b6 : -800 ≤ rnE F k ∧ rnE F k ≤ 800 := by show -800 ≤ _ - _ ∧ _ - _ ≤ 800; omega
    have b7 : -800 ≤ rsE F k ∧ rsE F k ≤ 800 := by show -800 ≤ _ - _ ∧ _ - _ ≤ 800; omega
    have eB : inB F y k = if 0 < rsE F k then pX F k + (inS F y k - 1) / rsE F k else if rsE F k < 0 then pX F k + (0 - inS F y k) / (0 - rsE F k) + 1 else 0 := rfl
    have eL : inL F y (k + 1) = if rsE F k < 0 ∧ inL F y k < inB F y k then inB F y k else inL F y k := rfl
    have eH : inH F y (k + 1) = if 0 < rsE F k ∧ inB F y k < inH F y k then inB F y k else inH F y k := rfl
    have eZ : inZ F y k ↔ rsE F k = 0 ∧ inS F y k ≤ 0 := Iff.rfl
    refine e_iload dX8_innerIn_19 rfl ?_
    refine e_iload dX8_innerIn_21 rfl ?_
    refine e_icmp_ge (tgt := 187) ⟨by omega, by omega⟩ ⟨by omega, by omega⟩ dX8_innerIn_23 rfl (fun c_23 => absurd c_23 (by omega)) (fun c_23 => ?_)
    refine e_aload_n dX8_innerIn_26 rfl ?_
    refine e_getf fX8_29 X.obj rfl dX8_innerIn_27 ?_
    refine e_iload dX8_innerIn_30 rfl ?_
    refine e_iconst dX8_innerIn_32 ?_
    refine e_iadd dX8_innerIn_33 ?_
    refine e_iload dX8_innerIn_34 rfl ?_
    refine e_irem ⟨by omega, by omega⟩ ⟨by omega, by omega⟩ (by omega) dX8_innerIn_36 ?_
    rw [tmod_nxt hk]
    refine e_ial X.a5 (by omega) (by omega) rfl (g4 _ hn).1 dX8_innerIn_37 ?_
    refine e_aload_n dX8_innerIn_38 rfl ?_
    refine e_getf fX8_29 X.obj rfl dX8_innerIn_39 ?_
    refine e_iload dX8_innerIn_42 rfl ?_
    refine e_ial X.a5 (by omega) (by omega) rfl (g4 k hk).1 dX8_innerIn_44 ?_
    refine e_isub dX8_innerIn_45 ?_
    rw [show pX F (nxt F.length k) - pX F k = rnE F k from rfl]
    refine e_istore dX8_innerIn_46 rfl ?_
    refine e_aload_n dX8_innerIn_48 rfl ?_
    refine e_getf fX8_32 X.obj rfl dX8_innerIn_49 ?_
    refine e_iload dX8_innerIn_52 rfl ?_
    refine e_iconst dX8_innerIn_54 ?_
    refine e_iadd dX8_innerIn_55 ?_
    refine e_iload dX8_innerIn_56 rfl ?_
    refine e_irem ⟨by omega, by omega⟩ ⟨by omega, by omega⟩ (by omega) dX8_innerIn_58 ?_
    rw [tmod_nxt hk]
    refine e_ial X.a6 (by omega) (by omega) rfl (g4 _ hn).2 dX8_innerIn_59 ?_
    refine e_aload_n dX8_innerIn_60 rfl ?_
    refine e_getf fX8_32 X.obj rfl dX8_innerIn_61 ?_
    refine e_iload dX8_innerIn_64 rfl ?_
    refine e_ial X.a6 (by omega) (by omega) rfl (g4 k hk).2 dX8_innerIn_66 ?_
    refine e_isub dX8_innerIn_67 ?_
    rw [show pY F (nxt F.length k) - pY F k = rsE F k from rfl]
    refine e_istore dX8_innerIn_68 rfl ?_
    refine e_iload dX8_innerIn_70 rfl ?_
    refine e_iload_n dX8_innerIn_72 rfl ?_
    refine e_aload_n dX8_innerIn_73 rfl ?_
    refine e_getf fX8_32 X.obj rfl dX8_innerIn_74 ?_
    refine e_iload dX8_innerIn_77 rfl ?_
    refine e_ial X.a6 (by omega) (by omega) rfl (g4 k hk).2 dX8_innerIn_79 ?_
    refine e_isub dX8_innerIn_80 ?_
    refine e_imul dX8_innerIn_81 ?_
    rw [show rnE F k * (y - pY F k) = inS F y k from rfl]
    generalize rsE F k = dy at b7 eB eL eH eZ ⊢
    generalize inS F y k = sd at b5 eB eZ ⊢
    generalize inB F y k = B at b4 eB eL eH ⊢
    generalize inL F y k = lo at b3 eL ⊢
    generalize inH F y k = hi at b3 eH ⊢
    generalize rnE F k = dx at b6 ⊢
    refine e_istore dX8_innerIn_82 rfl ?_
    refine e_iload dX8_innerIn_84 rfl ?_
    refine e_if_ne (tgt := 96) ⟨by omega, by omega⟩ dX8_innerIn_86 rfl (fun c_86 => ?_) (fun c_86 => ?_)
    · refine e_iload dX8_innerIn_96 rfl ?_
      refine e_if_le (tgt := 121) ⟨by omega, by omega⟩ dX8_innerIn_98 rfl (fun c_98 => ?_) (fun c_98 => ?_)
      · refine e_iload dX8_innerIn_121 rfl ?_
        refine e_if_ge (tgt := 150) ⟨by omega, by omega⟩ dX8_innerIn_123 rfl (fun c_123 => ?_) (fun c_123 => ?_)
        · refine e_iconst dX8_innerIn_150 ?_
          refine e_top B (by rw [eB, if_neg (by omega), if_neg (by omega)]) ?_
          refine e_istore dX8_innerIn_151 rfl ?_
          refine e_iload dX8_innerIn_153 rfl ?_
          refine e_if_le (tgt := 167) ⟨by omega, by omega⟩ dX8_innerIn_155 rfl (fun c_155 => ?_) (fun c_155 => ?_)
          · have e3 : inH F y (k + 1) = hi := eH.trans (if_neg (by omega))
            refine e_iload dX8_innerIn_167 rfl ?_
            refine e_if_ge (tgt := 181) ⟨by omega, by omega⟩ dX8_innerIn_169 rfl (fun c_169 => ?_) (fun c_169 => ?_)
            · have e2 : inL F y (k + 1) = lo := eL.trans (if_neg (by omega))
              refine e_iinc dX8_innerIn_181 rfl ?_
              refine e_goto (tgt := 19) dX8_innerIn_184 rfl ?_
              first | exact e_loc [(5, .int (iN (k + 1 : Nat))), (4, .int (iN F.length)), (3, .int (iN (inH F y (k + 1)))), (2, .int (iN (inL F y (k + 1)))), (0, .ref m), (1, .int (iN y))] ⟨rfl, rfl, by rw [e3]; rfl, by rw [e2]; rfl, rfl, rfl, trivial⟩ (ih (k + 1) (by omega) (fun i hi => if c : i < k then hno i c else by rw [show i = k by omega]; exact fun w => absurd (eZ.mp w) (by omega)))
            · refine e_iload dX8_innerIn_172 rfl ?_
              refine e_iload_n dX8_innerIn_174 rfl ?_
              refine e_icmp_le (tgt := 181) ⟨by omega, by omega⟩ ⟨by omega, by omega⟩ dX8_innerIn_175 rfl (fun c_175 => ?_) (fun c_175 => ?_)
              · have e2 : inL F y (k + 1) = lo := eL.trans (if_neg (by omega))
                refine e_iinc dX8_innerIn_181 rfl ?_
                refine e_goto (tgt := 19) dX8_innerIn_184 rfl ?_
                first | exact e_loc [(5, .int (iN (k + 1 : Nat))), (4, .int (iN F.length)), (3, .int (iN (inH F y (k + 1)))), (2, .int (iN (inL F y (k + 1)))), (0, .ref m), (1, .int (iN y))] ⟨rfl, rfl, by rw [e3]; rfl, by rw [e2]; rfl, rfl, rfl, trivial⟩ (ih (k + 1) (by omega) (fun i hi => if c : i < k then hno i c else by rw [show i = k by omega]; exact fun w => absurd (eZ.mp w) (by omega)))
              · have e2 : inL F y (k + 1) = B := eL.trans (if_pos (by omega))
                refine e_iload dX8_innerIn_178 rfl ?_
                refine e_istore_n dX8_innerIn_180 rfl ?_
                refine e_iinc dX8_innerIn_181 rfl ?_
                refine e_goto (tgt := 19) dX8_innerIn_184 rfl ?_
                first | exact e_loc [(5, .int (iN (k + 1 : Nat))), (4, .int (iN F.length)), (3, .int (iN (inH F y (k + 1)))), (2, .int (iN (inL F y (k + 1)))), (0, .ref m), (1, .int (iN y))] ⟨rfl, rfl, by rw [e3]; rfl, by rw [e2]; rfl, rfl, rfl, trivial⟩ (ih (k + 1) (by omega) (fun i hi => if c : i < k then hno i c else by rw [show i = k by omega]; exact fun w => absurd (eZ.mp w) (by omega)))
          · refine e_iload dX8_innerIn_158 rfl ?_
            refine e_iload_n dX8_innerIn_160 rfl ?_
            refine e_icmp_ge (tgt := 167) ⟨by omega, by omega⟩ ⟨by omega, by omega⟩ dX8_innerIn_161 rfl (fun c_161 => ?_) (fun c_161 => ?_)
            · have e3 : inH F y (k + 1) = hi := eH.trans (if_neg (by omega))
              refine e_iload dX8_innerIn_167 rfl ?_
              refine e_if_ge (tgt := 181) ⟨by omega, by omega⟩ dX8_innerIn_169 rfl (fun c_169 => ?_) (fun c_169 => ?_)
              · have e2 : inL F y (k + 1) = lo := eL.trans (if_neg (by omega))
                refine e_iinc dX8_innerIn_181 rfl ?_
                refine e_goto (tgt := 19) dX8_innerIn_184 rfl ?_
                first | exact e_loc [(5, .int (iN (k + 1 : Nat))), (4, .int (iN F.length)), (3, .int (iN (inH F y (k + 1)))), (2, .int (iN (inL F y (k + 1)))), (0, .ref m), (1, .int (iN y))] ⟨rfl, rfl, by rw [e3]; rfl, by rw [e2]; rfl, rfl, rfl, trivial⟩ (ih (k + 1) (by omega) (fun i hi => if c : i < k then hno i c else by rw [show i = k by omega]; exact fun w => absurd (eZ.mp w) (by omega)))
              · refine e_iload dX8_innerIn_172 rfl ?_
                refine e_iload_n dX8_innerIn_174 rfl ?_
                refine e_icmp_le (tgt := 181) ⟨by omega, by omega⟩ ⟨by omega, by omega⟩ dX8_innerIn_175 rfl (fun c_175 => ?_) (fun c_175 => ?_)
                · have e2 : inL F y (k + 1) = lo := eL.trans (if_neg (by omega))
                  refine e_iinc dX8_innerIn_181 rfl ?_
                  refine e_goto (tgt := 19) dX8_innerIn_184 rfl ?_
                  first | exact e_loc [(5, .int (iN (k + 1 : Nat))), (4, .int (iN F.length)), (3, .int (iN (inH F y (k + 1)))), (2, .int (iN (inL F y (k + 1)))), (0, .ref m), (1, .int (iN y))] ⟨rfl, rfl, by rw [e3]; rfl, by rw [e2]; rfl, rfl, rfl, trivial⟩ (ih (k + 1) (by omega) (fun i hi => if c : i < k then hno i c else by rw [show i = k by omega]; exact fun w => absurd (eZ.mp w) (by omega)))
                · have e2 : inL F y (k + 1) = B := eL.trans (if_pos (by omega))
                  refine e_iload dX8_innerIn_178 rfl ?_
                  refine e_istore_n dX8_innerIn_180 rfl ?_
                  refine e_iinc dX8_innerIn_181 rfl ?_
                  refine e_goto (tgt := 19) dX8_innerIn_184 rfl ?_
                  first | exact e_loc [(5, .int (iN (k + 1 : Nat))), (4, .int (iN F.length)), (3, .int (iN (inH F y (k + 1)))), (2, .int (iN (inL F y (k + 1)))), (0, .ref m), (1, .int (iN y))] ⟨rfl, rfl, by rw [e3]; rfl, by rw [e2]; rfl, rfl, rfl, trivial⟩ (ih (k + 1) (by omega) (fun i hi => if c : i < k then hno i c else by rw [show i = k by omega]; exact fun w => absurd (eZ.mp w) (by omega)))
            · have e3 : inH F y (k + 1) = B := eH.trans (if_pos (by omega))
              refine e_iload dX8_innerIn_164 rfl ?_
              refine e_istore_n dX8_innerIn_166 rfl ?_
              refine e_iload dX8_innerIn_167 rfl ?_
              refine e_if_ge (tgt := 181) ⟨by omega, by omega⟩ dX8_innerIn_169 rfl (fun c_169 => ?_) (fun c_169 => ?_)
              · have e2 : inL F y (k + 1) = lo := eL.trans (if_neg (by omega))
                refine e_iinc dX8_innerIn_181 rfl ?_
                refine e_goto (tgt := 19) dX8_innerIn_184 rfl ?_
                first | exact e_loc [(5, .int (iN (k + 1 : Nat))), (4, .int (iN F.length)), (3, .int (iN (inH F y (k + 1)))), (2, .int (iN (inL F y (k + 1)))), (0, .ref m), (1, .int (iN y))] ⟨rfl, rfl, by rw [e3]; rfl, by rw [e2]; rfl, rfl, rfl, trivial⟩ (ih (k + 1) (by omega) (fun i hi => if c : i < k then hno i c else by rw [show i = k by omega]; exact fun w => absurd (eZ.mp w) (by omega)))
              · refine e_iload dX8_innerIn_172 rfl ?_
                refine e_iload_n dX8_innerIn_174 rfl ?_
                refine e_icmp_le (tgt := 181) ⟨by omega, by omega⟩ ⟨by omega, by omega⟩ dX8_innerIn_175 rfl (fun c_175 => ?_) (fun c_175 => ?_)
                · have e2 : inL F y (k + 1) = lo := eL.trans (if_neg (by omega))
                  refine e_iinc dX8_innerIn_181 rfl ?_
                  refine e_goto (tgt := 19) dX8_innerIn_184 rfl ?_
                  first | exact e_loc [(5, .int (iN (k + 1 : Nat))), (4, .int (iN F.length)), (3, .int (iN (inH F y (k + 1)))), (2, .int (iN (inL F y (k + 1)))), (0, .ref m), (1, .int (iN y))] ⟨rfl, rfl, by rw [e3]; rfl, by rw [e2]; rfl, rfl, rfl, trivial⟩ (ih (k + 1) (by omega) (fun i hi => if c : i < k then hno i c else by rw [show i = k by omega]; exact fun w => absurd (eZ.mp w) (by omega)))
                · have e2 : inL F y (k + 1) = B := eL.trans (if_pos (by omega))
                  refine e_iload dX8_innerIn_178 rfl ?_
                  refine e_istore_n dX8_innerIn_180 rfl ?_
                  refine e_iinc dX8_innerIn_181 rfl ?_
                  refine e_goto (tgt := 19) dX8_innerIn_184 rfl ?_
                  first | exact e_loc [(5, .int (iN (k + 1 : Nat))), (4, .int (iN F.length)), (3, .int (iN (inH F y (k + 1)))), (2, .int (iN (inL F y (k + 1)))), (0, .ref m), (1, .int (iN y))] ⟨rfl, rfl, by rw [e3]; rfl, by rw [e2]; rfl, rfl, rfl, trivial⟩ (ih (k + 1) (by omega) (fun i hi => if c : i < k then hno i c else by rw [show i = k by omega]; exact fun w => absurd (eZ.mp w) (by omega)))
        · refine e_aload_n dX8_innerIn_126 rfl ?_
          refine e_getf fX8_29 X.obj rfl dX8_innerIn_127 ?_
          refine e_iload dX8_innerIn_130 rfl ?_
          refine e_ial X.a5 (by omega) (by omega) rfl (g4 k hk).1 dX8_innerIn_132 ?_
          refine e_iconst dX8_innerIn_133 ?_
          refine e_iload dX8_innerIn_134 rfl ?_
          refine e_isub dX8_innerIn_136 ?_
          refine e_iconst dX8_innerIn_137 ?_
          refine e_iload dX8_innerIn_138 rfl ?_
          refine e_isub dX8_innerIn_140 ?_
          refine e_pureS qcX8_179 (S_floor ⟨by omega, by omega⟩ ⟨by omega, by omega⟩) rfl rfl rfl rfl dX8_innerIn_141 ?_
          refine e_iadd dX8_innerIn_144 ?_
          refine e_iconst dX8_innerIn_145 ?_
          refine e_iadd dX8_innerIn_146 ?_
          refine e_top B (by rw [eB, if_neg (by omega), if_pos (by omega)]) ?_
          refine e_goto (tgt := 151) dX8_innerIn_147 rfl ?_
          refine e_istore dX8_innerIn_151 rfl ?_
          refine e_iload dX8_innerIn_153 rfl ?_
          refine e_if_le (tgt := 167) ⟨by omega, by omega⟩ dX8_innerIn_155 rfl (fun c_155 => ?_) (fun c_155 => ?_)
          · have e3 : inH F y (k + 1) = hi := eH.trans (if_neg (by omega))
            refine e_iload dX8_innerIn_167 rfl ?_
            refine e_if_ge (tgt := 181) ⟨by omega, by omega⟩ dX8_innerIn_169 rfl (fun c_169 => ?_) (fun c_169 => ?_)
            · have e2 : inL F y (k + 1) = lo := eL.trans (if_neg (by omega))
              refine e_iinc dX8_innerIn_181 rfl ?_
              refine e_goto (tgt := 19) dX8_innerIn_184 rfl ?_
              first | exact e_loc [(5, .int (iN (k + 1 : Nat))), (4, .int (iN F.length)), (3, .int (iN (inH F y (k + 1)))), (2, .int (iN (inL F y (k + 1)))), (0, .ref m), (1, .int (iN y))] ⟨rfl, rfl, by rw [e3]; rfl, by rw [e2]; rfl, rfl, rfl, trivial⟩ (ih (k + 1) (by omega) (fun i hi => if c : i < k then hno i c else by rw [show i = k by omega]; exact fun w => absurd (eZ.mp w) (by omega)))
            · refine e_iload dX8_innerIn_172 rfl ?_
              refine e_iload_n dX8_innerIn_174 rfl ?_
              refine e_icmp_le (tgt := 181) ⟨by omega, by omega⟩ ⟨by omega, by omega⟩ dX8_innerIn_175 rfl (fun c_175 => ?_) (fun c_175 => ?_)
              · have e2 : inL F y (k + 1) = lo := eL.trans (if_neg (by omega))
                refine e_iinc dX8_innerIn_181 rfl ?_
                refine e_goto (tgt := 19) dX8_innerIn_184 rfl ?_
                first | exact e_loc [(5, .int (iN (k + 1 : Nat))), (4, .int (iN F.length)), (3, .int (iN (inH F y (k + 1)))), (2, .int (iN (inL F y (k + 1)))), (0, .ref m), (1, .int (iN y))] ⟨rfl, rfl, by rw [e3]; rfl, by rw [e2]; rfl, rfl, rfl, trivial⟩ (ih (k + 1) (by omega) (fun i hi => if c : i < k then hno i c else by rw [show i = k by omega]; exact fun w => absurd (eZ.mp w) (by omega)))
              · have e2 : inL F y (k + 1) = B := eL.trans (if_pos (by omega))
                refine e_iload dX8_innerIn_178 rfl ?_
                refine e_istore_n dX8_innerIn_180 rfl ?_
                refine e_iinc dX8_innerIn_181 rfl ?_
                refine e_goto (tgt := 19) dX8_innerIn_184 rfl ?_
                first | exact e_loc [(5, .int (iN (k + 1 : Nat))), (4, .int (iN F.length)), (3, .int (iN (inH F y (k + 1)))), (2, .int (iN (inL F y (k + 1)))), (0, .ref m), (1, .int (iN y))] ⟨rfl, rfl, by rw [e3]; rfl, by rw [e2]; rfl, rfl, rfl, trivial⟩ (ih (k + 1) (by omega) (fun i hi => if c : i < k then hno i c else by rw [show i = k by omega]; exact fun w => absurd (eZ.mp w) (by omega)))
          · refine e_iload dX8_innerIn_158 rfl ?_
            refine e_iload_n dX8_innerIn_160 rfl ?_
            refine e_icmp_ge (tgt := 167) ⟨by omega, by omega⟩ ⟨by omega, by omega⟩ dX8_innerIn_161 rfl (fun c_161 => ?_) (fun c_161 => ?_)
            · have e3 : inH F y (k + 1) = hi := eH.trans (if_neg (by omega))
              refine e_iload dX8_innerIn_167 rfl ?_
              refine e_if_ge (tgt := 181) ⟨by omega, by omega⟩ dX8_innerIn_169 rfl (fun c_169 => ?_) (fun c_169 => ?_)
              · have e2 : inL F y (k + 1) = lo := eL.trans (if_neg (by omega))
                refine e_iinc dX8_innerIn_181 rfl ?_
                refine e_goto (tgt := 19) dX8_innerIn_184 rfl ?_
                first | exact e_loc [(5, .int (iN (k + 1 : Nat))), (4, .int (iN F.length)), (3, .int (iN (inH F y (k + 1)))), (2, .int (iN (inL F y (k + 1)))), (0, .ref m), (1, .int (iN y))] ⟨rfl, rfl, by rw [e3]; rfl, by rw [e2]; rfl, rfl, rfl, trivial⟩ (ih (k + 1) (by omega) (fun i hi => if c : i < k then hno i c else by rw [show i = k by omega]; exact fun w => absurd (eZ.mp w) (by omega)))
              · refine e_iload dX8_innerIn_172 rfl ?_
                refine e_iload_n dX8_innerIn_174 rfl ?_
                refine e_icmp_le (tgt := 181) ⟨by omega, by omega⟩ ⟨by omega, by omega⟩ dX8_innerIn_175 rfl (fun c_175 => ?_) (fun c_175 => ?_)
                · have e2 : inL F y (k + 1) = lo := eL.trans (if_neg (by omega))
                  refine e_iinc dX8_innerIn_181 rfl ?_
                  refine e_goto (tgt := 19) dX8_innerIn_184 rfl ?_
                  first | exact e_loc [(5, .int (iN (k + 1 : Nat))), (4, .int (iN F.length)), (3, .int (iN (inH F y (k + 1)))), (2, .int (iN (inL F y (k + 1)))), (0, .ref m), (1, .int (iN y))] ⟨rfl, rfl, by rw [e3]; rfl, by rw [e2]; rfl, rfl, rfl, trivial⟩ (ih (k + 1) (by omega) (fun i hi => if c : i < k then hno i c else by rw [show i = k by omega]; exact fun w => absurd (eZ.mp w) (by omega)))
                · have e2 : inL F y (k + 1) = B := eL.trans (if_pos (by omega))
                  refine e_iload dX8_innerIn_178 rfl ?_
                  refine e_istore_n dX8_innerIn_180 rfl ?_
                  refine e_iinc dX8_innerIn_181 rfl ?_
                  refine e_goto (tgt := 19) dX8_innerIn_184 rfl ?_
                  first | exact e_loc [(5, .int (iN (k + 1 : Nat))), (4, .int (iN F.length)), (3, .int (iN (inH F y (k + 1)))), (2, .int (iN (inL F y (k + 1)))), (0, .ref m), (1, .int (iN y))] ⟨rfl, rfl, by rw [e3]; rfl, by rw [e2]; rfl, rfl, rfl, trivial⟩ (ih (k + 1) (by omega) (fun i hi => if c : i < k then hno i c else by rw [show i = k by omega]; exact fun w => absurd (eZ.mp w) (by omega)))
            · have e3 : inH F y (k + 1) = B := eH.trans (if_pos (by omega))
              refine e_iload dX8_innerIn_164 rfl ?_
              refine e_istore_n dX8_innerIn_166 rfl ?_
              refine e_iload dX8_innerIn_167 rfl ?_
              refine e_if_ge (tgt := 181) ⟨by omega, by omega⟩ dX8_innerIn_169 rfl (fun c_169 => ?_) (fun c_169 => ?_)
              · have e2 : inL F y (k + 1) = lo := eL.trans (if_neg (by omega))
                refine e_iinc dX8_innerIn_181 rfl ?_
                refine e_goto (tgt := 19) dX8_innerIn_184 rfl ?_
                first | exact e_loc [(5, .int (iN (k + 1 : Nat))), (4, .int (iN F.length)), (3, .int (iN (inH F y (k + 1)))), (2, .int (iN (inL F y (k + 1)))), (0, .ref m), (1, .int (iN y))] ⟨rfl, rfl, by rw [e3]; rfl, by rw [e2]; rfl, rfl, rfl, trivial⟩ (ih (k + 1) (by omega) (fun i hi => if c : i < k then hno i c else by rw [show i = k by omega]; exact fun w => absurd (eZ.mp w) (by omega)))
              · refine e_iload dX8_innerIn_172 rfl ?_
                refine e_iload_n dX8_innerIn_174 rfl ?_
                refine e_icmp_le (tgt := 181) ⟨by omega, by omega⟩ ⟨by omega, by omega⟩ dX8_innerIn_175 rfl (fun c_175 => ?_) (fun c_175 => ?_)
                · have e2 : inL F y (k + 1) = lo := eL.trans (if_neg (by omega))
                  refine e_iinc dX8_innerIn_181 rfl ?_
                  refine e_goto (tgt := 19) dX8_innerIn_184 rfl ?_
                  first | exact e_loc [(5, .int (iN (k + 1 : Nat))), (4, .int (iN F.length)), (3, .int (iN (inH F y (k + 1)))), (2, .int (iN (inL F y (k + 1)))), (0, .ref m), (1, .int (iN y))] ⟨rfl, rfl, by rw [e3]; rfl, by rw [e2]; rfl, rfl, rfl, trivial⟩ (ih (k + 1) (by omega) (fun i hi => if c : i < k then hno i c else by rw [show i = k by omega]; exact fun w => absurd (eZ.mp w) (by omega)))
                · have e2 : inL F y (k + 1) = B := eL.trans (if_pos (by omega))
                  refine e_iload dX8_innerIn_178 rfl ?_
                  refine e_istore_n dX8_innerIn_180 rfl ?_
                  refine e_iinc dX8_innerIn_181 rfl ?_
                  refine e_goto (tgt := 19) dX8_innerIn_184 rfl ?_
                  first | exact e_loc [(5, .int (iN (k + 1 : Nat))), (4, .int (iN F.length)), (3, .int (iN (inH F y (k + 1)))), (2, .int (iN (inL F y (k + 1)))), (0, .ref m), (1, .int (iN y))] ⟨rfl, rfl, by rw [e3]; rfl, by rw [e2]; rfl, rfl, rfl, trivial⟩ (ih (k + 1) (by omega) (fun i hi => if c : i < k then hno i c else by rw [show i = k by omega]; exact fun w => absurd (eZ.mp w) (by omega)))
      · refine e_aload_n dX8_innerIn_101 rfl ?_
        refine e_getf fX8_29 X.obj rfl dX8_innerIn_102 ?_
        refine e_iload dX8_innerIn_105 rfl ?_
        refine e_ial X.a5 (by omega) (by omega) rfl (g4 k hk).1 dX8_innerIn_107 ?_
        refine e_iload dX8_innerIn_108 rfl ?_
        refine e_iconst dX8_innerIn_110 ?_
        refine e_isub dX8_innerIn_111 ?_
        refine e_iload dX8_innerIn_112 rfl ?_
        refine e_pureS qcX8_179 (S_floor ⟨by omega, by omega⟩ ⟨by omega, by omega⟩) rfl rfl rfl rfl dX8_innerIn_114 ?_
        refine e_iadd dX8_innerIn_117 ?_
        refine e_top B (by rw [eB, if_pos (by omega)]) ?_
        refine e_goto (tgt := 151) dX8_innerIn_118 rfl ?_
        refine e_istore dX8_innerIn_151 rfl ?_
        refine e_iload dX8_innerIn_153 rfl ?_
        refine e_if_le (tgt := 167) ⟨by omega, by omega⟩ dX8_innerIn_155 rfl (fun c_155 => ?_) (fun c_155 => ?_)
        · have e3 : inH F y (k + 1) = hi := eH.trans (if_neg (by omega))
          refine e_iload dX8_innerIn_167 rfl ?_
          refine e_if_ge (tgt := 181) ⟨by omega, by omega⟩ dX8_innerIn_169 rfl (fun c_169 => ?_) (fun c_169 => ?_)
          · have e2 : inL F y (k + 1) = lo := eL.trans (if_neg (by omega))
            refine e_iinc dX8_innerIn_181 rfl ?_
            refine e_goto (tgt := 19) dX8_innerIn_184 rfl ?_
            first | exact e_loc [(5, .int (iN (k + 1 : Nat))), (4, .int (iN F.length)), (3, .int (iN (inH F y (k + 1)))), (2, .int (iN (inL F y (k + 1)))), (0, .ref m), (1, .int (iN y))] ⟨rfl, rfl, by rw [e3]; rfl, by rw [e2]; rfl, rfl, rfl, trivial⟩ (ih (k + 1) (by omega) (fun i hi => if c : i < k then hno i c else by rw [show i = k by omega]; exact fun w => absurd (eZ.mp w) (by omega)))
          · refine e_iload dX8_innerIn_172 rfl ?_
            refine e_iload_n dX8_innerIn_174 rfl ?_
            refine e_icmp_le (tgt := 181) ⟨by omega, by omega⟩ ⟨by omega, by omega⟩ dX8_innerIn_175 rfl (fun c_175 => ?_) (fun c_175 => ?_)
            · have e2 : inL F y (k + 1) = lo := eL.trans (if_neg (by omega))
              refine e_iinc dX8_innerIn_181 rfl ?_
              refine e_goto (tgt := 19) dX8_innerIn_184 rfl ?_
              first | exact e_loc [(5, .int (iN (k + 1 : Nat))), (4, .int (iN F.length)), (3, .int (iN (inH F y (k + 1)))), (2, .int (iN (inL F y (k + 1)))), (0, .ref m), (1, .int (iN y))] ⟨rfl, rfl, by rw [e3]; rfl, by rw [e2]; rfl, rfl, rfl, trivial⟩ (ih (k + 1) (by omega) (fun i hi => if c : i < k then hno i c else by rw [show i = k by omega]; exact fun w => absurd (eZ.mp w) (by omega)))
            · have e2 : inL F y (k + 1) = B := eL.trans (if_pos (by omega))
              refine e_iload dX8_innerIn_178 rfl ?_
              refine e_istore_n dX8_innerIn_180 rfl ?_
              refine e_iinc dX8_innerIn_181 rfl ?_
              refine e_goto (tgt := 19) dX8_innerIn_184 rfl ?_
              first | exact e_loc [(5, .int (iN (k + 1 : Nat))), (4, .int (iN F.length)), (3, .int (iN (inH F y (k + 1)))), (2, .int (iN (inL F y (k + 1)))), (0, .ref m), (1, .int (iN y))] ⟨rfl, rfl, by rw [e3]; rfl, by rw [e2]; rfl, rfl, rfl, trivial⟩ (ih (k + 1) (by omega) (fun i hi => if c : i < k then hno i c else by rw [show i = k by omega]; exact fun w => absurd (eZ.mp w) (by omega)))
        · refine e_iload dX8_innerIn_158 rfl ?_
          refine e_iload_n dX8_innerIn_160 rfl ?_
          refine e_icmp_ge (tgt := 167) ⟨by omega, by omega⟩ ⟨by omega, by omega⟩ dX8_innerIn_161 rfl (fun c_161 => ?_) (fun c_161 => ?_)
          · have e3 : inH F y (k + 1) = hi := eH.trans (if_neg (by omega))
            refine e_iload dX8_innerIn_167 rfl ?_
            refine e_if_ge (tgt := 181) ⟨by omega, by omega⟩ dX8_innerIn_169 rfl (fun c_169 => ?_) (fun c_169 => ?_)
            · have e2 : inL F y (k + 1) = lo := eL.trans (if_neg (by omega))
              refine e_iinc dX8_innerIn_181 rfl ?_
              refine e_goto (tgt := 19) dX8_innerIn_184 rfl ?_
              first | exact e_loc [(5, .int (iN (k + 1 : Nat))), (4, .int (iN F.length)), (3, .int (iN (inH F y (k + 1)))), (2, .int (iN (inL F y (k + 1)))), (0, .ref m), (1, .int (iN y))] ⟨rfl, rfl, by rw [e3]; rfl, by rw [e2]; rfl, rfl, rfl, trivial⟩ (ih (k + 1) (by omega) (fun i hi => if c : i < k then hno i c else by rw [show i = k by omega]; exact fun w => absurd (eZ.mp w) (by omega)))
            · refine e_iload dX8_innerIn_172 rfl ?_
              refine e_iload_n dX8_innerIn_174 rfl ?_
              refine e_icmp_le (tgt := 181) ⟨by omega, by omega⟩ ⟨by omega, by omega⟩ dX8_innerIn_175 rfl (fun c_175 => ?_) (fun c_175 => ?_)
              · have e2 : inL F y (k + 1) = lo := eL.trans (if_neg (by omega))
                refine e_iinc dX8_innerIn_181 rfl ?_
                refine e_goto (tgt := 19) dX8_innerIn_184 rfl ?_
                first | exact e_loc [(5, .int (iN (k + 1 : Nat))), (4, .int (iN F.length)), (3, .int (iN (inH F y (k + 1)))), (2, .int (iN (inL F y (k + 1)))), (0, .ref m), (1, .int (iN y))] ⟨rfl, rfl, by rw [e3]; rfl, by rw [e2]; rfl, rfl, rfl, trivial⟩ (ih (k + 1) (by omega) (fun i hi => if c : i < k then hno i c else by rw [show i = k by omega]; exact fun w => absurd (eZ.mp w) (by omega)))
              · have e2 : inL F y (k + 1) = B := eL.trans (if_pos (by omega))
                refine e_iload dX8_innerIn_178 rfl ?_
                refine e_istore_n dX8_innerIn_180 rfl ?_
                refine e_iinc dX8_innerIn_181 rfl ?_
                refine e_goto (tgt := 19) dX8_innerIn_184 rfl ?_
                first | exact e_loc [(5, .int (iN (k + 1 : Nat))), (4, .int (iN F.length)), (3, .int (iN (inH F y (k + 1)))), (2, .int (iN (inL F y (k + 1)))), (0, .ref m), (1, .int (iN y))] ⟨rfl, rfl, by rw [e3]; rfl, by rw [e2]; rfl, rfl, rfl, trivial⟩ (ih (k + 1) (by omega) (fun i hi => if c : i < k then hno i c else by rw [show i = k by omega]; exact fun w => absurd (eZ.mp w) (by omega)))
          · have e3 : inH F y (k + 1) = B := eH.trans (if_pos (by omega))
            refine e_iload dX8_innerIn_164 rfl ?_
            refine e_istore_n dX8_innerIn_166 rfl ?_
            refine e_iload dX8_innerIn_167 rfl ?_
            refine e_if_ge (tgt := 181) ⟨by omega, by omega⟩ dX8_innerIn_169 rfl (fun c_169 => ?_) (fun c_169 => ?_)
            · have e2 : inL F y (k + 1) = lo := eL.trans (if_neg (by omega))
              refine e_iinc dX8_innerIn_181 rfl ?_
              refine e_goto (tgt := 19) dX8_innerIn_184 rfl ?_
              first | exact e_loc [(5, .int (iN (k + 1 : Nat))), (4, .int (iN F.length)), (3, .int (iN (inH F y (k + 1)))), (2, .int (iN (inL F y (k + 1)))), (0, .ref m), (1, .int (iN y))] ⟨rfl, rfl, by rw [e3]; rfl, by rw [e2]; rfl, rfl, rfl, trivial⟩ (ih (k + 1) (by omega) (fun i hi => if c : i < k then hno i c else by rw [show i = k by omega]; exact fun w => absurd (eZ.mp w) (by omega)))
            · refine e_iload dX8_innerIn_172 rfl ?_
              refine e_iload_n dX8_innerIn_174 rfl ?_
              refine e_icmp_le (tgt := 181) ⟨by omega, by omega⟩ ⟨by omega, by omega⟩ dX8_innerIn_175 rfl (fun c_175 => ?_) (fun c_175 => ?_)
              · have e2 : inL F y (k + 1) = lo := eL.trans (if_neg (by omega))
                refine e_iinc dX8_innerIn_181 rfl ?_
                refine e_goto (tgt := 19) dX8_innerIn_184 rfl ?_
                first | exact e_loc [(5, .int (iN (k + 1 : Nat))), (4, .int (iN F.length)), (3, .int (iN (inH F y (k + 1)))), (2, .int (iN (inL F y (k + 1)))), (0, .ref m), (1, .int (iN y))] ⟨rfl, rfl, by rw [e3]; rfl, by rw [e2]; rfl, rfl, rfl, trivial⟩ (ih (k + 1) (by omega) (fun i hi => if c : i < k then hno i c else by rw [show i = k by omega]; exact fun w => absurd (eZ.mp w) (by omega)))
              · have e2 : inL F y (k + 1) = B := eL.trans (if_pos (by omega))
                refine e_iload dX8_innerIn_178 rfl ?_
                refine e_istore_n dX8_innerIn_180 rfl ?_
                refine e_iinc dX8_innerIn_181 rfl ?_
                refine e_goto (tgt := 19) dX8_innerIn_184 rfl ?_
                first | exact e_loc [(5, .int (iN (k + 1 : Nat))), (4, .int (iN F.length)), (3, .int (iN (inH F y (k + 1)))), (2, .int (iN (inL F y (k + 1)))), (0, .ref m), (1, .int (iN y))] ⟨rfl, rfl, by rw [e3]; rfl, by rw [e2]; rfl, rfl, rfl, trivial⟩ (ih (k + 1) (by omega) (fun i hi => if c : i < k then hno i c else by rw [show i = k by omega]; exact fun w => absurd (eZ.mp w) (by omega)))
    · refine e_iload dX8_innerIn_89 rfl ?_
      refine e_if_gt (tgt := 96) ⟨by omega, by omega⟩ dX8_innerIn_91 rfl (fun c_91 => ?_) (fun c_91 => ?_)
      · refine e_iload dX8_innerIn_96 rfl ?_
        refine e_if_le (tgt := 121) ⟨by omega, by omega⟩ dX8_innerIn_98 rfl (fun c_98 => ?_) (fun c_98 => ?_)
        · refine e_iload dX8_innerIn_121 rfl ?_
          refine e_if_ge (tgt := 150) ⟨by omega, by omega⟩ dX8_innerIn_123 rfl (fun c_123 => ?_) (fun c_123 => ?_)
          · refine e_iconst dX8_innerIn_150 ?_
            refine e_top B (by rw [eB, if_neg (by omega), if_neg (by omega)]) ?_
            refine e_istore dX8_innerIn_151 rfl ?_
            refine e_iload dX8_innerIn_153 rfl ?_
            refine e_if_le (tgt := 167) ⟨by omega, by omega⟩ dX8_innerIn_155 rfl (fun c_155 => ?_) (fun c_155 => ?_)
            · have e3 : inH F y (k + 1) = hi := eH.trans (if_neg (by omega))
              refine e_iload dX8_innerIn_167 rfl ?_
              refine e_if_ge (tgt := 181) ⟨by omega, by omega⟩ dX8_innerIn_169 rfl (fun c_169 => ?_) (fun c_169 => ?_)
              · have e2 : inL F y (k + 1) = lo := eL.trans (if_neg (by omega))
                refine e_iinc dX8_innerIn_181 rfl ?_
                refine e_goto (tgt := 19) dX8_innerIn_184 rfl ?_
                first | exact e_loc [(5, .int (iN (k + 1 : Nat))), (4, .int (iN F.length)), (3, .int (iN (inH F y (k + 1)))), (2, .int (iN (inL F y (k + 1)))), (0, .ref m), (1, .int (iN y))] ⟨rfl, rfl, by rw [e3]; rfl, by rw [e2]; rfl, rfl, rfl, trivial⟩ (ih (k + 1) (by omega) (fun i hi => if c : i < k then hno i c else by rw [show i = k by omega]; exact fun w => absurd (eZ.mp w) (by omega)))
              · refine e_iload dX8_innerIn_172 rfl ?_
                refine e_iload_n dX8_innerIn_174 rfl ?_
                refine e_icmp_le (tgt := 181) ⟨by omega, by omega⟩ ⟨by omega, by omega⟩ dX8_innerIn_175 rfl (fun c_175 => ?_) (fun c_175 => ?_)
                · have e2 : inL F y (k + 1) = lo := eL.trans (if_neg (by omega))
                  refine e_iinc dX8_innerIn_181 rfl ?_
                  refine e_goto (tgt := 19) dX8_innerIn_184 rfl ?_
                  first | exact e_loc [(5, .int (iN (k + 1 : Nat))), (4, .int (iN F.length)), (3, .int (iN (inH F y (k + 1)))), (2, .int (iN (inL F y (k + 1)))), (0, .ref m), (1, .int (iN y))] ⟨rfl, rfl, by rw [e3]; rfl, by rw [e2]; rfl, rfl, rfl, trivial⟩ (ih (k + 1) (by omega) (fun i hi => if c : i < k then hno i c else by rw [show i = k by omega]; exact fun w => absurd (eZ.mp w) (by omega)))
                · have e2 : inL F y (k + 1) = B := eL.trans (if_pos (by omega))
                  refine e_iload dX8_innerIn_178 rfl ?_
                  refine e_istore_n dX8_innerIn_180 rfl ?_
                  refine e_iinc dX8_innerIn_181 rfl ?_
                  refine e_goto (tgt := 19) dX8_innerIn_184 rfl ?_
                  first | exact e_loc [(5, .int (iN (k + 1 : Nat))), (4, .int (iN F.length)), (3, .int (iN (inH F y (k + 1)))), (2, .int (iN (inL F y (k + 1)))), (0, .ref m), (1, .int (iN y))] ⟨rfl, rfl, by rw [e3]; rfl, by rw [e2]; rfl, rfl, rfl, trivial⟩ (ih (k + 1) (by omega) (fun i hi => if c : i < k then hno i c else by rw [show i = k by omega]; exact fun w => absurd (eZ.mp w) (by omega)))
            · refine e_iload dX8_innerIn_158 rfl ?_
              refine e_iload_n dX8_innerIn_160 rfl ?_
              refine e_icmp_ge (tgt := 167) ⟨by omega, by omega⟩ ⟨by omega, by omega⟩ dX8_innerIn_161 rfl (fun c_161 => ?_) (fun c_161 => ?_)
              · have e3 : inH F y (k + 1) = hi := eH.trans (if_neg (by omega))
                refine e_iload dX8_innerIn_167 rfl ?_
                refine e_if_ge (tgt := 181) ⟨by omega, by omega⟩ dX8_innerIn_169 rfl (fun c_169 => ?_) (fun c_169 => ?_)
                · have e2 : inL F y (k + 1) = lo := eL.trans (if_neg (by omega))
                  refine e_iinc dX8_innerIn_181 rfl ?_
                  refine e_goto (tgt := 19) dX8_innerIn_184 rfl ?_
                  first | exact e_loc [(5, .int (iN (k + 1 : Nat))), (4, .int (iN F.length)), (3, .int (iN (inH F y (k + 1)))), (2, .int (iN (inL F y (k + 1)))), (0, .ref m), (1, .int (iN y))] ⟨rfl, rfl, by rw [e3]; rfl, by rw [e2]; rfl, rfl, rfl, trivial⟩ (ih (k + 1) (by omega) (fun i hi => if c : i < k then hno i c else by rw [show i = k by omega]; exact fun w => absurd (eZ.mp w) (by omega)))
                · refine e_iload dX8_innerIn_172 rfl ?_
                  refine e_iload_n dX8_innerIn_174 rfl ?_
                  refine e_icmp_le (tgt := 181) ⟨by omega, by omega⟩ ⟨by omega, by omega⟩ dX8_innerIn_175 rfl (fun c_175 => ?_) (fun c_175 => ?_)
                  · have e2 : inL F y (k + 1) = lo := eL.trans (if_neg (by omega))
                    refine e_iinc dX8_innerIn_181 rfl ?_
                    refine e_goto (tgt := 19) dX8_innerIn_184 rfl ?_
                    first | exact e_loc [(5, .int (iN (k + 1 : Nat))), (4, .int (iN F.length)), (3, .int (iN (inH F y (k + 1)))), (2, .int (iN (inL F y (k + 1)))), (0, .ref m), (1, .int (iN y))] ⟨rfl, rfl, by rw [e3]; rfl, by rw [e2]; rfl, rfl, rfl, trivial⟩ (ih (k + 1) (by omega) (fun i hi => if c : i < k then hno i c else by rw [show i = k by omega]; exact fun w => absurd (eZ.mp w) (by omega)))
                  · have e2 : inL F y (k + 1) = B := eL.trans (if_pos (by omega))
                    refine e_iload dX8_innerIn_178 rfl ?_
                    refine e_istore_n dX8_innerIn_180 rfl ?_
                    refine e_iinc dX8_innerIn_181 rfl ?_
                    refine e_goto (tgt := 19) dX8_innerIn_184 rfl ?_
                    first | exact e_loc [(5, .int (iN (k + 1 : Nat))), (4, .int (iN F.length)), (3, .int (iN (inH F y (k + 1)))), (2, .int (iN (inL F y (k + 1)))), (0, .ref m), (1, .int (iN y))] ⟨rfl, rfl, by rw [e3]; rfl, by rw [e2]; rfl, rfl, rfl, trivial⟩ (ih (k + 1) (by omega) (fun i hi => if c : i < k then hno i c else by rw [show i = k by omega]; exact fun w => absurd (eZ.mp w) (by omega)))
              · have e3 : inH F y (k + 1) = B := eH.trans (if_pos (by omega))
                refine e_iload dX8_innerIn_164 rfl ?_
                refine e_istore_n dX8_innerIn_166 rfl ?_
                refine e_iload dX8_innerIn_167 rfl ?_
                refine e_if_ge (tgt := 181) ⟨by omega, by omega⟩ dX8_innerIn_169 rfl (fun c_169 => ?_) (fun c_169 => ?_)
                · have e2 : inL F y (k + 1) = lo := eL.trans (if_neg (by omega))
                  refine e_iinc dX8_innerIn_181 rfl ?_
                  refine e_goto (tgt := 19) dX8_innerIn_184 rfl ?_
                  first | exact e_loc [(5, .int (iN (k + 1 : Nat))), (4, .int (iN F.length)), (3, .int (iN (inH F y (k + 1)))), (2, .int (iN (inL F y (k + 1)))), (0, .ref m), (1, .int (iN y))] ⟨rfl, rfl, by rw [e3]; rfl, by rw [e2]; rfl, rfl, rfl, trivial⟩ (ih (k + 1) (by omega) (fun i hi => if c : i < k then hno i c else by rw [show i = k by omega]; exact fun w => absurd (eZ.mp w) (by omega)))
                · refine e_iload dX8_innerIn_172 rfl ?_
                  refine e_iload_n dX8_innerIn_174 rfl ?_
                  refine e_icmp_le (tgt := 181) ⟨by omega, by omega⟩ ⟨by omega, by omega⟩ dX8_innerIn_175 rfl (fun c_175 => ?_) (fun c_175 => ?_)
                  · have e2 : inL F y (k + 1) = lo := eL.trans (if_neg (by omega))
                    refine e_iinc dX8_innerIn_181 rfl ?_
                    refine e_goto (tgt := 19) dX8_innerIn_184 rfl ?_
                    first | exact e_loc [(5, .int (iN (k + 1 : Nat))), (4, .int (iN F.length)), (3, .int (iN (inH F y (k + 1)))), (2, .int (iN (inL F y (k + 1)))), (0, .ref m), (1, .int (iN y))] ⟨rfl, rfl, by rw [e3]; rfl, by rw [e2]; rfl, rfl, rfl, trivial⟩ (ih (k + 1) (by omega) (fun i hi => if c : i < k then hno i c else by rw [show i = k by omega]; exact fun w => absurd (eZ.mp w) (by omega)))
                  · have e2 : inL F y (k + 1) = B := eL.trans (if_pos (by omega))
                    refine e_iload dX8_innerIn_178 rfl ?_
                    refine e_istore_n dX8_innerIn_180 rfl ?_
                    refine e_iinc dX8_innerIn_181 rfl ?_
                    refine e_goto (tgt := 19) dX8_innerIn_184 rfl ?_
                    first | exact e_loc [(5, .int (iN (k + 1 : Nat))), (4, .int (iN F.length)), (3, .int (iN (inH F y (k + 1)))), (2, .int (iN (inL F y (k + 1)))), (0, .ref m), (1, .int (iN y))] ⟨rfl, rfl, by rw [e3]; rfl, by rw [e2]; rfl, rfl, rfl, trivial⟩ (ih (k + 1) (by omega) (fun i hi => if c : i < k then hno i c else by rw [show i = k by omega]; exact fun w => absurd (eZ.mp w) (by omega)))
          · refine e_aload_n dX8_innerIn_126 rfl ?_
            refine e_getf fX8_29 X.obj rfl dX8_innerIn_127 ?_
            refine e_iload dX8_innerIn_130 rfl ?_
            refine e_ial X.a5 (by omega) (by omega) rfl (g4 k hk).1 dX8_innerIn_132 ?_
            refine e_iconst dX8_innerIn_133 ?_
            refine e_iload dX8_innerIn_134 rfl ?_
            refine e_isub dX8_innerIn_136 ?_
            refine e_iconst dX8_innerIn_137 ?_
            refine e_iload dX8_innerIn_138 rfl ?_
            refine e_isub dX8_innerIn_140 ?_
            refine e_pureS qcX8_179 (S_floor ⟨by omega, by omega⟩ ⟨by omega, by omega⟩) rfl rfl rfl rfl dX8_innerIn_141 ?_
            refine e_iadd dX8_innerIn_144 ?_
            refine e_iconst dX8_innerIn_145 ?_
            refine e_iadd dX8_innerIn_146 ?_
            refine e_top B (by rw [eB, if_neg (by omega), if_pos (by omega)]) ?_
            refine e_goto (tgt := 151) dX8_innerIn_147 rfl ?_
            refine e_istore dX8_innerIn_151 rfl ?_
            refine e_iload dX8_innerIn_153 rfl ?_
            refine e_if_le (tgt := 167) ⟨by omega, by omega⟩ dX8_innerIn_155 rfl (fun c_155 => ?_) (fun c_155 => ?_)
            · have e3 : inH F y (k + 1) = hi := eH.trans (if_neg (by omega))
              refine e_iload dX8_innerIn_167 rfl ?_
              refine e_if_ge (tgt := 181) ⟨by omega, by omega⟩ dX8_innerIn_169 rfl (fun c_169 => ?_) (fun c_169 => ?_)
              · have e2 : inL F y (k + 1) = lo := eL.trans (if_neg (by omega))
                refine e_iinc dX8_innerIn_181 rfl ?_
                refine e_goto (tgt := 19) dX8_innerIn_184 rfl ?_
                first | exact e_loc [(5, .int (iN (k + 1 : Nat))), (4, .int (iN F.length)), (3, .int (iN (inH F y (k + 1)))), (2, .int (iN (inL F y (k + 1)))), (0, .ref m), (1, .int (iN y))] ⟨rfl, rfl, by rw [e3]; rfl, by rw [e2]; rfl, rfl, rfl, trivial⟩ (ih (k + 1) (by omega) (fun i hi => if c : i < k then hno i c else by rw [show i = k by omega]; exact fun w => absurd (eZ.mp w) (by omega)))
              · refine e_iload dX8_innerIn_172 rfl ?_
                refine e_iload_n dX8_innerIn_174 rfl ?_
                refine e_icmp_le (tgt := 181) ⟨by omega, by omega⟩ ⟨by omega, by omega⟩ dX8_innerIn_175 rfl (fun c_175 => ?_) (fun c_175 => ?_)
                · have e2 : inL F y (k + 1) = lo := eL.trans (if_neg (by omega))
                  refine e_iinc dX8_innerIn_181 rfl ?_
                  refine e_goto (tgt := 19) dX8_innerIn_184 rfl ?_
                  first | exact e_loc [(5, .int (iN (k + 1 : Nat))), (4, .int (iN F.length)), (3, .int (iN (inH F y (k + 1)))), (2, .int (iN (inL F y (k + 1)))), (0, .ref m), (1, .int (iN y))] ⟨rfl, rfl, by rw [e3]; rfl, by rw [e2]; rfl, rfl, rfl, trivial⟩ (ih (k + 1) (by omega) (fun i hi => if c : i < k then hno i c else by rw [show i = k by omega]; exact fun w => absurd (eZ.mp w) (by omega)))
                · have e2 : inL F y (k + 1) = B := eL.trans (if_pos (by omega))
                  refine e_iload dX8_innerIn_178 rfl ?_
                  refine e_istore_n dX8_innerIn_180 rfl ?_
                  refine e_iinc dX8_innerIn_181 rfl ?_
                  refine e_goto (tgt := 19) dX8_innerIn_184 rfl ?_
                  first | exact e_loc [(5, .int (iN (k + 1 : Nat))), (4, .int (iN F.length)), (3, .int (iN (inH F y (k + 1)))), (2, .int (iN (inL F y (k + 1)))), (0, .ref m), (1, .int (iN y))] ⟨rfl, rfl, by rw [e3]; rfl, by rw [e2]; rfl, rfl, rfl, trivial⟩ (ih (k + 1) (by omega) (fun i hi => if c : i < k then hno i c else by rw [show i = k by omega]; exact fun w => absurd (eZ.mp w) (by omega)))
            · refine e_iload dX8_innerIn_158 rfl ?_
              refine e_iload_n dX8_innerIn_160 rfl ?_
              refine e_icmp_ge (tgt := 167) ⟨by omega, by omega⟩ ⟨by omega, by omega⟩ dX8_innerIn_161 rfl (fun c_161 => ?_) (fun c_161 => ?_)
              · have e3 : inH F y (k + 1) = hi := eH.trans (if_neg (by omega))
                refine e_iload dX8_innerIn_167 rfl ?_
                refine e_if_ge (tgt := 181) ⟨by omega, by omega⟩ dX8_innerIn_169 rfl (fun c_169 => ?_) (fun c_169 => ?_)
                · have e2 : inL F y (k + 1) = lo := eL.trans (if_neg (by omega))
                  refine e_iinc dX8_innerIn_181 rfl ?_
                  refine e_goto (tgt := 19) dX8_innerIn_184 rfl ?_
                  first | exact e_loc [(5, .int (iN (k + 1 : Nat))), (4, .int (iN F.length)), (3, .int (iN (inH F y (k + 1)))), (2, .int (iN (inL F y (k + 1)))), (0, .ref m), (1, .int (iN y))] ⟨rfl, rfl, by rw [e3]; rfl, by rw [e2]; rfl, rfl, rfl, trivial⟩ (ih (k + 1) (by omega) (fun i hi => if c : i < k then hno i c else by rw [show i = k by omega]; exact fun w => absurd (eZ.mp w) (by omega)))
                · refine e_iload dX8_innerIn_172 rfl ?_
                  refine e_iload_n dX8_innerIn_174 rfl ?_
                  refine e_icmp_le (tgt := 181) ⟨by omega, by omega⟩ ⟨by omega, by omega⟩ dX8_innerIn_175 rfl (fun c_175 => ?_) (fun c_175 => ?_)
                  · have e2 : inL F y (k + 1) = lo := eL.trans (if_neg (by omega))
                    refine e_iinc dX8_innerIn_181 rfl ?_
                    refine e_goto (tgt := 19) dX8_innerIn_184 rfl ?_
                    first | exact e_loc [(5, .int (iN (k + 1 : Nat))), (4, .int (iN F.length)), (3, .int (iN (inH F y (k + 1)))), (2, .int (iN (inL F y (k + 1)))), (0, .ref m), (1, .int (iN y))] ⟨rfl, rfl, by rw [e3]; rfl, by rw [e2]; rfl, rfl, rfl, trivial⟩ (ih (k + 1) (by omega) (fun i hi => if c : i < k then hno i c else by rw [show i = k by omega]; exact fun w => absurd (eZ.mp w) (by omega)))
                  · have e2 : inL F y (k + 1) = B := eL.trans (if_pos (by omega))
                    refine e_iload dX8_innerIn_178 rfl ?_
                    refine e_istore_n dX8_innerIn_180 rfl ?_
                    refine e_iinc dX8_innerIn_181 rfl ?_
                    refine e_goto (tgt := 19) dX8_innerIn_184 rfl ?_
                    first | exact e_loc [(5, .int (iN (k + 1 : Nat))), (4, .int (iN F.length)), (3, .int (iN (inH F y (k + 1)))), (2, .int (iN (inL F y (k + 1)))), (0, .ref m), (1, .int (iN y))] ⟨rfl, rfl, by rw [e3]; rfl, by rw [e2]; rfl, rfl, rfl, trivial⟩ (ih (k + 1) (by omega) (fun i hi => if c : i < k then hno i c else by rw [show i = k by omega]; exact fun w => absurd (eZ.mp w) (by omega)))
              · have e3 : inH F y (k + 1) = B := eH.trans (if_pos (by omega))
                refine e_iload dX8_innerIn_164 rfl ?_
                refine e_istore_n dX8_innerIn_166 rfl ?_
                refine e_iload dX8_innerIn_167 rfl ?_
                refine e_if_ge (tgt := 181) ⟨by omega, by omega⟩ dX8_innerIn_169 rfl (fun c_169 => ?_) (fun c_169 => ?_)
                · have e2 : inL F y (k + 1) = lo := eL.trans (if_neg (by omega))
                  refine e_iinc dX8_innerIn_181 rfl ?_
                  refine e_goto (tgt := 19) dX8_innerIn_184 rfl ?_
                  first | exact e_loc [(5, .int (iN (k + 1 : Nat))), (4, .int (iN F.length)), (3, .int (iN (inH F y (k + 1)))), (2, .int (iN (inL F y (k + 1)))), (0, .ref m), (1, .int (iN y))] ⟨rfl, rfl, by rw [e3]; rfl, by rw [e2]; rfl, rfl, rfl, trivial⟩ (ih (k + 1) (by omega) (fun i hi => if c : i < k then hno i c else by rw [show i = k by omega]; exact fun w => absurd (eZ.mp w) (by omega)))
                · refine e_iload dX8_innerIn_172 rfl ?_
                  refine e_iload_n dX8_innerIn_174 rfl ?_
                  refine e_icmp_le (tgt := 181) ⟨by omega, by omega⟩ ⟨by omega, by omega⟩ dX8_innerIn_175 rfl (fun c_175 => ?_) (fun c_175 => ?_)
                  · have e2 : inL F y (k + 1) = lo := eL.trans (if_neg (by omega))
                    refine e_iinc dX8_innerIn_181 rfl ?_
                    refine e_goto (tgt := 19) dX8_innerIn_184 rfl ?_
                    first | exact e_loc [(5, .int (iN (k + 1 : Nat))), (4, .int (iN F.length)), (3, .int (iN (inH F y (k + 1)))), (2, .int (iN (inL F y (k + 1)))), (0, .ref m), (1, .int (iN y))] ⟨rfl, rfl, by rw [e3]; rfl, by rw [e2]; rfl, rfl, rfl, trivial⟩ (ih (k + 1) (by omega) (fun i hi => if c : i < k then hno i c else by rw [show i = k by omega]; exact fun w => absurd (eZ.mp w) (by omega)))
                  · have e2 : inL F y (k + 1) = B := eL.trans (if_pos (by omega))
                    refine e_iload dX8_innerIn_178 rfl ?_
                    refine e_istore_n dX8_innerIn_180 rfl ?_
                    refine e_iinc dX8_innerIn_181 rfl ?_
                    refine e_goto (tgt := 19) dX8_innerIn_184 rfl ?_
                    first | exact e_loc [(5, .int (iN (k + 1 : Nat))), (4, .int (iN F.length)), (3, .int (iN (inH F y (k + 1)))), (2, .int (iN (inL F y (k + 1)))), (0, .ref m), (1, .int (iN y))] ⟨rfl, rfl, by rw [e3]; rfl, by rw [e2]; rfl, rfl, rfl, trivial⟩ (ih (k + 1) (by omega) (fun i hi => if c : i < k then hno i c else by rw [show i = k by omega]; exact fun w => absurd (eZ.mp w) (by omega)))
        · refine e_aload_n dX8_innerIn_101 rfl ?_
          refine e_getf fX8_29 X.obj rfl dX8_innerIn_102 ?_
          refine e_iload dX8_innerIn_105 rfl ?_
          refine e_ial X.a5 (by omega) (by omega) rfl (g4 k hk).1 dX8_innerIn_107 ?_
          refine e_iload dX8_innerIn_108 rfl ?_
          refine e_iconst dX8_innerIn_110 ?_
          refine e_isub dX8_innerIn_111 ?_
          refine e_iload dX8_innerIn_112 rfl ?_
          refine e_pureS qcX8_179 (S_floor ⟨by omega, by omega⟩ ⟨by omega, by omega⟩) rfl rfl rfl rfl dX8_innerIn_114 ?_
          refine e_iadd dX8_innerIn_117 ?_
          refine e_top B (by rw [eB, if_pos (by omega)]) ?_
          refine e_goto (tgt := 151) dX8_innerIn_118 rfl ?_
          refine e_istore dX8_innerIn_151 rfl ?_
          refine e_iload dX8_innerIn_153 rfl ?_
          refine e_if_le (tgt := 167) ⟨by omega, by omega⟩ dX8_innerIn_155 rfl (fun c_155 => ?_) (fun c_155 => ?_)
          · have e3 : inH F y (k + 1) = hi := eH.trans (if_neg (by omega))
            refine e_iload dX8_innerIn_167 rfl ?_
            refine e_if_ge (tgt := 181) ⟨by omega, by omega⟩ dX8_innerIn_169 rfl (fun c_169 => ?_) (fun c_169 => ?_)
            · have e2 : inL F y (k + 1) = lo := eL.trans (if_neg (by omega))
              refine e_iinc dX8_innerIn_181 rfl ?_
              refine e_goto (tgt := 19) dX8_innerIn_184 rfl ?_
              first | exact e_loc [(5, .int (iN (k + 1 : Nat))), (4, .int (iN F.length)), (3, .int (iN (inH F y (k + 1)))), (2, .int (iN (inL F y (k + 1)))), (0, .ref m), (1, .int (iN y))] ⟨rfl, rfl, by rw [e3]; rfl, by rw [e2]; rfl, rfl, rfl, trivial⟩ (ih (k + 1) (by omega) (fun i hi => if c : i < k then hno i c else by rw [show i = k by omega]; exact fun w => absurd (eZ.mp w) (by omega)))
            · refine e_iload dX8_innerIn_172 rfl ?_
              refine e_iload_n dX8_innerIn_174 rfl ?_
              refine e_icmp_le (tgt := 181) ⟨by omega, by omega⟩ ⟨by omega, by omega⟩ dX8_innerIn_175 rfl (fun c_175 => ?_) (fun c_175 => ?_)
              · have e2 : inL F y (k + 1) = lo := eL.trans (if_neg (by omega))
                refine e_iinc dX8_innerIn_181 rfl ?_
                refine e_goto (tgt := 19) dX8_innerIn_184 rfl ?_
                first | exact e_loc [(5, .int (iN (k + 1 : Nat))), (4, .int (iN F.length)), (3, .int (iN (inH F y (k + 1)))), (2, .int (iN (inL F y (k + 1)))), (0, .ref m), (1, .int (iN y))] ⟨rfl, rfl, by rw [e3]; rfl, by rw [e2]; rfl, rfl, rfl, trivial⟩ (ih (k + 1) (by omega) (fun i hi => if c : i < k then hno i c else by rw [show i = k by omega]; exact fun w => absurd (eZ.mp w) (by omega)))
              · have e2 : inL F y (k + 1) = B := eL.trans (if_pos (by omega))
                refine e_iload dX8_innerIn_178 rfl ?_
                refine e_istore_n dX8_innerIn_180 rfl ?_
                refine e_iinc dX8_innerIn_181 rfl ?_
                refine e_goto (tgt := 19) dX8_innerIn_184 rfl ?_
                first | exact e_loc [(5, .int (iN (k + 1 : Nat))), (4, .int (iN F.length)), (3, .int (iN (inH F y (k + 1)))), (2, .int (iN (inL F y (k + 1)))), (0, .ref m), (1, .int (iN y))] ⟨rfl, rfl, by rw [e3]; rfl, by rw [e2]; rfl, rfl, rfl, trivial⟩ (ih (k + 1) (by omega) (fun i hi => if c : i < k then hno i c else by rw [show i = k by omega]; exact fun w => absurd (eZ.mp w) (by omega)))
          · refine e_iload dX8_innerIn_158 rfl ?_
            refine e_iload_n dX8_innerIn_160 rfl ?_
            refine e_icmp_ge (tgt := 167) ⟨by omega, by omega⟩ ⟨by omega, by omega⟩ dX8_innerIn_161 rfl (fun c_161 => ?_) (fun c_161 => ?_)
            · have e3 : inH F y (k + 1) = hi := eH.trans (if_neg (by omega))
              refine e_iload dX8_innerIn_167 rfl ?_
              refine e_if_ge (tgt := 181) ⟨by omega, by omega⟩ dX8_innerIn_169 rfl (fun c_169 => ?_) (fun c_169 => ?_)
              · have e2 : inL F y (k + 1) = lo := eL.trans (if_neg (by omega))
                refine e_iinc dX8_innerIn_181 rfl ?_
                refine e_goto (tgt := 19) dX8_innerIn_184 rfl ?_
                first | exact e_loc [(5, .int (iN (k + 1 : Nat))), (4, .int (iN F.length)), (3, .int (iN (inH F y (k + 1)))), (2, .int (iN (inL F y (k + 1)))), (0, .ref m), (1, .int (iN y))] ⟨rfl, rfl, by rw [e3]; rfl, by rw [e2]; rfl, rfl, rfl, trivial⟩ (ih (k + 1) (by omega) (fun i hi => if c : i < k then hno i c else by rw [show i = k by omega]; exact fun w => absurd (eZ.mp w) (by omega)))
              · refine e_iload dX8_innerIn_172 rfl ?_
                refine e_iload_n dX8_innerIn_174 rfl ?_
                refine e_icmp_le (tgt := 181) ⟨by omega, by omega⟩ ⟨by omega, by omega⟩ dX8_innerIn_175 rfl (fun c_175 => ?_) (fun c_175 => ?_)
                · have e2 : inL F y (k + 1) = lo := eL.trans (if_neg (by omega))
                  refine e_iinc dX8_innerIn_181 rfl ?_
                  refine e_goto (tgt := 19) dX8_innerIn_184 rfl ?_
                  first | exact e_loc [(5, .int (iN (k + 1 : Nat))), (4, .int (iN F.length)), (3, .int (iN (inH F y (k + 1)))), (2, .int (iN (inL F y (k + 1)))), (0, .ref m), (1, .int (iN y))] ⟨rfl, rfl, by rw [e3]; rfl, by rw [e2]; rfl, rfl, rfl, trivial⟩ (ih (k + 1) (by omega) (fun i hi => if c : i < k then hno i c else by rw [show i = k by omega]; exact fun w => absurd (eZ.mp w) (by omega)))
                · have e2 : inL F y (k + 1) = B := eL.trans (if_pos (by omega))
                  refine e_iload dX8_innerIn_178 rfl ?_
                  refine e_istore_n dX8_innerIn_180 rfl ?_
                  refine e_iinc dX8_innerIn_181 rfl ?_
                  refine e_goto (tgt := 19) dX8_innerIn_184 rfl ?_
                  first | exact e_loc [(5, .int (iN (k + 1 : Nat))), (4, .int (iN F.length)), (3, .int (iN (inH F y (k + 1)))), (2, .int (iN (inL F y (k + 1)))), (0, .ref m), (1, .int (iN y))] ⟨rfl, rfl, by rw [e3]; rfl, by rw [e2]; rfl, rfl, rfl, trivial⟩ (ih (k + 1) (by omega) (fun i hi => if c : i < k then hno i c else by rw [show i = k by omega]; exact fun w => absurd (eZ.mp w) (by omega)))
            · have e3 : inH F y (k + 1) = B := eH.trans (if_pos (by omega))
              refine e_iload dX8_innerIn_164 rfl ?_
              refine e_istore_n dX8_innerIn_166 rfl ?_
              refine e_iload dX8_innerIn_167 rfl ?_
              refine e_if_ge (tgt := 181) ⟨by omega, by omega⟩ dX8_innerIn_169 rfl (fun c_169 => ?_) (fun c_169 => ?_)
              · have e2 : inL F y (k + 1) = lo := eL.trans (if_neg (by omega))
                refine e_iinc dX8_innerIn_181 rfl ?_
                refine e_goto (tgt := 19) dX8_innerIn_184 rfl ?_
                first | exact e_loc [(5, .int (iN (k + 1 : Nat))), (4, .int (iN F.length)), (3, .int (iN (inH F y (k + 1)))), (2, .int (iN (inL F y (k + 1)))), (0, .ref m), (1, .int (iN y))] ⟨rfl, rfl, by rw [e3]; rfl, by rw [e2]; rfl, rfl, rfl, trivial⟩ (ih (k + 1) (by omega) (fun i hi => if c : i < k then hno i c else by rw [show i = k by omega]; exact fun w => absurd (eZ.mp w) (by omega)))
              · refine e_iload dX8_innerIn_172 rfl ?_
                refine e_iload_n dX8_innerIn_174 rfl ?_
                refine e_icmp_le (tgt := 181) ⟨by omega, by omega⟩ ⟨by omega, by omega⟩ dX8_innerIn_175 rfl (fun c_175 => ?_) (fun c_175 => ?_)
                · have e2 : inL F y (k + 1) = lo := eL.trans (if_neg (by omega))
                  refine e_iinc dX8_innerIn_181 rfl ?_
                  refine e_goto (tgt := 19) dX8_innerIn_184 rfl ?_
                  first | exact e_loc [(5, .int (iN (k + 1 : Nat))), (4, .int (iN F.length)), (3, .int (iN (inH F y (k + 1)))), (2, .int (iN (inL F y (k + 1)))), (0, .ref m), (1, .int (iN y))] ⟨rfl, rfl, by rw [e3]; rfl, by rw [e2]; rfl, rfl, rfl, trivial⟩ (ih (k + 1) (by omega) (fun i hi => if c : i < k then hno i c else by rw [show i = k by omega]; exact fun w => absurd (eZ.mp w) (by omega)))
                · have e2 : inL F y (k + 1) = B := eL.trans (if_pos (by omega))
                  refine e_iload dX8_innerIn_178 rfl ?_
                  refine e_istore_n dX8_innerIn_180 rfl ?_
                  refine e_iinc dX8_innerIn_181 rfl ?_
                  refine e_goto (tgt := 19) dX8_innerIn_184 rfl ?_
                  first | exact e_loc [(5, .int (iN (k + 1 : Nat))), (4, .int (iN F.length)), (3, .int (iN (inH F y (k + 1)))), (2, .int (iN (inL F y (k + 1)))), (0, .ref m), (1, .int (iN y))] ⟨rfl, rfl, by rw [e3]; rfl, by rw [e2]; rfl, rfl, rfl, trivial⟩ (ih (k + 1) (by omega) (fun i hi => if c : i < k then hno i c else by rw [show i = k by omega]; exact fun w => absurd (eZ.mp w) (by omega)))
      · refine e_iconst dX8_innerIn_94 ?_
        refine e_iret rfl dX8_innerIn_95 (by decide) (by decide) ?_
        exact ⟨by rw [show inI F y = 0 from cif_t ⟨k, hk, eZ.mpr ⟨by omega, by omega⟩⟩], rfl, rfl⟩
set_option maxRecDepth 20000 in
theorem S_innerIn (X : mdX G sc ar m h0 h) (hF : mdH ar 0 F) {y : Int} (hy : -400 ≤ y ∧ y ≤ 400) : Pure G mX8_innerIn [.ref m, .int (iN y)] h (.int (iN (inI F y))) := by
  have f1 := hF.1
  intro z
  refine run_of rfl plX8 rfl ?_
  refine e_sipush dX8_innerIn_0 (by decide) ?_
  refine e_istore_n dX8_innerIn_3 rfl ?_
  refine e_sipush dX8_innerIn_4 (by decide) ?_
  refine e_istore_n dX8_innerIn_7 rfl ?_
  refine e_aload_n dX8_innerIn_8 rfl ?_
  refine e_getf fX8_35 X.obj rfl dX8_innerIn_9 ?_
  refine e_iconst dX8_innerIn_12 ?_
  refine e_ial X.a7 (by omega) (by omega) rfl f1 dX8_innerIn_13 ?_
  refine e_istore dX8_innerIn_14 rfl ?_
  refine e_iconst dX8_innerIn_16 ?_
  refine e_istore dX8_innerIn_17 rfl ?_
  exact e_loc [(5, .int (iN (0 : Nat))), (4, .int (iN F.length)), (3, .int (iN (inH F y (0)))), (2, .int (iN (inL F y (0)))), (0, .ref m), (1, .int (iN y))] ⟨rfl, rfl, rfl, rfl, rfl, rfl, trivial⟩ (in_loop X hF hy _ 0 (Nat.zero_add _) (fun i hi => absurd hi (Nat.not_lt_zero _)))
noncomputable def nnF (F : PL) : Int := if 2 < F.length then sumN (fun t => inI F ((t : Int) - 400)) 801 else 0
set_option maxRecDepth 20000 in
theorem nn_loop (X : mdX G sc ar m h0 h) (hR : mdR sc ar P E S b P2 E2 S2 F) (ht : sc 0 = 0) (h2 : 2 < F.length) : ∀ (n t : Nat), t + n = 801 → Ev (g_B G mX8_inner 0 0 (mZ G ((0, sumN (fun t => inI F ((t : Int) - 400)) 801) : Nat × Int) P E S b P2 E2 S2 F m h0)) 0 0 none h 11 [(2, .int (iN (((t : Nat) : Int) - 400))), (1, .int (iN (sumN (fun t => inI F ((t : Int) - 400)) (t)))), (0, .ref m)] [] := by
  have f1 := hR.2.2.2.2.1
  have f2 := hR.2.2.2.2.2.1
  intro n
  induction n with
  | zero =>
    intro t htn
    have e9 : t = 801 := by omega
    subst e9
    refine e_iload_n dX8_inner_11 rfl ?_
    refine e_sipush dX8_inner_12 (by decide) ?_
    refine e_icmp_gt (tgt := 42) ⟨by omega, by omega⟩ ⟨by omega, by omega⟩ dX8_inner_15 rfl (fun c_15 => ?_) (fun c_15 => absurd (by omega) c_15)
    refine e_iload_n dX8_inner_42 rfl ?_
    refine e_iret rfl dX8_inner_43 (by decide) (by decide) ?_
    exact ⟨rfl, rfl, _, _, X, hR, ht⟩
  | succ n ih =>
    intro t htn
    refine e_iload_n dX8_inner_11 rfl ?_
    refine e_sipush dX8_inner_12 (by decide) ?_
    refine e_icmp_gt (tgt := 42) ⟨by omega, by omega⟩ ⟨by omega, by omega⟩ dX8_inner_15 rfl (fun c_15 => absurd c_15 (by omega)) (fun c_15 => ?_)
    refine e_aload_n dX8_inner_18 rfl ?_
    refine e_getf fX8_35 X.obj rfl dX8_inner_19 ?_
    refine e_iconst dX8_inner_22 ?_
    refine e_ial X.a7 (by omega) (by omega) rfl f1 dX8_inner_23 ?_
    refine e_iconst dX8_inner_24 ?_
    refine e_icmp_le (tgt := 42) ⟨by omega, by omega⟩ ⟨by omega, by omega⟩ dX8_inner_25 rfl (fun c_25 => absurd c_25 (by omega)) (fun c_25 => ?_)
    refine e_iload_n dX8_inner_28 rfl ?_
    refine e_aload_n dX8_inner_29 rfl ?_
    refine e_iload_n dX8_inner_30 rfl ?_
    refine e_pureV qcX8_182 X.obj rfl rfl (S_innerIn X hR.2.2.2.2 (y := (t : Int) - 400) ⟨by omega, by omega⟩) rfl rfl rfl rfl dX8_inner_31 ?_
    refine e_iadd dX8_inner_34 ?_
    refine e_istore_n dX8_inner_35 rfl ?_
    refine e_iinc dX8_inner_36 rfl ?_
    refine e_goto (tgt := 11) dX8_inner_39 rfl ?_
    refine e_loc [(2, .int (iN (((t + 1 : Nat) : Int) - 400))), (1, .int (iN (sumN (fun t => inI F ((t : Int) - 400)) (t + 1)))), (0, .ref m)] ⟨?_, rfl, rfl, trivial⟩ (ih (t + 1) (by omega))
    exact congrArg (fun v => some (Value.int (iN v))) (show (t : Int) - 400 + 1 = ((t + 1 : Nat) : Int) - 400 by omega)
set_option maxRecDepth 20000 in
theorem M_inner (X : mdX G sc0 ar m h0 h) (hR : mdR sc0 ar P E S b P2 E2 S2 F) (hm : nnF F = pin F) : Run G mX8_inner [.ref m] none h 0 0 (mZ G (0, pin F) P E S b P2 E2 S2 F m h0) := by
  refine run_of rfl plX8 rfl ?_
  by_cases h2 : 2 < F.length
  · refine e_aload_n dX8_inner_0 rfl ?_
    refine e_iconst dX8_inner_1 ?_
    refine e_putf pfX8_1 X.obj rfl rfl rfl dX8_inner_2 ?_
    refine X.pto (q := 0) (fun h9 X9 => ?_) rfl
    replace X := X9
    clear X9
    replace hR := hR.t0 0
    have ht : uI sc0 0 0 0 = 0 := uI_s _ _ _
    generalize uI sc0 0 0 = sc at X hR ht
    refine e_iconst dX8_inner_5 ?_
    refine e_istore_n dX8_inner_6 rfl ?_
    refine e_sipush dX8_inner_7 (by decide) ?_
    refine e_istore_n dX8_inner_10 rfl ?_
    rw [show pin F = sumN (fun t => inI F ((t : Int) - 400)) 801 from hm.symm.trans (if_pos h2)]
    exact e_loc [(2, .int (iN (((0 : Nat) : Int) - 400))), (1, .int (iN (sumN (fun t => inI F ((t : Int) - 400)) (0)))), (0, .ref m)] ⟨rfl, rfl, rfl, trivial⟩ (nn_loop X hR ht h2 _ 0 (Nat.zero_add _))
  refine e_aload_n dX8_inner_0 rfl ?_
  refine e_iconst dX8_inner_1 ?_
  refine e_putf pfX8_1 X.obj rfl rfl rfl dX8_inner_2 ?_
  refine X.pto (q := 0) (fun h9 X9 => ?_) rfl
  replace X := X9
  clear X9
  replace hR := hR.t0 0
  have ht : uI sc0 0 0 0 = 0 := uI_s _ _ _
  generalize uI sc0 0 0 = sc at X hR ht
  obtain ⟨f1, f2, f3, f4⟩ := id hR.2.2.2.2
  have g4 : ∀ k, k < F.length → ar 5 k = pX F k ∧ ar 6 k = pY F k := fun k hk => by have := f4 k hk; rw [show 200 * 0 + k = k by omega] at this; exact this
  refine e_iconst dX8_inner_5 ?_
  refine e_istore_n dX8_inner_6 rfl ?_
  refine e_sipush dX8_inner_7 (by decide) ?_
  refine e_istore_n dX8_inner_10 rfl ?_
  refine e_iload_n dX8_inner_11 rfl ?_
  refine e_sipush dX8_inner_12 (by decide) ?_
  refine e_icmp_gt (tgt := 42) ⟨by decide, by decide⟩ ⟨by decide, by decide⟩ dX8_inner_15 rfl (fun c_15 => absurd c_15 (by decide)) (fun c_15 => ?_)
  refine e_aload_n dX8_inner_18 rfl ?_
  refine e_getf fX8_35 X.obj rfl dX8_inner_19 ?_
  refine e_iconst dX8_inner_22 ?_
  refine e_ial X.a7 (by omega) (by omega) rfl f1 dX8_inner_23 ?_
  refine e_iconst dX8_inner_24 ?_
  refine e_icmp_le (tgt := 42) ⟨by omega, by omega⟩ ⟨by omega, by omega⟩ dX8_inner_25 rfl (fun c_25 => ?_) (fun c_25 => absurd (by omega) c_25)
  refine e_iload_n dX8_inner_42 rfl ?_
  refine e_iret rfl dX8_inner_43 (by decide) (by decide) ?_
  rw [show pin F = 0 from hm.symm.trans (if_neg h2)]
  exact ⟨rfl, rfl, _, _, X, hR, ht⟩
end MNINE
