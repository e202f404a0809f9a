/-! The class: questions about the figure and the polygons -/
def k_corner (F : PL) (k : Int) (u : Prop) [Decidable u] : Nat × Int := if crOK F k then (0, if u then pY F k.toNat else pX F k.toNat) else (1, 0)
def k_edge (F : PL) : Int := if F.length = 0 then 0 else if F.length = 1 then 1 else if F.length = 2 then (gsE F 0 : Int) + 1 else srd F
def k_width (F : PL) (u : Prop) [Decidable u] : Nat × Int := if F.length < 3 then (1, 0) else (0, sqW F u)
abbrev adC (S : Nat → PL) (j x y : Int) : Prop := pgOK j ∧ nrOK x y ∧ (S j.toNat).length < 16
def k_add (S : Nat → PL) (j x y : Int) : Nat × Int := if pgOK j then (if nrOK x y then (if (S j.toNat).length < 16 then (0, ((S j.toNat).length : Int) + 1) else (2, 0)) else (1, 0)) else (1, 0)
def s_add (S : Nat → PL) (j x y : Int) : Nat → PL := if adC S j x y then uS S j.toNat ((S j.toNat) ++ [(x, y, ((S j.toNat).length : Int))]) else S
def k_clear (S : Nat → PL) (j : Int) : Nat × Int := if pgOK j then (0, ((S j.toNat).length : Int)) else (1, 0)
def s_clear (S : Nat → PL) (j : Int) : Nat → PL := if pgOK j then uS S j.toNat [] else S
noncomputable def k_isSimple (S : Nat → PL) (j : Int) : Nat × Int := if pgOK j then (0, bC (closes (S j.toNat))) else (1, 0)
def k_polygonArea (S : Nat → PL) (j : Int) : Nat × Int := if pgOK j then (0, da (S j.toNat)) else (1, 0)
noncomputable def k_polygonEdge (S : Nat → PL) (j : Int) : Nat × Int := if pgOK j then cif (closes (S j.toNat)) (0, srd (S j.toNat)) (2, 0) else (1, 0)
noncomputable def k_polygonInner (S : Nat → PL) (j : Int) : Nat × Int := if pgOK j then cif (closes (S j.toNat)) (0, pin (S j.toNat)) (2, 0) else (1, 0)
noncomputable def k_polygonLies (S : Nat → PL) (j x y : Int) : Nat × Int := if pgOK j then cif (closes (S j.toNat)) (0, wI (S j.toNat) 1 x y) (2, 0) else (1, 0)
abbrev hdC (P L : PL) (a : Int) (i : Nat) : Prop := pM P i = a ∧ 0 ≤ wI L 1 (pX P i) (pY P i)
noncomputable def hdN (P L : PL) (a : Int) : Nat → Nat
  | 0 => 0
  | n + 1 => if hdC P L a n then hdN P L a n + 1 else hdN P L a n
noncomputable def k_holds (P : PL) (S : Nat → PL) (j a : Int) : Nat × Int := if pgOK j then (if hpOK a then cif (closes (S j.toNat)) (0, (hdN P (S j.toNat) a P.length : Int)) (2, 0) else (1, 0)) else (1, 0)
theorem parZ_len (L : PL) (T : List Int) (a : Int) : (parZ L T a).2.1.length ≤ T.length + L.length := by
  unfold parZ
  split
  · rw [List.length_append, List.length_singleton]; omega
  · exact Nat.le_add_right _ _
theorem parF_len {w : Int} : ∀ (f : Nat) (L : PL) (T : List Int) (a : Int), (parF w f L T a).2.1.length ≤ T.length + L.length
  | 0, L, T, a => parZ_len L T a
  | f + 1, L, T, a => by
    unfold parF
    by_cases c : 3 < L.length
    · cases e : fE L w with
      | none => rw [parS_n c e]; exact Nat.le_add_right _ _
      | some i =>
        rw [parS_s c e]
        have h1 := fE_lt e
        have h2 := parF_len (w := w) f (L.eraseIdx i) (T ++ [tri3 L (prv L.length i) i (nxt L.length i)]) (a + ab3 L (prv L.length i) i (nxt L.length i))
        rw [List.length_append, List.length_singleton, List.length_eraseIdx, if_pos h1] at h2
        omega
    · rw [parS_z c]; exact parZ_len L T a
noncomputable def k_triangles (S : Nat → PL) (j : Int) : Nat × Int := if pgOK j then cif (closes (S j.toNat)) (0, ((parD (S j.toNat)).2.1.length : Int)) (2, 0) else (1, 0)
noncomputable def k_triangleAt (S : Nat → PL) (j t : Int) : Nat × Int := if pgOK j then cif (closes (S j.toNat)) (if 0 ≤ t ∧ t < (parD (S j.toNat)).2.1.length then (0, (parD (S j.toNat)).2.1.getD t.toNat 0) else (3, 0)) (2, 0) else (1, 0)
noncomputable def k_sees (S : Nat → PL) (j k l : Int) : Nat × Int := if pgOK j then (if crOK (S j.toNat) k then (if crOK (S j.toNat) l then cif (closes (S j.toNat)) (0, bC (opn (S j.toNat) k.toNat l.toNat)) (3, 0) else (2, 0)) else (2, 0)) else (1, 0)
noncomputable def vwN (L : PL) (k : Nat) : Nat → Nat
  | 0 => 0
  | n + 1 => cif (n ≠ k ∧ opn L k n) (vwN L k n + 1) (vwN L k n)
noncomputable def k_view (S : Nat → PL) (j k : Int) : Nat × Int := if pgOK j then (if crOK (S j.toNat) k then cif (closes (S j.toNat)) (0, (vwN (S j.toNat) k.toNat (S j.toNat).length : Int)) (3, 0) else (2, 0)) else (1, 0)
section PPUB3
variable {G : g_X} {P E : PL} {S : Nat → PL} {b : Int} {P2 E2 : PL} {S2 : Nat → PL} {F L1 L2 H1 H2 : PL} {QL : PL} {QT : List Int} {qa : Int} {CA CB : PL} {o : Nat} {h0 h : g_hp}
set_option maxRecDepth 20000 in
theorem C_corners (X : hsX G P E S b P2 E2 S2 F L1 L2 H1 H2 QL QT qa CA CB o h0 h) : Run G mX7_corners [.ref o] none h 1 6 (zK G (rsI [] (0, (F.length : Int))) P E S b P2 E2 S2 F o h0) := by
  refine run_of rfl plX7 rfl ?_
  refine e_aload_n dX7_corners_0 rfl ?_
  refine e_getf fX7_28 X.obj rfl dX7_corners_1 ?_
  refine e_pureV qcX7_68 X.fg.obj rfl rfl (S_size X.fg) rfl rfl rfl rfl dX7_corners_4 ?_
  refine e_iret rfl dX7_corners_7 (by decide) (by decide) ?_
  exact ⟨rfl, rfl, _, _, _, _, _, _, _, _, _, X⟩
set_option maxRecDepth 20000 in
theorem C_corner (X : hsX G P E S b P2 E2 S2 F L1 L2 H1 H2 QL QT qa CA CB o h0 h) {k : Int} (rk : r32 k) {u : Prop} [Decidable u] : Run G mX7_corner [.ref o, .int (iN k), .int (iN (bP u))] none h 1 6 (zK G (rsI [xIOB] (k_corner F k u)) P E S b P2 E2 S2 F o h0) := by
  refine run_of rfl plX7 rfl ?_
  refine e_aload_n dX7_corner_0 rfl ?_
  refine e_getf fX7_28 X.obj rfl dX7_corner_1 ?_
  refine e_iload_n dX7_corner_4 rfl ?_
  refine if c_5 : crOK F k then ?_ else e_throwsS qcX7_174 (T_requireCorner X.fg rk c_5) rfl rfl rfl rfl dX7_corner_5 rfl ⟨rfl, zk (show (k_corner F k u) = (1, 0) from (if_neg c_5)) rfl, _, _, _, _, _, _, _, _, _, X⟩
  refine e_doesS qcX7_174 (S_requireCorner X.fg rk c_5) rfl rfl rfl rfl dX7_corner_5 ?_
  intro v h9 q9
  obtain ⟨rfl, rfl⟩ := q9
  obtain ⟨m, rfl⟩ : ∃ m : Nat, k = (m : Int) := ⟨k.toNat, by have := c_5.1; omega⟩
  have hm : m < F.length := by have := c_5.2; omega
  refine e_iload_n dX7_corner_8 rfl ?_
  refine e_ifP_eq (tgt := 23) dX7_corner_9 rfl (fun c_9 => ?_) (fun c_9 => ?_)
  · have e6 : (if u then pY F m else pX F m) = pX F m := if_neg c_9
    refine e_aload_n dX7_corner_23 rfl ?_
    refine e_getf fX7_28 X.obj rfl dX7_corner_24 ?_
    refine e_iload_n dX7_corner_27 rfl ?_
    refine e_pureV qcX7_96 X.fg.obj rfl rfl (S_xAt X.fg hm) rfl rfl rfl rfl dX7_corner_28 ?_
    refine e_iret rfl dX7_corner_31 (by decide) (by decide) ?_
    rw [← e6]
    exact ⟨rfl, zk (show (k_corner F (m : Int) u) = (0, if u then pY F m else pX F m) from (if_pos c_5)) rfl, _, _, _, _, _, _, _, _, _, X⟩
  · have e6 : (if u then pY F m else pX F m) = pY F m := if_pos c_9
    refine e_aload_n dX7_corner_12 rfl ?_
    refine e_getf fX7_28 X.obj rfl dX7_corner_13 ?_
    refine e_iload_n dX7_corner_16 rfl ?_
    refine e_pureV qcX7_99 X.fg.obj rfl rfl (S_yAt X.fg hm) rfl rfl rfl rfl dX7_corner_17 ?_
    refine e_goto (tgt := 31) dX7_corner_20 rfl ?_
    refine e_iret rfl dX7_corner_31 (by decide) (by decide) ?_
    rw [← e6]
    exact ⟨rfl, zk (show (k_corner F (m : Int) u) = (0, if u then pY F m else pX F m) from (if_pos c_5)) rfl, _, _, _, _, _, _, _, _, _, X⟩
set_option maxRecDepth 20000 in
theorem C_area (X : hsX G P E S b P2 E2 S2 F L1 L2 H1 H2 QL QT qa CA CB o h0 h) : Run G mX7_area [.ref o] none h 1 6 (zK G (rsI [] (0, da F)) P E S b P2 E2 S2 F o h0) := by
  refine run_of rfl plX7 rfl ?_
  refine e_aload_n dX7_area_0 rfl ?_
  refine e_getf fX7_28 X.obj rfl dX7_area_1 ?_
  refine e_pureS qcX7_178 (S_doubledArea X.fg) rfl rfl rfl rfl dX7_area_4 ?_
  refine e_iret rfl dX7_area_7 (by decide) (by decide) ?_
  exact ⟨rfl, rfl, _, _, _, _, _, _, _, _, _, X⟩
set_option maxRecDepth 20000 in
theorem C_edge (X : hsX G P E S b P2 E2 S2 F L1 L2 H1 H2 QL QT qa CA CB o h0 h) : Run G mX7_edge [.ref o] none h 1 6 (zK G (rsI [] (0, k_edge F)) P E S b P2 E2 S2 F o h0) := by
  refine run_of rfl plX7 rfl ?_
  refine e_aload_n dX7_edge_0 rfl ?_
  refine e_getf fX7_28 X.obj rfl dX7_edge_1 ?_
  refine e_pureV qcX7_68 X.fg.obj rfl rfl (S_size X.fg) rfl rfl rfl rfl dX7_edge_4 ?_
  have e9 := X.fg.1
  by_cases d0 : F.length = 0
  · rw [show iN (F.length : Int) = iN 0 from by rw [d0]; rfl]
    refine e_tableIn (off := 25) (tgt := 32) dX7_edge_7 (by rw [iN_toInt ⟨by omega, by omega⟩]; omega) (by rw [iN_toInt ⟨by omega, by omega⟩]; omega) (by rw [iN_toInt ⟨by omega, by omega⟩]; rfl) rfl ?_
    refine e_iconst dX7_edge_32 ?_
    refine e_iret rfl dX7_edge_33 (by decide) (by decide) ?_
    exact ⟨rfl, zk (show ((0 : Nat), k_edge F) = (0, 0) from congrArg (fun v => ((0 : Nat), v)) (if_pos d0)) rfl, _, _, _, _, _, _, _, _, _, X⟩
  by_cases d1 : F.length = 1
  · rw [show iN (F.length : Int) = iN 1 from by rw [d1]; rfl]
    refine e_tableIn (off := 27) (tgt := 34) dX7_edge_7 (by rw [iN_toInt ⟨by omega, by omega⟩]; omega) (by rw [iN_toInt ⟨by omega, by omega⟩]; omega) (by rw [iN_toInt ⟨by omega, by omega⟩]; rfl) rfl ?_
    refine e_iconst dX7_edge_34 ?_
    refine e_iret rfl dX7_edge_35 (by decide) (by decide) ?_
    exact ⟨rfl, zk (show ((0 : Nat), k_edge F) = (0, 1) from congrArg (fun v => ((0 : Nat), v)) ((if_neg d0).trans (if_pos d1))) rfl, _, _, _, _, _, _, _, _, _, X⟩
  by_cases d2 : F.length = 2
  · rw [show iN (F.length : Int) = iN 2 from by rw [d2]; rfl]
    refine e_tableIn (off := 29) (tgt := 36) dX7_edge_7 (by rw [iN_toInt ⟨by omega, by omega⟩]; omega) (by rw [iN_toInt ⟨by omega, by omega⟩]; omega) (by rw [iN_toInt ⟨by omega, by omega⟩]; rfl) rfl ?_
    refine e_aload_n dX7_edge_36 rfl ?_
    refine e_getf fX7_28 X.obj rfl dX7_edge_37 ?_
    refine e_iconst dX7_edge_40 ?_
    refine e_pureS qcX7_184 (S_stepsAlong X.fg (show 0 < F.length by omega)) rfl rfl rfl rfl dX7_edge_41 ?_
    refine e_iconst dX7_edge_44 ?_
    refine e_iadd dX7_edge_45 ?_
    refine e_iret rfl dX7_edge_46 (by decide) (by decide) ?_
    exact ⟨rfl, zk (show ((0 : Nat), k_edge F) = (0, (gsE F 0 : Int) + 1) from congrArg (fun v => ((0 : Nat), v)) (((if_neg d0).trans (if_neg d1)).trans (if_pos d2))) rfl, _, _, _, _, _, _, _, _, _, X⟩
  refine e_tableOut (tgt := 47) dX7_edge_7 (by rw [iN_toInt ⟨by omega, by omega⟩]; omega) rfl ?_
  refine e_aload_n dX7_edge_47 rfl ?_
  refine e_getf fX7_28 X.obj rfl dX7_edge_48 ?_
  refine e_pureS qcX7_188 (S_stepsRound X.fg) rfl rfl rfl rfl dX7_edge_51 ?_
  refine e_iret rfl dX7_edge_54 (by decide) (by decide) ?_
  exact ⟨rfl, zk (show ((0 : Nat), k_edge F) = (0, srd F) from congrArg (fun v => ((0 : Nat), v)) (((if_neg d0).trans (if_neg d1)).trans (if_neg d2))) rfl, _, _, _, _, _, _, _, _, _, X⟩
set_option maxRecDepth 20000 in
theorem C_inner (X : hsX G P E S b P2 E2 S2 F L1 L2 H1 H2 QL QT qa CA CB o h0 h) : Run G mX7_inner [.ref o] none h 1 6 (zK G (rsI [] (0, pin F)) P E S b P2 E2 S2 F o h0) := by
  have e9 := X.fg.1
  refine run_of rfl plX7 rfl ?_
  refine e_aload_n dX7_inner_0 rfl ?_
  refine e_getf fX7_28 X.obj rfl dX7_inner_1 ?_
  refine e_pureS qcX7_191 (S_placesInside X.fg (by omega)) rfl rfl rfl rfl dX7_inner_4 ?_
  refine e_iret rfl dX7_inner_7 (by decide) (by decide) ?_
  exact ⟨rfl, rfl, _, _, _, _, _, _, _, _, _, X⟩
set_option maxRecDepth 20000 in
theorem C_lies (X : hsX G P E S b P2 E2 S2 F L1 L2 H1 H2 QL QT qa CA CB o h0 h) {x : Int} (rx : r32 x) {y : Int} (ry : r32 y) : Run G mX7_lies [.ref o, .int (iN x), .int (iN y)] none h 1 6 (zK G (rsI [] (0, wI F 1 x y)) P E S b P2 E2 S2 F o h0) := by
  have rx1 := rx.1
  have rx2 := rx.2
  have ry1 := ry.1
  have ry2 := ry.2
  refine run_of rfl plX7 rfl ?_
  refine e_aload_n dX7_lies_0 rfl ?_
  refine e_getf fX7_28 X.obj rfl dX7_lies_1 ?_
  refine e_iconst dX7_lies_4 ?_
  refine e_iload_n dX7_lies_5 rfl ?_
  refine e_i2l ⟨by omega, by omega⟩ dX7_lies_6 ?_
  refine e_iload_n dX7_lies_7 rfl ?_
  refine e_i2l ⟨by omega, by omega⟩ dX7_lies_8 ?_
  refine e_pureS qcX7_194 (S_whereIs (s := 1) X.fg ⟨by omega, by omega⟩ ⟨by omega, by omega⟩ ⟨by omega, by omega⟩) rfl rfl rfl rfl dX7_lies_9 ?_
  refine e_iret rfl dX7_lies_12 (by decide) (by decide) ?_
  exact ⟨rfl, rfl, _, _, _, _, _, _, _, _, _, X⟩
set_option maxRecDepth 20000 in
theorem C_width (X : hsX G P E S b P2 E2 S2 F L1 L2 H1 H2 QL QT qa CA CB o h0 h) {u : Prop} [Decidable u] (hS : okS F) : Run G mX7_width [.ref o, .int (iN (bP u))] none h 1 6 (zK G (rsL [xISE] (k_width F u)) P E S b P2 E2 S2 F o h0) := by
  have e9 := X.fg.1
  refine run_of rfl plX7 rfl ?_
  refine e_aload_n dX7_width_0 rfl ?_
  refine e_getf fX7_28 X.obj rfl dX7_width_1 ?_
  refine e_pureV qcX7_68 X.fg.obj rfl rfl (S_size X.fg) rfl rfl rfl rfl dX7_width_4 ?_
  refine e_iconst dX7_width_7 ?_
  refine e_icmp_ge (tgt := 21) ⟨by omega, by omega⟩ ⟨by omega, by omega⟩ dX7_width_8 rfl (fun c_8 => ?_) (fun c_8 => ?_)
  · refine e_aload_n dX7_width_21 rfl ?_
    refine e_getf fX7_28 X.obj rfl dX7_width_22 ?_
    refine e_iload_n dX7_width_25 rfl ?_
    refine e_pureS qcX7_200 (S_squaredWidth X.fg hS) rfl rfl rfl rfl dX7_width_26 ?_
    refine e_lret rfl dX7_width_29 (by decide) (by decide) ?_
    exact ⟨rfl, zkL (show (k_width F u) = (0, sqW F u) from (if_neg (by omega))) rfl, _, _, _, _, _, _, _, _, _, X⟩
  · refine e_throw (text := "the figure has fewer than 3 corners") rfl rfl t_72_76 s_198 dX7_width_11 dX7_width_14 dX7_width_15 dX7_width_17 dX7_width_20 rfl rfl (by decide) (by decide) ?_
    exact ⟨rfl, zkL (show (k_width F u) = (1, 0) from (if_pos (by omega))) rfl, _, _, _, _, _, _, _, _, _, X⟩
set_option maxRecDepth 20000 in
theorem C_add (X : hsX G P E S b P2 E2 S2 F L1 L2 H1 H2 QL QT qa CA CB o h0 h) {j : Int} (rj : r32 j) {x : Int} (rx : r32 x) {y : Int} (ry : r32 y) : Run G mX7_add [.ref o, .int (iN j), .int (iN x), .int (iN y)] none h 1 6 (zK G (rsI [xIAE, xISE] (k_add S j x y)) P E (s_add S j x y) b P2 E2 S2 F o h0) := by
  have rx1 := rx.1
  have rx2 := rx.2
  have ry1 := ry.1
  have ry2 := ry.2
  refine run_of rfl plX7 rfl ?_
  refine e_aload_n dX7_add_0 rfl ?_
  refine e_iload_n dX7_add_1 rfl ?_
  refine if c_2 : pgOK j then ?_ else e_throwsV qcX7_159 X.obj rfl rfl (T_requirePolygon X rj c_2) rfl rfl rfl rfl dX7_add_2 rfl ⟨rfl, zk (show (k_add S j x y) = (1, 0) from (if_neg c_2)) rfl, _, _, _, _, _, _, _, _, _, (by rw [show s_add S j x y = S from if_neg (fun w => c_2 w.1)]; exact X)⟩
  refine e_pureV qcX7_159 X.obj rfl rfl (S_requirePolygon X rj c_2) rfl rfl rfl rfl dX7_add_2 ?_
  have hj : j.toNat < 4 := by omega
  have e9 := (X.pol hj).1
  have e8 := (X.pol hj).2.1
  refine e_astore dX7_add_5 rfl ?_
  refine e_iload_n dX7_add_7 rfl ?_
  refine e_iload_n dX7_add_8 rfl ?_
  refine if c_9 : nrOK x y then ?_ else e_throwsS qcX7_61 (T_requireNear rx ry c_9) rfl rfl rfl rfl dX7_add_9 rfl ⟨rfl, zk (show (k_add S j x y) = (1, 0) from ((if_pos c_2).trans (if_neg c_9))) rfl, _, _, _, _, _, _, _, _, _, (by rw [show s_add S j x y = S from if_neg (fun w => c_9 w.2.1)]; exact X)⟩
  refine e_doesS qcX7_61 (S_requireNear rx ry c_9) rfl rfl rfl rfl dX7_add_9 ?_
  intro v h9 q9
  obtain ⟨rfl, rfl⟩ := q9
  refine e_aload dX7_add_12 rfl ?_
  refine e_pureV qcX7_68 (X.pol hj).obj rfl rfl (S_size (X.pol hj)) rfl rfl rfl rfl dX7_add_14 ?_
  refine e_bipush dX7_add_17 (by decide) ?_
  refine e_icmp_lt (tgt := 32) ⟨by omega, by omega⟩ ⟨by omega, by omega⟩ dX7_add_19 rfl (fun c_19 => ?_) (fun c_19 => ?_)
  · refine e_aload dX7_add_32 rfl ?_
    refine e_iload_n dX7_add_34 rfl ?_
    refine e_iload_n dX7_add_35 rfl ?_
    refine e_aload dX7_add_36 rfl ?_
    refine e_pureV qcX7_68 (X.pol hj).obj rfl rfl (S_size (X.pol hj)) rfl rfl rfl rfl dX7_add_38 ?_
    refine e_doesV qcX7_79 (X.pol hj).obj rfl rfl (S_append (X.pol hj) (by omega) (show bd x from ⟨by omega, by omega⟩) (show bd y from ⟨by omega, by omega⟩) (show bd ((S j.toNat).length : Int) from ⟨by omega, by omega⟩)) rfl rfl rfl rfl dX7_add_41 ?_
    intro v h9 q9
    obtain ⟨rfl, g9, f9⟩ := q9
    replace X := X.wS hj g9 f9
    clear g9 f9
    refine e_aload dX7_add_44 rfl ?_
    refine e_pureV qcX7_68 (X.pol hj).obj rfl rfl (S_size (X.pol hj)) rfl rfl rfl rfl dX7_add_46 ?_
    rw [uS_s, show ((((S j.toNat) ++ [(x, y, ((S j.toNat).length : Int))]).length : Nat) : Int) = ((S j.toNat).length : Int) + 1 from by simp]
    refine e_iret rfl dX7_add_49 (by decide) (by decide) ?_
    exact ⟨rfl, zk (show (k_add S j x y) = (0, ((S j.toNat).length : Int) + 1) from (((if_pos c_2).trans (if_pos c_9)).trans (if_pos (by omega)))) rfl, _, _, _, _, _, _, _, _, _, (by rw [show s_add S j x y = uS S j.toNat ((S j.toNat) ++ [(x, y, ((S j.toNat).length : Int))]) from if_pos ⟨c_2, c_9, by omega⟩]; exact X)⟩
  · refine e_throw (text := "the polygon has 16 corners") rfl rfl t_72_76 s_204 dX7_add_22 dX7_add_25 dX7_add_26 dX7_add_28 dX7_add_31 rfl rfl (by decide) (by decide) ?_
    exact ⟨rfl, zk (show (k_add S j x y) = (2, 0) from (((if_pos c_2).trans (if_pos c_9)).trans (if_neg (by omega)))) rfl, _, _, _, _, _, _, _, _, _, (by rw [show s_add S j x y = S from if_neg (fun w => absurd w.2.2 (by omega))]; exact X)⟩
set_option maxRecDepth 20000 in
theorem C_clear (X : hsX G P E S b P2 E2 S2 F L1 L2 H1 H2 QL QT qa CA CB o h0 h) {j : Int} (rj : r32 j) : Run G mX7_clear [.ref o, .int (iN j)] none h 1 6 (zK G (rsI [xIAE] (k_clear S j)) P E (s_clear S j) b P2 E2 S2 F o h0) := by
  refine run_of rfl plX7 rfl ?_
  refine e_aload_n dX7_clear_0 rfl ?_
  refine e_iload_n dX7_clear_1 rfl ?_
  refine if c_2 : pgOK j then ?_ else e_throwsV qcX7_159 X.obj rfl rfl (T_requirePolygon X rj c_2) rfl rfl rfl rfl dX7_clear_2 rfl ⟨rfl, zk (show (k_clear S j) = (1, 0) from (if_neg c_2)) rfl, _, _, _, _, _, _, _, _, _, (by rw [show s_clear S j = S from if_neg c_2]; exact X)⟩
  refine e_pureV qcX7_159 X.obj rfl rfl (S_requirePolygon X rj c_2) rfl rfl rfl rfl dX7_clear_2 ?_
  have hj : j.toNat < 4 := by omega
  have e9 := (X.pol hj).1
  have e8 := (X.pol hj).2.1
  refine e_astore_n dX7_clear_5 rfl ?_
  refine e_aload_n dX7_clear_6 rfl ?_
  refine e_pureV qcX7_68 (X.pol hj).obj rfl rfl (S_size (X.pol hj)) rfl rfl rfl rfl dX7_clear_7 ?_
  refine e_istore_n dX7_clear_10 rfl ?_
  refine e_aload_n dX7_clear_11 rfl ?_
  refine e_doesV qcX7_168 (X.pol hj).obj rfl rfl (S_reset (X.pol hj)) rfl rfl rfl rfl dX7_clear_12 ?_
  intro v h9 q9
  obtain ⟨rfl, g9, f9⟩ := q9
  replace X := X.wS hj g9 f9
  clear g9 f9
  refine e_iload_n dX7_clear_15 rfl ?_
  refine e_iret rfl dX7_clear_16 (by decide) (by decide) ?_
  exact ⟨rfl, zk (show (k_clear S j) = (0, ((S j.toNat).length : Int)) from (if_pos c_2)) rfl, _, _, _, _, _, _, _, _, _, (by rw [show s_clear S j = uS S j.toNat [] from if_pos c_2]; exact X)⟩
set_option maxRecDepth 20000 in
theorem C_isSimple (X : hsX G P E S b P2 E2 S2 F L1 L2 H1 H2 QL QT qa CA CB o h0 h) {j : Int} (rj : r32 j) : Run G mX7_isSimple [.ref o, .int (iN j)] none h 1 6 (zK G (rsI [xIAE] (k_isSimple S j)) P E S b P2 E2 S2 F o h0) := by
  letI : Decidable (closes (S j.toNat)) := Classical.propDecidable _
  refine run_of rfl plX7 rfl ?_
  refine e_aload_n dX7_isSimple_0 rfl ?_
  refine e_iload_n dX7_isSimple_1 rfl ?_
  refine if c_2 : pgOK j then ?_ else e_throwsV qcX7_159 X.obj rfl rfl (T_requirePolygon X rj c_2) rfl rfl rfl rfl dX7_isSimple_2 rfl ⟨rfl, zk (show (k_isSimple S j) = (1, 0) from (if_neg c_2)) rfl, _, _, _, _, _, _, _, _, _, X⟩
  refine e_pureV qcX7_159 X.obj rfl rfl (S_requirePolygon X rj c_2) rfl rfl rfl rfl dX7_isSimple_2 ?_
  have hj : j.toNat < 4 := by omega
  have e9 := (X.pol hj).1
  have e8 := (X.pol hj).2.1
  refine e_pureS qcX7_206 (S_closesSimply (X.pol hj)) rfl rfl rfl rfl dX7_isSimple_5 ?_
  refine e_zret rfl (@bP_01 _ (Classical.propDecidable _)) dX7_isSimple_8 (by decide) (by decide) ?_
  exact ⟨rfl, zk (show (k_isSimple S j) = (0, bC (closes (S j.toNat))) from (if_pos c_2)) rfl, _, _, _, _, _, _, _, _, _, X⟩
set_option maxRecDepth 20000 in
theorem C_polygonArea (X : hsX G P E S b P2 E2 S2 F L1 L2 H1 H2 QL QT qa CA CB o h0 h) {j : Int} (rj : r32 j) : Run G mX7_polygonArea [.ref o, .int (iN j)] none h 1 6 (zK G (rsI [xIAE] (k_polygonArea S j)) P E S b P2 E2 S2 F o h0) := by
  refine run_of rfl plX7 rfl ?_
  refine e_aload_n dX7_polygonArea_0 rfl ?_
  refine e_iload_n dX7_polygonArea_1 rfl ?_
  refine if c_2 : pgOK j then ?_ else e_throwsV qcX7_159 X.obj rfl rfl (T_requirePolygon X rj c_2) rfl rfl rfl rfl dX7_polygonArea_2 rfl ⟨rfl, zk (show (k_polygonArea S j) = (1, 0) from (if_neg c_2)) rfl, _, _, _, _, _, _, _, _, _, X⟩
  refine e_pureV qcX7_159 X.obj rfl rfl (S_requirePolygon X rj c_2) rfl rfl rfl rfl dX7_polygonArea_2 ?_
  have hj : j.toNat < 4 := by omega
  have e9 := (X.pol hj).1
  have e8 := (X.pol hj).2.1
  refine e_pureS qcX7_178 (S_doubledArea (X.pol hj)) rfl rfl rfl rfl dX7_polygonArea_5 ?_
  refine e_iret rfl dX7_polygonArea_8 (by decide) (by decide) ?_
  exact ⟨rfl, zk (show (k_polygonArea S j) = (0, da (S j.toNat)) from (if_pos c_2)) rfl, _, _, _, _, _, _, _, _, _, X⟩
set_option maxRecDepth 20000 in
theorem C_polygonEdge (X : hsX G P E S b P2 E2 S2 F L1 L2 H1 H2 QL QT qa CA CB o h0 h) {j : Int} (rj : r32 j) : Run G mX7_polygonEdge [.ref o, .int (iN j)] none h 1 6 (zK G (rsI [xIAE, xISE] (k_polygonEdge S j)) P E S b P2 E2 S2 F o h0) := by
  letI : Decidable (closes (S j.toNat)) := Classical.propDecidable _
  refine run_of rfl plX7 rfl ?_
  refine e_aload_n dX7_polygonEdge_0 rfl ?_
  refine e_iload_n dX7_polygonEdge_1 rfl ?_
  refine if c_1 : pgOK j then (if c_2 : closes (S j.toNat) then ?_ else e_throwsV qcX7_210 X.obj rfl rfl (T_requireSimple2 X rj c_1 c_2) rfl rfl rfl rfl dX7_polygonEdge_2 rfl ⟨rfl, zk (show (k_polygonEdge S j) = (2, 0) from ((if_pos c_1).trans (cif_f c_2))) rfl, _, _, _, _, _, _, _, _, _, X⟩) else e_throwsV qcX7_210 X.obj rfl rfl (T_requireSimple1 X rj c_1) rfl rfl rfl rfl dX7_polygonEdge_2 rfl ⟨rfl, zk (show (k_polygonEdge S j) = (1, 0) from (if_neg c_1)) rfl, _, _, _, _, _, _, _, _, _, X⟩
  refine e_pureV qcX7_210 X.obj rfl rfl (S_requireSimple X rj c_1 c_2) rfl rfl rfl rfl dX7_polygonEdge_2 ?_
  have hj : j.toNat < 4 := by omega
  have e9 := (X.pol hj).1
  have e8 := (X.pol hj).2.1
  refine e_pureS qcX7_188 (S_stepsRound (X.pol hj)) rfl rfl rfl rfl dX7_polygonEdge_5 ?_
  refine e_iret rfl dX7_polygonEdge_8 (by decide) (by decide) ?_
  exact ⟨rfl, zk (show (k_polygonEdge S j) = (0, srd (S j.toNat)) from ((if_pos c_1).trans (cif_t c_2))) rfl, _, _, _, _, _, _, _, _, _, X⟩
set_option maxRecDepth 20000 in
theorem C_polygonInner (X : hsX G P E S b P2 E2 S2 F L1 L2 H1 H2 QL QT qa CA CB o h0 h) {j : Int} (rj : r32 j) : Run G mX7_polygonInner [.ref o, .int (iN j)] none h 1 6 (zK G (rsI [xIAE, xISE] (k_polygonInner S j)) P E S b P2 E2 S2 F o h0) := by
  letI : Decidable (closes (S j.toNat)) := Classical.propDecidable _
  refine run_of rfl plX7 rfl ?_
  refine e_aload_n dX7_polygonInner_0 rfl ?_
  refine e_iload_n dX7_polygonInner_1 rfl ?_
  refine if c_1 : pgOK j then (if c_2 : closes (S j.toNat) then ?_ else e_throwsV qcX7_210 X.obj rfl rfl (T_requireSimple2 X rj c_1 c_2) rfl rfl rfl rfl dX7_polygonInner_2 rfl ⟨rfl, zk (show (k_polygonInner S j) = (2, 0) from ((if_pos c_1).trans (cif_f c_2))) rfl, _, _, _, _, _, _, _, _, _, X⟩) else e_throwsV qcX7_210 X.obj rfl rfl (T_requireSimple1 X rj c_1) rfl rfl rfl rfl dX7_polygonInner_2 rfl ⟨rfl, zk (show (k_polygonInner S j) = (1, 0) from (if_neg c_1)) rfl, _, _, _, _, _, _, _, _, _, X⟩
  refine e_pureV qcX7_210 X.obj rfl rfl (S_requireSimple X rj c_1 c_2) rfl rfl rfl rfl dX7_polygonInner_2 ?_
  have hj : j.toNat < 4 := by omega
  have e9 := (X.pol hj).1
  have e8 := (X.pol hj).2.1
  refine e_pureS qcX7_191 (S_placesInside (X.pol hj) (by omega)) rfl rfl rfl rfl dX7_polygonInner_5 ?_
  refine e_iret rfl dX7_polygonInner_8 (by decide) (by decide) ?_
  exact ⟨rfl, zk (show (k_polygonInner S j) = (0, pin (S j.toNat)) from ((if_pos c_1).trans (cif_t c_2))) rfl, _, _, _, _, _, _, _, _, _, X⟩
set_option maxRecDepth 20000 in
theorem C_polygonLies (X : hsX G P E S b P2 E2 S2 F L1 L2 H1 H2 QL QT qa CA CB o h0 h) {j : Int} (rj : r32 j) {x : Int} (rx : r32 x) {y : Int} (ry : r32 y) : Run G mX7_polygonLies [.ref o, .int (iN j), .int (iN x), .int (iN y)] none h 1 6 (zK G (rsI [xIAE, xISE] (k_polygonLies S j x y)) P E S b P2 E2 S2 F o h0) := by
  have rx1 := rx.1
  have rx2 := rx.2
  have ry1 := ry.1
  have ry2 := ry.2
  letI : Decidable (closes (S j.toNat)) := Classical.propDecidable _
  refine run_of rfl plX7 rfl ?_
  refine e_aload_n dX7_polygonLies_0 rfl ?_
  refine e_iload_n dX7_polygonLies_1 rfl ?_
  refine if c_1 : pgOK j then (if c_2 : closes (S j.toNat) then ?_ else e_throwsV qcX7_210 X.obj rfl rfl (T_requireSimple2 X rj c_1 c_2) rfl rfl rfl rfl dX7_polygonLies_2 rfl ⟨rfl, zk (show (k_polygonLies S j x y) = (2, 0) from ((if_pos c_1).trans (cif_f c_2))) rfl, _, _, _, _, _, _, _, _, _, X⟩) else e_throwsV qcX7_210 X.obj rfl rfl (T_requireSimple1 X rj c_1) rfl rfl rfl rfl dX7_polygonLies_2 rfl ⟨rfl, zk (show (k_polygonLies S j x y) = (1, 0) from (if_neg c_1)) rfl, _, _, _, _, _, _, _, _, _, X⟩
  refine e_pureV qcX7_210 X.obj rfl rfl (S_requireSimple X rj c_1 c_2) rfl rfl rfl rfl dX7_polygonLies_2 ?_
  have hj : j.toNat < 4 := by omega
  have e9 := (X.pol hj).1
  have e8 := (X.pol hj).2.1
  refine e_iconst dX7_polygonLies_5 ?_
  refine e_iload_n dX7_polygonLies_6 rfl ?_
  refine e_i2l ⟨by omega, by omega⟩ dX7_polygonLies_7 ?_
  refine e_iload_n dX7_polygonLies_8 rfl ?_
  refine e_i2l ⟨by omega, by omega⟩ dX7_polygonLies_9 ?_
  refine e_pureS qcX7_194 (S_whereIs (s := 1) (X.pol hj) ⟨by omega, by omega⟩ ⟨by omega, by omega⟩ ⟨by omega, by omega⟩) rfl rfl rfl rfl dX7_polygonLies_10 ?_
  refine e_iret rfl dX7_polygonLies_13 (by decide) (by decide) ?_
  exact ⟨rfl, zk (show (k_polygonLies S j x y) = (0, wI (S j.toNat) 1 x y) from ((if_pos c_1).trans (cif_t c_2))) rfl, _, _, _, _, _, _, _, _, _, X⟩
set_option maxRecDepth 20000 in
theorem hd_loop (X : hsX G P E S b P2 E2 S2 F L1 L2 H1 H2 QL QT qa CA CB o h0 h) {j a : Int} (ra : r32 a) (hj : j.toNat < 4) : ∀ (n i : Nat), i + n = P.length → Ev (g_B G mX7_holds 1 6 (zK G (rsI [xIAE, xISE] (0, (hdN P (S j.toNat) a P.length : Int))) P E S b P2 E2 S2 F o h0)) 0 0 none h 22 [(5, .int (iN (i : Nat))), (4, .int (iN (hdN P (S j.toNat) a (i) : Nat))), (0, .ref o), (2, .int (iN a)), (3, .ref (o + 1 + 14 + 4 * j.toNat))] [] := by
  have h9 := X.yd.pts.1
  have ra1 := ra.1
  have ra2 := ra.2
  intro n
  induction n with
  | zero =>
    intro i hin
    have e9 : i = P.length := by omega
    rw [e9]
    refine e_iload dX7_holds_22 rfl ?_
    refine e_aload_n dX7_holds_24 rfl ?_
    refine e_getf fX7_12 X.obj rfl dX7_holds_25 ?_
    refine e_getfN fX7_65 X.yd.obj rfl dX7_holds_28 ?_
    refine e_pureV qcX7_68 X.yd.pts.obj rfl rfl (S_size X.yd.pts) rfl rfl rfl rfl dX7_holds_31 ?_
    refine e_icmp_ge (tgt := 96) ⟨by omega, by omega⟩ ⟨by omega, by omega⟩ dX7_holds_34 rfl (fun c_34 => ?_) (fun c_34 => absurd (by omega) c_34)
    refine e_iload dX7_holds_96 rfl ?_
    refine e_iret rfl dX7_holds_98 (by decide) (by decide) ?_
    exact ⟨rfl, rfl, _, _, _, _, _, _, _, _, _, X⟩
  | succ n ih =>
    intro i hin
    have hi : i < P.length := by omega
    have hb := X.yd.pts.2.2.1.at hi
    have hw := wI_b (S j.toNat) 1 (pX P i) (pY P i)
    refine e_iload dX7_holds_22 rfl ?_
    refine e_aload_n dX7_holds_24 rfl ?_
    refine e_getf fX7_12 X.obj rfl dX7_holds_25 ?_
    refine e_getfN fX7_65 X.yd.obj rfl dX7_holds_28 ?_
    refine e_pureV qcX7_68 X.yd.pts.obj rfl rfl (S_size X.yd.pts) rfl rfl rfl rfl dX7_holds_31 ?_
    refine e_icmp_ge (tgt := 96) ⟨by omega, by omega⟩ ⟨by omega, by omega⟩ dX7_holds_34 rfl (fun c_34 => absurd c_34 (by omega)) (fun c_34 => ?_)
    refine e_aload_n dX7_holds_37 rfl ?_
    refine e_getf fX7_12 X.obj rfl dX7_holds_38 ?_
    refine e_getfN fX7_65 X.yd.obj rfl dX7_holds_41 ?_
    refine e_iload dX7_holds_44 rfl ?_
    refine e_pureV qcX7_86 X.yd.pts.obj rfl rfl (S_markAt X.yd.pts hi) rfl rfl rfl rfl dX7_holds_46 ?_
    refine e_iload_n dX7_holds_49 rfl ?_
    refine e_icmp_ne (tgt := 90) ⟨by omega, by omega⟩ ⟨by omega, by omega⟩ dX7_holds_50 rfl (fun c_50 => ?_) (fun c_50 => ?_)
    · have e6 : hdN P (S j.toNat) a (i + 1) = hdN P (S j.toNat) a i := if_neg (fun w => c_50 w.1)
      refine e_iinc dX7_holds_90 rfl ?_
      refine e_goto (tgt := 22) dX7_holds_93 rfl ?_
      exact e_loc [(5, .int (iN (i + 1 : Nat))), (4, .int (iN (hdN P (S j.toNat) a (i + 1) : Nat))), (0, .ref o), (2, .int (iN a)), (3, .ref (o + 1 + 14 + 4 * j.toNat))] ⟨rfl, by rw [e6]; rfl, rfl, rfl, rfl, trivial⟩ (ih (i + 1) (by omega))
    · refine e_aload_n dX7_holds_53 rfl ?_
      refine e_iconst dX7_holds_54 ?_
      refine e_aload_n dX7_holds_55 rfl ?_
      refine e_getf fX7_12 X.obj rfl dX7_holds_56 ?_
      refine e_getfN fX7_65 X.yd.obj rfl dX7_holds_59 ?_
      refine e_iload dX7_holds_62 rfl ?_
      refine e_pureV qcX7_96 X.yd.pts.obj rfl rfl (S_xAt X.yd.pts hi) rfl rfl rfl rfl dX7_holds_64 ?_
      refine e_i2l ⟨by omega, by omega⟩ dX7_holds_67 ?_
      refine e_aload_n dX7_holds_68 rfl ?_
      refine e_getf fX7_12 X.obj rfl dX7_holds_69 ?_
      refine e_getfN fX7_65 X.yd.obj rfl dX7_holds_72 ?_
      refine e_iload dX7_holds_75 rfl ?_
      refine e_pureV qcX7_99 X.yd.pts.obj rfl rfl (S_yAt X.yd.pts hi) rfl rfl rfl rfl dX7_holds_77 ?_
      refine e_i2l ⟨by omega, by omega⟩ dX7_holds_80 ?_
      refine e_pureS qcX7_194 (S_whereIs (s := 1) (X.pol hj) ⟨by omega, by omega⟩ ⟨by omega, by omega⟩ ⟨by omega, by omega⟩) rfl rfl rfl rfl dX7_holds_81 ?_
      refine e_if_lt (tgt := 90) ⟨by omega, by omega⟩ dX7_holds_84 rfl (fun c_84 => ?_) (fun c_84 => ?_)
      · have e6 : hdN P (S j.toNat) a (i + 1) = hdN P (S j.toNat) a i := if_neg (fun w => absurd w.2 (by omega))
        refine e_iinc dX7_holds_90 rfl ?_
        refine e_goto (tgt := 22) dX7_holds_93 rfl ?_
        exact e_loc [(5, .int (iN (i + 1 : Nat))), (4, .int (iN (hdN P (S j.toNat) a (i + 1) : Nat))), (0, .ref o), (2, .int (iN a)), (3, .ref (o + 1 + 14 + 4 * j.toNat))] ⟨rfl, by rw [e6]; rfl, rfl, rfl, rfl, trivial⟩ (ih (i + 1) (by omega))
      · have e6 : hdN P (S j.toNat) a (i + 1) = hdN P (S j.toNat) a i + 1 := if_pos ⟨Decidable.of_not_not c_50, by omega⟩
        refine e_iinc dX7_holds_87 rfl ?_
        refine e_iinc dX7_holds_90 rfl ?_
        refine e_goto (tgt := 22) dX7_holds_93 rfl ?_
        exact e_loc [(5, .int (iN (i + 1 : Nat))), (4, .int (iN (hdN P (S j.toNat) a (i + 1) : Nat))), (0, .ref o), (2, .int (iN a)), (3, .ref (o + 1 + 14 + 4 * j.toNat))] ⟨rfl, by rw [e6]; rfl, rfl, rfl, rfl, trivial⟩ (ih (i + 1) (by omega))
set_option maxRecDepth 20000 in
theorem C_holds (X : hsX G P E S b P2 E2 S2 F L1 L2 H1 H2 QL QT qa CA CB o h0 h) {j : Int} (rj : r32 j) {a : Int} (ra : r32 a) : Run G mX7_holds [.ref o, .int (iN j), .int (iN a)] none h 1 6 (zK G (rsI [xIAE, xISE] (k_holds P S j a)) P E S b P2 E2 S2 F o h0) := by
  letI : Decidable (closes (S j.toNat)) := Classical.propDecidable _
  refine run_of rfl plX7 rfl ?_
  refine e_aload_n dX7_holds_0 rfl ?_
  refine e_iload_n dX7_holds_1 rfl ?_
  refine if c_2 : pgOK j then ?_ else e_throwsV qcX7_159 X.obj rfl rfl (T_requirePolygon X rj c_2) rfl rfl rfl rfl dX7_holds_2 rfl ⟨rfl, zk (show (k_holds P S j a) = (1, 0) from (if_neg c_2)) rfl, _, _, _, _, _, _, _, _, _, X⟩
  refine e_pureV qcX7_159 X.obj rfl rfl (S_requirePolygon X rj c_2) rfl rfl rfl rfl dX7_holds_2 ?_
  have hj : j.toNat < 4 := by omega
  have e9 := (X.pol hj).1
  have e8 := (X.pol hj).2.1
  refine e_astore_n dX7_holds_5 rfl ?_
  refine e_iload_n dX7_holds_6 rfl ?_
  refine if c_7 : hpOK a then ?_ else e_throwsS qcX7_58 (T_requireHeap ra c_7) rfl rfl rfl rfl dX7_holds_7 rfl ⟨rfl, zk (show (k_holds P S j a) = (1, 0) from ((if_pos c_2).trans (if_neg c_7))) rfl, _, _, _, _, _, _, _, _, _, X⟩
  refine e_doesS qcX7_58 (S_requireHeap ra c_7) rfl rfl rfl rfl dX7_holds_7 ?_
  intro v h9 q9
  obtain ⟨rfl, rfl⟩ := q9
  refine e_aload_n dX7_holds_10 rfl ?_
  refine e_iload_n dX7_holds_11 rfl ?_
  refine if c_12 : closes (S j.toNat) then ?_ else e_throwsV qcX7_210 X.obj rfl rfl (T_requireSimple2 X rj c_2 c_12) rfl rfl rfl rfl dX7_holds_12 rfl ⟨rfl, zk (show (k_holds P S j a) = (2, 0) from (((if_pos c_2).trans (if_pos c_7)).trans (cif_f c_12))) rfl, _, _, _, _, _, _, _, _, _, X⟩
  refine e_pureV qcX7_210 X.obj rfl rfl (S_requireSimple X rj c_2 c_12) rfl rfl rfl rfl dX7_holds_12 ?_
  refine e_pop dX7_holds_15 rfl ?_
  refine e_iconst dX7_holds_16 ?_
  refine e_istore dX7_holds_17 rfl ?_
  refine e_iconst dX7_holds_19 ?_
  refine e_istore dX7_holds_20 rfl ?_
  rw [show (k_holds P S j a) = (0, (hdN P (S j.toNat) a P.length : Int)) from ((if_pos c_2).trans (if_pos c_7)).trans (cif_t c_12)]
  exact e_loc [(5, .int (iN (0 : Nat))), (4, .int (iN (hdN P (S j.toNat) a (0) : Nat))), (0, .ref o), (2, .int (iN a)), (3, .ref (o + 1 + 14 + 4 * j.toNat))] ⟨rfl, rfl, rfl, rfl, rfl, trivial⟩ (hd_loop X ra hj _ 0 (Nat.zero_add _))
set_option maxRecDepth 20000 in
theorem C_triangles (X : hsX G P E S b P2 E2 S2 F L1 L2 H1 H2 QL QT qa CA CB o h0 h) {j : Int} (rj : r32 j) : Run G mX7_triangles [.ref o, .int (iN j)] none h 1 6 (zK G (rsI [xIAE, xISE] (k_triangles S j)) P E S b P2 E2 S2 F o h0) := by
  letI : Decidable (closes (S j.toNat)) := Classical.propDecidable _
  refine run_of rfl plX7 rfl ?_
  refine e_aload_n dX7_triangles_0 rfl ?_
  refine e_getf fX7_47 X.obj rfl dX7_triangles_1 ?_
  refine e_aload_n dX7_triangles_4 rfl ?_
  refine e_iload_n dX7_triangles_5 rfl ?_
  refine if c_1 : pgOK j then (if c_2 : closes (S j.toNat) then ?_ else e_throwsV qcX7_210 X.obj rfl rfl (T_requireSimple2 X rj c_1 c_2) rfl rfl rfl rfl dX7_triangles_6 rfl ⟨rfl, zk (show (k_triangles S j) = (2, 0) from ((if_pos c_1).trans (cif_f c_2))) rfl, _, _, _, _, _, _, _, _, _, X⟩) else e_throwsV qcX7_210 X.obj rfl rfl (T_requireSimple1 X rj c_1) rfl rfl rfl rfl dX7_triangles_6 rfl ⟨rfl, zk (show (k_triangles S j) = (1, 0) from (if_neg c_1)) rfl, _, _, _, _, _, _, _, _, _, X⟩
  refine e_pureV qcX7_210 X.obj rfl rfl (S_requireSimple X rj c_1 c_2) rfl rfl rfl rfl dX7_triangles_6 ?_
  have hj : j.toNat < 4 := by omega
  have e9 := (X.pol hj).1
  have e8 := (X.pol hj).2.1
  refine e_doesV qcX7_213 X.pt.obj rfl rfl (S_part X.pt (X.pol hj) (by omega) e9) rfl rfl rfl rfl dX7_triangles_9 ?_
  intro v h9 q9
  obtain ⟨rfl, g9, f9⟩ := q9
  replace X := X.wQ g9 f9
  clear g9 f9
  refine e_aload_n dX7_triangles_12 rfl ?_
  refine e_getf fX7_47 X.obj rfl dX7_triangles_13 ?_
  refine e_pureV qcX7_217 X.pt.obj rfl rfl (S_made X.pt) rfl rfl rfl rfl dX7_triangles_16 ?_
  refine e_iret rfl dX7_triangles_19 (by decide) (by decide) ?_
  exact ⟨rfl, zk (show (k_triangles S j) = (0, ((parD (S j.toNat)).2.1.length : Int)) from ((if_pos c_1).trans (cif_t c_2))) rfl, _, _, _, _, _, _, _, _, _, X⟩
set_option maxRecDepth 20000 in
theorem C_triangleAt (X : hsX G P E S b P2 E2 S2 F L1 L2 H1 H2 QL QT qa CA CB o h0 h) {j : Int} (rj : r32 j) {t : Int} (rt : r32 t) : Run G mX7_triangleAt [.ref o, .int (iN j), .int (iN t)] none h 1 6 (zK G (rsI [xIAE, xISE, xIOB] (k_triangleAt S j t)) P E S b P2 E2 S2 F o h0) := by
  have rt1 := rt.1
  have rt2 := rt.2
  letI : Decidable (closes (S j.toNat)) := Classical.propDecidable _
  refine run_of rfl plX7 rfl ?_
  refine e_aload_n dX7_triangleAt_0 rfl ?_
  refine e_getf fX7_47 X.obj rfl dX7_triangleAt_1 ?_
  refine e_aload_n dX7_triangleAt_4 rfl ?_
  refine e_iload_n dX7_triangleAt_5 rfl ?_
  refine if c_1 : pgOK j then (if c_2 : closes (S j.toNat) then ?_ else e_throwsV qcX7_210 X.obj rfl rfl (T_requireSimple2 X rj c_1 c_2) rfl rfl rfl rfl dX7_triangleAt_6 rfl ⟨rfl, zk (show (k_triangleAt S j t) = (2, 0) from ((if_pos c_1).trans (cif_f c_2))) rfl, _, _, _, _, _, _, _, _, _, X⟩) else e_throwsV qcX7_210 X.obj rfl rfl (T_requireSimple1 X rj c_1) rfl rfl rfl rfl dX7_triangleAt_6 rfl ⟨rfl, zk (show (k_triangleAt S j t) = (1, 0) from (if_neg c_1)) rfl, _, _, _, _, _, _, _, _, _, X⟩
  refine e_pureV qcX7_210 X.obj rfl rfl (S_requireSimple X rj c_1 c_2) rfl rfl rfl rfl dX7_triangleAt_6 ?_
  have hj : j.toNat < 4 := by omega
  have e9 := (X.pol hj).1
  have e8 := (X.pol hj).2.1
  refine e_doesV qcX7_213 X.pt.obj rfl rfl (S_part X.pt (X.pol hj) (by omega) e9) rfl rfl rfl rfl dX7_triangleAt_9 ?_
  intro v h9 q9
  obtain ⟨rfl, g9, f9⟩ := q9
  replace X := X.wQ g9 f9
  clear g9 f9
  have e7 := parF_len (w := sg (da (S j.toNat))) 16 (S j.toNat) [] 0
  rw [List.length_nil] at e7
  refine e_iload_n dX7_triangleAt_12 rfl ?_
  refine e_if_lt (tgt := 27) ⟨by omega, by omega⟩ dX7_triangleAt_13 rfl (fun c_13 => ?_) (fun c_13 => ?_)
  · refine e_throw (text := "there is no such triangle") rfl rfl t_110_114 s_220 dX7_triangleAt_27 dX7_triangleAt_30 dX7_triangleAt_31 dX7_triangleAt_33 dX7_triangleAt_36 rfl rfl (by decide) (by decide) ?_
    first | exact ⟨rfl, zk (show (k_triangleAt S j t) = (3, 0) from (((if_pos c_1).trans (cif_t c_2)).trans (if_neg (fun w => absurd w.2 c_24)))) rfl, _, _, _, _, _, _, _, _, _, X⟩ | exact ⟨rfl, zk (show (k_triangleAt S j t) = (3, 0) from (((if_pos c_1).trans (cif_t c_2)).trans (if_neg (fun w => absurd w.1 (Int.not_le.mpr c_13))))) rfl, _, _, _, _, _, _, _, _, _, X⟩
  · refine e_iload_n dX7_triangleAt_16 rfl ?_
    refine e_aload_n dX7_triangleAt_17 rfl ?_
    refine e_getf fX7_47 X.obj rfl dX7_triangleAt_18 ?_
    refine e_pureV qcX7_217 X.pt.obj rfl rfl (S_made X.pt) rfl rfl rfl rfl dX7_triangleAt_21 ?_
    refine e_icmp_lt (tgt := 37) ⟨by omega, by omega⟩ ⟨by omega, by omega⟩ dX7_triangleAt_24 rfl (fun c_24 => ?_) (fun c_24 => ?_)
    · have c3 : 0 ≤ t ∧ t < (parD (S j.toNat)).2.1.length := ⟨by omega, c_24⟩
      obtain ⟨m, rfl⟩ : ∃ m : Nat, t = (m : Int) := ⟨t.toNat, by omega⟩
      refine e_aload_n dX7_triangleAt_37 rfl ?_
      refine e_getf fX7_47 X.obj rfl dX7_triangleAt_38 ?_
      refine e_iload_n dX7_triangleAt_41 rfl ?_
      refine e_pureV qcX7_222 X.pt.obj rfl rfl (S_tellTriangle X.pt (show m < _ by have := c3.2; omega) (by omega)) rfl rfl rfl rfl dX7_triangleAt_42 ?_
      refine e_iret rfl dX7_triangleAt_45 (by decide) (by decide) ?_
      exact ⟨rfl, zk (show (k_triangleAt S j (m : Int)) = (0, (parD (S j.toNat)).2.1.getD m 0) from (((if_pos c_1).trans (cif_t c_2)).trans (if_pos c3))) rfl, _, _, _, _, _, _, _, _, _, X⟩
    · refine e_throw (text := "there is no such triangle") rfl rfl t_110_114 s_220 dX7_triangleAt_27 dX7_triangleAt_30 dX7_triangleAt_31 dX7_triangleAt_33 dX7_triangleAt_36 rfl rfl (by decide) (by decide) ?_
      first | exact ⟨rfl, zk (show (k_triangleAt S j t) = (3, 0) from (((if_pos c_1).trans (cif_t c_2)).trans (if_neg (fun w => absurd w.2 c_24)))) rfl, _, _, _, _, _, _, _, _, _, X⟩ | exact ⟨rfl, zk (show (k_triangleAt S j t) = (3, 0) from (((if_pos c_1).trans (cif_t c_2)).trans (if_neg (fun w => absurd w.1 (Int.not_le.mpr c_13))))) rfl, _, _, _, _, _, _, _, _, _, X⟩
set_option maxRecDepth 20000 in
theorem C_sees (X : hsX G P E S b P2 E2 S2 F L1 L2 H1 H2 QL QT qa CA CB o h0 h) {j : Int} (rj : r32 j) {k : Int} (rk : r32 k) {l : Int} (rl : r32 l) : Run G mX7_sees [.ref o, .int (iN j), .int (iN k), .int (iN l)] none h 1 6 (zK G (rsI [xIAE, xIOB, xISE] (k_sees S j k l)) P E S b P2 E2 S2 F o h0) := by
  letI : Decidable (closes (S j.toNat)) := Classical.propDecidable _
  refine run_of rfl plX7 rfl ?_
  refine e_aload_n dX7_sees_0 rfl ?_
  refine e_iload_n dX7_sees_1 rfl ?_
  refine if c_2 : pgOK j then ?_ else e_throwsV qcX7_159 X.obj rfl rfl (T_requirePolygon X rj c_2) rfl rfl rfl rfl dX7_sees_2 rfl ⟨rfl, zk (show (k_sees S j k l) = (1, 0) from (if_neg c_2)) rfl, _, _, _, _, _, _, _, _, _, X⟩
  refine e_pureV qcX7_159 X.obj rfl rfl (S_requirePolygon X rj c_2) rfl rfl rfl rfl dX7_sees_2 ?_
  have hj : j.toNat < 4 := by omega
  have e9 := (X.pol hj).1
  have e8 := (X.pol hj).2.1
  refine e_astore dX7_sees_5 rfl ?_
  refine e_aload dX7_sees_7 rfl ?_
  refine e_iload_n dX7_sees_9 rfl ?_
  refine if c_10 : crOK (S j.toNat) k then ?_ else e_throwsS qcX7_174 (T_requireCorner (X.pol hj) rk c_10) rfl rfl rfl rfl dX7_sees_10 rfl ⟨rfl, zk (show (k_sees S j k l) = (2, 0) from ((if_pos c_2).trans (if_neg c_10))) rfl, _, _, _, _, _, _, _, _, _, X⟩
  refine e_doesS qcX7_174 (S_requireCorner (X.pol hj) rk c_10) rfl rfl rfl rfl dX7_sees_10 ?_
  intro v h9 q9
  obtain ⟨rfl, rfl⟩ := q9
  refine e_aload dX7_sees_13 rfl ?_
  refine e_iload_n dX7_sees_15 rfl ?_
  refine if c_16 : crOK (S j.toNat) l then ?_ else e_throwsS qcX7_174 (T_requireCorner (X.pol hj) rl c_16) rfl rfl rfl rfl dX7_sees_16 rfl ⟨rfl, zk (show (k_sees S j k l) = (2, 0) from (((if_pos c_2).trans (if_pos c_10)).trans (if_neg c_16))) rfl, _, _, _, _, _, _, _, _, _, X⟩
  refine e_doesS qcX7_174 (S_requireCorner (X.pol hj) rl c_16) rfl rfl rfl rfl dX7_sees_16 ?_
  intro v h9 q9
  obtain ⟨rfl, rfl⟩ := q9
  refine e_aload_n dX7_sees_19 rfl ?_
  refine e_iload_n dX7_sees_20 rfl ?_
  refine if c_21 : closes (S j.toNat) then ?_ else e_throwsV qcX7_210 X.obj rfl rfl (T_requireSimple2 X rj c_2 c_21) rfl rfl rfl rfl dX7_sees_21 rfl ⟨rfl, zk (show (k_sees S j k l) = (3, 0) from ((((if_pos c_2).trans (if_pos c_10)).trans (if_pos c_16)).trans (cif_f c_21))) rfl, _, _, _, _, _, _, _, _, _, X⟩
  refine e_pureV qcX7_210 X.obj rfl rfl (S_requireSimple X rj c_2 c_21) rfl rfl rfl rfl dX7_sees_21 ?_
  obtain ⟨m, rfl⟩ : ∃ m : Nat, k = (m : Int) := ⟨k.toNat, by have := c_10.1; omega⟩
  have hm : m < (S j.toNat).length := by have := c_10.2; omega
  obtain ⟨m2, rfl⟩ : ∃ m2 : Nat, l = (m2 : Int) := ⟨l.toNat, by have := c_16.1; omega⟩
  have hm2 : m2 < (S j.toNat).length := by have := c_16.2; omega
  refine e_pop dX7_sees_24 rfl ?_
  refine e_aload dX7_sees_25 rfl ?_
  refine e_iload_n dX7_sees_27 rfl ?_
  refine e_iload_n dX7_sees_28 rfl ?_
  refine e_pureS qcX7_225 (S_isOpenBetween (X.pol hj) hm hm2) rfl rfl rfl rfl dX7_sees_29 ?_
  refine e_zret rfl (@bP_01 _ (Classical.propDecidable _)) dX7_sees_32 (by decide) (by decide) ?_
  exact ⟨rfl, zk (show (k_sees S j (m : Int) (m2 : Int)) = (0, bC (opn (S j.toNat) m m2)) from ((((if_pos c_2).trans (if_pos c_10)).trans (if_pos c_16)).trans (cif_t c_21))) rfl, _, _, _, _, _, _, _, _, _, X⟩
set_option maxRecDepth 20000 in
theorem vw_loop (X : hsX G P E S b P2 E2 S2 F L1 L2 H1 H2 QL QT qa CA CB o h0 h) {j : Int} {m : Nat} (hj : j.toNat < 4) (hm : m < (S j.toNat).length) : ∀ (n i : Nat), i + n = (S j.toNat).length → Ev (g_B G mX7_view 1 6 (zK G (rsI [xIAE, xIOB, xISE] (0, (vwN (S j.toNat) m (S j.toNat).length : Int))) P E S b P2 E2 S2 F o h0)) 0 0 none h 23 [(5, .int (iN (i : Nat))), (4, .int (iN (vwN (S j.toNat) m (i) : Nat))), (0, .ref o), (2, .int (iN m)), (3, .ref (o + 1 + 14 + 4 * j.toNat))] [] := by
  have h9 := (X.pol hj).1
  intro n
  induction n with
  | zero =>
    intro i hin
    have e9 : i = (S j.toNat).length := by omega
    rw [e9]
    refine e_iload dX7_view_23 rfl ?_
    refine e_aload_n dX7_view_25 rfl ?_
    refine e_pureV qcX7_68 (X.pol hj).obj rfl rfl (S_size (X.pol hj)) rfl rfl rfl rfl dX7_view_26 ?_
    refine e_icmp_ge (tgt := 57) ⟨by omega, by omega⟩ ⟨by omega, by omega⟩ dX7_view_29 rfl (fun c_29 => ?_) (fun c_29 => absurd (by omega) c_29)
    refine e_iload dX7_view_57 rfl ?_
    refine e_iret rfl dX7_view_59 (by decide) (by decide) ?_
    exact ⟨rfl, rfl, _, _, _, _, _, _, _, _, _, X⟩
  | succ n ih =>
    intro i hin
    have hi : i < (S j.toNat).length := by omega
    letI : Decidable (opn (S j.toNat) m i) := Classical.propDecidable _
    refine e_iload dX7_view_23 rfl ?_
    refine e_aload_n dX7_view_25 rfl ?_
    refine e_pureV qcX7_68 (X.pol hj).obj rfl rfl (S_size (X.pol hj)) rfl rfl rfl rfl dX7_view_26 ?_
    refine e_icmp_ge (tgt := 57) ⟨by omega, by omega⟩ ⟨by omega, by omega⟩ dX7_view_29 rfl (fun c_29 => absurd c_29 (by omega)) (fun c_29 => ?_)
    refine e_iload dX7_view_32 rfl ?_
    refine e_iload_n dX7_view_34 rfl ?_
    refine e_icmp_eq (tgt := 51) ⟨by omega, by omega⟩ ⟨by omega, by omega⟩ dX7_view_35 rfl (fun c_35 => ?_) (fun c_35 => ?_)
    · have e6 : vwN (S j.toNat) m (i + 1) = vwN (S j.toNat) m i := cif_f (fun w => absurd w.1 (by omega))
      refine e_iinc dX7_view_51 rfl ?_
      refine e_goto (tgt := 23) dX7_view_54 rfl ?_
      exact e_loc [(5, .int (iN (i + 1 : Nat))), (4, .int (iN (vwN (S j.toNat) m (i + 1) : Nat))), (0, .ref o), (2, .int (iN m)), (3, .ref (o + 1 + 14 + 4 * j.toNat))] ⟨rfl, by rw [e6]; rfl, rfl, rfl, rfl, trivial⟩ (ih (i + 1) (by omega))
    · refine e_aload_n dX7_view_38 rfl ?_
      refine e_iload_n dX7_view_39 rfl ?_
      refine e_iload dX7_view_40 rfl ?_
      refine e_pureS qcX7_225 (S_isOpenBetween (X.pol hj) hm hi) rfl rfl rfl rfl dX7_view_42 ?_
      refine e_ifP_eq (tgt := 51) dX7_view_45 rfl (fun c_45 => ?_) (fun c_45 => ?_)
      · have e6 : vwN (S j.toNat) m (i + 1) = vwN (S j.toNat) m i := cif_f (fun w => c_45 w.2)
        refine e_iinc dX7_view_51 rfl ?_
        refine e_goto (tgt := 23) dX7_view_54 rfl ?_
        exact e_loc [(5, .int (iN (i + 1 : Nat))), (4, .int (iN (vwN (S j.toNat) m (i + 1) : Nat))), (0, .ref o), (2, .int (iN m)), (3, .ref (o + 1 + 14 + 4 * j.toNat))] ⟨rfl, by rw [e6]; rfl, rfl, rfl, rfl, trivial⟩ (ih (i + 1) (by omega))
      · have e6 : vwN (S j.toNat) m (i + 1) = vwN (S j.toNat) m i + 1 := cif_t ⟨by omega, c_45⟩
        refine e_iinc dX7_view_48 rfl ?_
        refine e_iinc dX7_view_51 rfl ?_
        refine e_goto (tgt := 23) dX7_view_54 rfl ?_
        exact e_loc [(5, .int (iN (i + 1 : Nat))), (4, .int (iN (vwN (S j.toNat) m (i + 1) : Nat))), (0, .ref o), (2, .int (iN m)), (3, .ref (o + 1 + 14 + 4 * j.toNat))] ⟨rfl, by rw [e6]; rfl, rfl, rfl, rfl, trivial⟩ (ih (i + 1) (by omega))
set_option maxRecDepth 20000 in
theorem C_view (X : hsX G P E S b P2 E2 S2 F L1 L2 H1 H2 QL QT qa CA CB o h0 h) {j : Int} (rj : r32 j) {k : Int} (rk : r32 k) : Run G mX7_view [.ref o, .int (iN j), .int (iN k)] none h 1 6 (zK G (rsI [xIAE, xIOB, xISE] (k_view S j k)) P E S b P2 E2 S2 F o h0) := by
  letI : Decidable (closes (S j.toNat)) := Classical.propDecidable _
  refine run_of rfl plX7 rfl ?_
  refine e_aload_n dX7_view_0 rfl ?_
  refine e_iload_n dX7_view_1 rfl ?_
  refine if c_2 : pgOK j then ?_ else e_throwsV qcX7_159 X.obj rfl rfl (T_requirePolygon X rj c_2) rfl rfl rfl rfl dX7_view_2 rfl ⟨rfl, zk (show (k_view S j k) = (1, 0) from (if_neg c_2)) rfl, _, _, _, _, _, _, _, _, _, X⟩
  refine e_pureV qcX7_159 X.obj rfl rfl (S_requirePolygon X rj c_2) rfl rfl rfl rfl dX7_view_2 ?_
  have hj : j.toNat < 4 := by omega
  have e9 := (X.pol hj).1
  have e8 := (X.pol hj).2.1
  refine e_astore_n dX7_view_5 rfl ?_
  refine e_aload_n dX7_view_6 rfl ?_
  refine e_iload_n dX7_view_7 rfl ?_
  refine if c_8 : crOK (S j.toNat) k then ?_ else e_throwsS qcX7_174 (T_requireCorner (X.pol hj) rk c_8) rfl rfl rfl rfl dX7_view_8 rfl ⟨rfl, zk (show (k_view S j k) = (2, 0) from ((if_pos c_2).trans (if_neg c_8))) rfl, _, _, _, _, _, _, _, _, _, X⟩
  refine e_doesS qcX7_174 (S_requireCorner (X.pol hj) rk c_8) rfl rfl rfl rfl dX7_view_8 ?_
  intro v h9 q9
  obtain ⟨rfl, rfl⟩ := q9
  refine e_aload_n dX7_view_11 rfl ?_
  refine e_iload_n dX7_view_12 rfl ?_
  refine if c_13 : closes (S j.toNat) then ?_ else e_throwsV qcX7_210 X.obj rfl rfl (T_requireSimple2 X rj c_2 c_13) rfl rfl rfl rfl dX7_view_13 rfl ⟨rfl, zk (show (k_view S j k) = (3, 0) from (((if_pos c_2).trans (if_pos c_8)).trans (cif_f c_13))) rfl, _, _, _, _, _, _, _, _, _, X⟩
  refine e_pureV qcX7_210 X.obj rfl rfl (S_requireSimple X rj c_2 c_13) rfl rfl rfl rfl dX7_view_13 ?_
  obtain ⟨m, rfl⟩ : ∃ m : Nat, k = (m : Int) := ⟨k.toNat, by have := c_8.1; omega⟩
  have hm : m < (S j.toNat).length := by have := c_8.2; omega
  refine e_pop dX7_view_16 rfl ?_
  refine e_iconst dX7_view_17 ?_
  refine e_istore dX7_view_18 rfl ?_
  refine e_iconst dX7_view_20 ?_
  refine e_istore dX7_view_21 rfl ?_
  rw [show (k_view S j (m : Int)) = (0, (vwN (S j.toNat) m (S j.toNat).length : Int)) from ((if_pos c_2).trans (if_pos c_8)).trans (cif_t c_13)]
  exact e_loc [(5, .int (iN (0 : Nat))), (4, .int (iN (vwN (S j.toNat) m (0) : Nat))), (0, .ref o), (2, .int (iN m)), (3, .ref (o + 1 + 14 + 4 * j.toNat))] ⟨rfl, rfl, rfl, rfl, rfl, trivial⟩ (vw_loop X hj hm _ 0 (Nat.zero_add _))
end PPUB3
