/-! The law: its points come -/
theorem app_at {P : PL} {e : Int × Int × Int} (i : Nat) : (P ++ [e]).getD i d3 = if i = P.length then e else P.getD i d3 := by
  by_cases c : i = P.length
  · rw [if_pos c, c, List.getD_eq_getElem?_getD, List.getElem?_append_right (Nat.le_refl _), Nat.sub_self]
    rfl
  · rw [if_neg c, List.getD_eq_getElem?_getD, List.getD_eq_getElem?_getD]
    by_cases c2 : i < P.length
    · rw [List.getElem?_append_left c2]
    · rw [List.getElem?_append_right (by omega), List.getElem?_eq_none (by omega : P.length ≤ i), List.getElem?_eq_none (by rw [List.length_singleton]; omega)]
theorem app_M {P : PL} {x y m : Int} : uI (pM P) P.length m = pM (P ++ [(x, y, m)]) := funext fun i => by
  unfold uI pM
  rw [app_at]
  by_cases c : i = P.length
  · rw [if_pos c, if_pos c]
  · rw [if_neg c, if_neg c]
theorem app_X {P : PL} {x y m : Int} : uI (pX P) P.length x = pX (P ++ [(x, y, m)]) := funext fun i => by
  unfold uI pX
  rw [app_at]
  by_cases c : i = P.length
  · rw [if_pos c, if_pos c]
  · rw [if_neg c, if_neg c]
theorem app_Y {P : PL} {x y m : Int} : uI (pY P) P.length y = pY (P ++ [(x, y, m)]) := funext fun i => by
  unfold uI pY
  rw [app_at]
  by_cases c : i = P.length
  · rw [if_pos c, if_pos c]
  · rw [if_neg c, if_neg c]
def inv0 (P : PL) : Prop := ∀ i, i < P.length → (-100 ≤ pX P i ∧ pX P i ≤ 100) ∧ (-100 ≤ pY P i ∧ pY P i ≤ 100) ∧ 0 ≤ pM P i ∧ pM P i ≤ 2
theorem inv0_app {P : PL} {x y m : Int} (h : inv0 P) (hx : -100 ≤ x ∧ x ≤ 100) (hy : -100 ≤ y ∧ y ≤ 100) (hm : 0 ≤ m ∧ m ≤ 2) : inv0 (P ++ [(x, y, m)]) := fun i hi => by
  rw [List.length_append, List.length_singleton] at hi
  rw [← app_X, ← app_Y, ← app_M]
  by_cases c : i = P.length
  · subst c
    rw [uI_s, uI_s, uI_s]
    exact ⟨hx, hy, hm⟩
  · rw [uI_n _ _ c, uI_n _ _ c, uI_n _ _ c]
    exact h i (by omega)
section LAW7
variable {G : g_X} {x pt sd cr : Int} {HP XS YS GX GY FX FY : Nat → Int} {P E : PL} {S : Nat → PL} {b : Int} {P2 E2 : PL} {S2 : Nat → PL} {F : PL} {l : Nat} {h : g_hp}
variable {wd hi9 hs9 : Int}
set_option maxRecDepth 20000 in
theorem co_x (hw : 1 ≤ wd ∧ wd ≤ 60) (hh : 1 ≤ hi9 ∧ hi9 ≤ 60) (hs : 1 ≤ hs9 ∧ hs9 ≤ 3) (hpt : 5 ≤ pt ∧ pt ≤ 26) {n9 : Nat} (ih : ∀ (x : Int) (P : PL) (k : Nat) (h : g_hp), lwW G x pt sd cr (pM P) (pX P) (pY P) GX GY FX FY P E S b P2 E2 S2 F l h → (P.length : Int) + n9 = pt → inv0 P → k + n9 ≤ 30 → Ev (g_B G mL_come 30 (6 * 30) (zQ (fun v h1 => v = .int (iN 1) ∧ ∃ (x : Int) (P' : PL), goodP P' ∧ lwW G x (P'.length : Int) sd cr (pM P') (pX P') (pY P') GX GY FX FY P' E S b P2 E2 S2 F l h1))) k (6 * k) none h 42 [(4, .int (iN ((P.length : Nat) : Int))), (3, .int (iN hs9)), (2, .int (iN hi9)), (1, .int (iN wd)), (0, .ref l)] []) {xv m9 : Int} (hx : -100 ≤ xv ∧ xv ≤ 100) (hm : 0 ≤ m9 ∧ m9 ≤ 2) {k : Nat} (W : lwW G x pt sd cr (uI (pM P) P.length m9) (pX P) (pY P) GX GY FX FY P E S b P2 E2 S2 F l h) (e : (P.length : Int) + (n9 + 1) = pt) (hi : inv0 P) (hk : k + (n9 + 1) ≤ 30) {a5 : Int} : Ev (g_B G mL_come 30 (6 * 30) (zQ (fun v h1 => v = .int (iN 1) ∧ ∃ (x : Int) (P' : PL), goodP P' ∧ lwW G x (P'.length : Int) sd cr (pM P') (pX P') (pY P') GX GY FX FY P' E S b P2 E2 S2 F l h1))) k (6 * k) none h 131 ((5, .int (iN a5)) :: [(4, .int (iN ((P.length : Nat) : Int))), (3, .int (iN hs9)), (2, .int (iN hi9)), (1, .int (iN wd)), (0, .ref l)]) [.int (iN xv), .int (iN (P.length : Int)), .ref (l + 98)] := by
  refine e_iasN W.xs (by omega) rfl dL_come_131 ?_
  refine (show Ev _ _ _ _ (g_up h (l + 98) (aI G 40 (uI (pX P) P.length (xv)))) _ _ _ from ?_)
  replace W := W.w_xs P.length (xv)
  generalize g_up h (l + 98) _ = h at W ⊢
  refine e_aload_n dL_come_132 rfl ?_
  refine e_getf fL_23 W.obj rfl dL_come_133 ?_
  refine e_iload dL_come_136 rfl ?_
  refine e_aload_n dL_come_138 rfl ?_
  refine e_iconst dL_come_139 ?_
  refine e_iload_n dL_come_140 rfl ?_
  refine e_imul dL_come_141 ?_
  refine e_iconst dL_come_142 ?_
  refine e_iadd dL_come_143 ?_
  refine e_ow W qcL_54 rfl (L_next W (by omega) (by omega)) rfl rfl rfl rfl (by omega) dL_come_144 (fun h v9 q9 => ?_)
  obtain ⟨r, x2, rfl, r0, r1, W⟩ := q9
  refine e_iload_n dL_come_147 rfl ?_
  refine e_isub dL_come_148 ?_
  refine e_iasN W.ys (by omega) rfl dL_come_149 ?_
  refine (show Ev _ _ _ _ (g_up h (l + 99) (aI G 40 (uI (pY P) P.length (r - hi9)))) _ _ _ from ?_)
  replace W := W.w_ys P.length (r - hi9)
  generalize g_up h (l + 99) _ = h at W ⊢
  refine e_aload_n dL_come_150 rfl ?_
  refine e_getf fL_10 W.obj rfl dL_come_151 ?_
  refine e_aload_n dL_come_154 rfl ?_
  refine e_getf fL_16 W.obj rfl dL_come_155 ?_
  refine e_iload dL_come_158 rfl ?_
  refine e_iaE W.hp (by omega) rfl (uI_s _ _ _) dL_come_160 ?_
  refine e_aload_n dL_come_161 rfl ?_
  refine e_getf fL_20 W.obj rfl dL_come_162 ?_
  refine e_iload dL_come_165 rfl ?_
  refine e_iaE W.xs (by omega) rfl (uI_s _ _ _) dL_come_167 ?_
  refine e_aload_n dL_come_168 rfl ?_
  refine e_getf fL_23 W.obj rfl dL_come_169 ?_
  refine e_iload dL_come_172 rfl ?_
  refine e_iaE W.ys (by omega) rfl (uI_s _ _ _) dL_come_174 ?_
  refine e_hs W qcL_64 rfl (fun _ _ _ _ _ _ _ _ _ X => D_point X ⟨⟨by omega, by omega⟩, ⟨by omega, by omega, by omega, by omega⟩, by omega⟩) rfl rfl rfl rfl (by omega) dL_come_175 (fun h W => ?_)
  refine e_iload dL_come_178 rfl ?_
  refine e_same_eq (tgt := 185) dL_come_180 rfl ?_
  rw [app_M (x := xv) (y := r - hi9), app_X (y := r - hi9) (m := m9), app_Y (x := xv) (m := m9)] at W
  have hl9 : (P ++ [(xv, r - hi9, m9)]).length = P.length + 1 := by rw [List.length_append, List.length_singleton]
  have i9 := ih x2 (P ++ [(xv, r - hi9, m9)]) (k + 0 + 1) h W (by rw [hl9]; omega) (inv0_app hi hx ⟨by omega, by omega⟩ hm) (by omega)
  rw [hl9] at i9
  refine e_iinc dL_come_185 rfl ?_
  refine e_goto (tgt := 42) dL_come_188 rfl ?_
  exact e_loc [(4, .int (iN ((P.length + 1 : Nat) : Int))), (3, .int (iN hs9)), (2, .int (iN hi9)), (1, .int (iN wd)), (0, .ref l)] ⟨rfl, rfl, rfl, rfl, rfl, trivial⟩ (e_widen (k' := k + 0 + 1) (n' := 6 * (k + 0 + 1)) (by omega) (by omega) i9)
set_option maxRecDepth 20000 in
theorem co_ag (hw : 1 ≤ wd ∧ wd ≤ 60) (hh : 1 ≤ hi9 ∧ hi9 ≤ 60) (hs : 1 ≤ hs9 ∧ hs9 ≤ 3) (hpt : 5 ≤ pt ∧ pt ≤ 26) {n9 : Nat} (ih : ∀ (x : Int) (P : PL) (k : Nat) (h : g_hp), lwW G x pt sd cr (pM P) (pX P) (pY P) GX GY FX FY P E S b P2 E2 S2 F l h → (P.length : Int) + n9 = pt → inv0 P → k + n9 ≤ 30 → Ev (g_B G mL_come 30 (6 * 30) (zQ (fun v h1 => v = .int (iN 1) ∧ ∃ (x : Int) (P' : PL), goodP P' ∧ lwW G x (P'.length : Int) sd cr (pM P') (pX P') (pY P') GX GY FX FY P' E S b P2 E2 S2 F l h1))) k (6 * k) none h 42 [(4, .int (iN ((P.length : Nat) : Int))), (3, .int (iN hs9)), (2, .int (iN hi9)), (1, .int (iN wd)), (0, .ref l)] []) {m9 ag : Int} (ha : ag = 0 ∨ (ag = 1 ∧ 0 < P.length)) (hm : 0 ≤ m9 ∧ m9 ≤ 2) {k : Nat} (W : lwW G x pt sd cr (uI (pM P) P.length m9) (pX P) (pY P) GX GY FX FY P E S b P2 E2 S2 F l h) (e : (P.length : Int) + (n9 + 1) = pt) (hi : inv0 P) (hk : k + (n9 + 1) ≤ 30) : Ev (g_B G mL_come 30 (6 * 30) (zQ (fun v h1 => v = .int (iN 1) ∧ ∃ (x : Int) (P' : PL), goodP P' ∧ lwW G x (P'.length : Int) sd cr (pM P') (pX P') (pY P') GX GY FX FY P' E S b P2 E2 S2 F l h1))) k (6 * k) none h 82 [(4, .int (iN ((P.length : Nat) : Int))), (3, .int (iN hs9)), (2, .int (iN hi9)), (1, .int (iN wd)), (0, .ref l)] [.int (iN ag)] := by
  refine e_istore dL_come_82 rfl ?_
  refine e_aload_n dL_come_84 rfl ?_
  refine e_getf fL_20 W.obj rfl dL_come_85 ?_
  refine e_iload dL_come_88 rfl ?_
  refine e_iload dL_come_90 rfl ?_
  refine e_if_eq (tgt := 109) ⟨by omega, by omega⟩ dL_come_92 rfl (fun c_92 => ?_) (fun c_92 => ?_)
  · refine e_aload_n dL_come_109 rfl ?_
    refine e_iconst dL_come_110 ?_
    refine e_iload_n dL_come_111 rfl ?_
    refine e_imul dL_come_112 ?_
    refine e_iconst dL_come_113 ?_
    refine e_iadd dL_come_114 ?_
    refine e_ow W qcL_54 rfl (L_next W (by omega) (by omega)) rfl rfl rfl rfl (by omega) dL_come_115 (fun h v9 q9 => ?_)
    obtain ⟨r, x2, rfl, r0, r1, W⟩ := q9
    refine e_iload_n dL_come_118 rfl ?_
    refine e_isub dL_come_119 ?_
    refine e_bipush dL_come_120 (by decide) ?_
    refine e_aload_n dL_come_122 rfl ?_
    refine e_getf fL_16 W.obj rfl dL_come_123 ?_
    refine e_iload dL_come_126 rfl ?_
    refine e_iaE W.hp (by omega) rfl (uI_s _ _ _) dL_come_128 ?_
    refine e_imul dL_come_129 ?_
    refine e_iadd dL_come_130 ?_
    exact e_loc ((5, .int (iN ag)) :: [(4, .int (iN ((P.length : Nat) : Int))), (3, .int (iN hs9)), (2, .int (iN hi9)), (1, .int (iN wd)), (0, .ref l)]) ⟨rfl, rfl, rfl, rfl, rfl, rfl, trivial⟩ (co_x hw hh hs hpt ih ⟨by omega, by omega⟩ hm W e hi (by omega))
  · refine e_aload_n dL_come_95 rfl ?_
    refine e_getf fL_20 W.obj rfl dL_come_96 ?_
    refine e_aload_n dL_come_99 rfl ?_
    refine e_iload dL_come_100 rfl ?_
    refine e_ow W qcL_54 rfl (L_next W (by omega) (by omega)) rfl rfl rfl rfl (by omega) dL_come_102 (fun h v9 q9 => ?_)
    obtain ⟨r, x2, rfl, r0, r1, W⟩ := q9
    obtain ⟨r, rfl⟩ := Int.eq_ofNat_of_zero_le r0
    refine e_iaN W.xs (by omega) rfl dL_come_105 ?_
    refine e_goto (tgt := 131) dL_come_106 rfl ?_
    exact e_loc ((5, .int (iN ag)) :: [(4, .int (iN ((P.length : Nat) : Int))), (3, .int (iN hs9)), (2, .int (iN hi9)), (1, .int (iN wd)), (0, .ref l)]) ⟨rfl, rfl, rfl, rfl, rfl, rfl, trivial⟩ (co_x hw hh hs hpt ih (hi r (by omega)).1 hm W e hi (by omega))
set_option maxRecDepth 20000 in
theorem co_loop (hw : 1 ≤ wd ∧ wd ≤ 60) (hh : 1 ≤ hi9 ∧ hi9 ≤ 60) (hs : 1 ≤ hs9 ∧ hs9 ≤ 3) (hpt : 5 ≤ pt ∧ pt ≤ 26) : ∀ (n9 : Nat) (x : Int) (P : PL) (k : Nat) (h : g_hp), lwW G x pt sd cr (pM P) (pX P) (pY P) GX GY FX FY P E S b P2 E2 S2 F l h → (P.length : Int) + n9 = pt → inv0 P → k + n9 ≤ 30 → Ev (g_B G mL_come 30 (6 * 30) (zQ (fun v h1 => v = .int (iN 1) ∧ ∃ (x : Int) (P' : PL), goodP P' ∧ lwW G x (P'.length : Int) sd cr (pM P') (pX P') (pY P') GX GY FX FY P' E S b P2 E2 S2 F l h1))) k (6 * k) none h 42 [(4, .int (iN ((P.length : Nat) : Int))), (3, .int (iN hs9)), (2, .int (iN hi9)), (1, .int (iN wd)), (0, .ref l)] []
  | 0, x, P, k, h, W, e, hi, hk => by
    have e9 : pt = (P.length : Int) := by omega
    subst e9
    refine e_iload dL_come_42 rfl ?_
    refine e_aload_n dL_come_44 rfl ?_
    refine e_getf fL_57 W.obj rfl dL_come_45 ?_
    refine e_icmp_ge (tgt := 191) ⟨by omega, by omega⟩ ⟨by omega, by omega⟩ dL_come_48 rfl (fun c_9 => ?_) (fun c_9 => absurd (by omega) c_9)
    refine e_iconst dL_come_191 ?_
    refine e_zret rfl (Or.inr rfl) dL_come_192 (by omega) (by omega) ?_
    exact ⟨rfl, _, rfl, rfl, _, P, ⟨⟨by omega, by omega⟩, hi⟩, W⟩
  | n9 + 1, x, P, k, h, W, e, hi, hk => by
    have ih := co_loop hw hh hs hpt n9
    refine e_iload dL_come_42 rfl ?_
    refine e_aload_n dL_come_44 rfl ?_
    refine e_getf fL_57 W.obj rfl dL_come_45 ?_
    refine e_icmp_ge (tgt := 191) ⟨by omega, by omega⟩ ⟨by omega, by omega⟩ dL_come_48 rfl (fun c_9 => absurd c_9 (by omega)) (fun c_9 => ?_)
    refine e_aload_n dL_come_51 rfl ?_
    refine e_getf fL_16 W.obj rfl dL_come_52 ?_
    refine e_iload dL_come_55 rfl ?_
    refine e_aload_n dL_come_57 rfl ?_
    refine e_iload_n dL_come_58 rfl ?_
    refine e_ow W qcL_54 rfl (L_next W (by omega) (by omega)) rfl rfl rfl rfl (by omega) dL_come_59 (fun h v9 q9 => ?_)
    obtain ⟨r, x2, rfl, r0, r1, W⟩ := q9
    refine e_iasN W.hp (by omega) rfl dL_come_62 ?_
    refine (show Ev _ _ _ _ (g_up h (l + 97) (aI G 40 (uI (pM P) P.length (r)))) _ _ _ from ?_)
    replace W := W.w_hp P.length (r)
    generalize g_up h (l + 97) _ = h at W ⊢
    refine e_iload dL_come_63 rfl ?_
    refine e_if_le (tgt := 81) ⟨by omega, by omega⟩ dL_come_65 rfl (fun c_65 => ?_) (fun c_65 => ?_)
    · refine e_iconst dL_come_81 ?_
      refine e_loc [(4, .int (iN ((P.length : Nat) : Int))), (3, .int (iN hs9)), (2, .int (iN hi9)), (1, .int (iN wd)), (0, .ref l)] ⟨rfl, rfl, rfl, rfl, rfl, trivial⟩ ?_
      exact co_ag hw hh hs hpt ih (Or.inl rfl) ⟨by omega, by omega⟩ W (by omega) hi (by omega)
    · refine e_aload_n dL_come_68 rfl ?_
      refine e_bipush dL_come_69 (by decide) ?_
      refine e_ow W qcL_54 rfl (L_next W (by omega) (by omega)) rfl rfl rfl rfl (by omega) dL_come_71 (fun h v9 q9 => ?_)
      obtain ⟨r2, x2, rfl, r2a, r2b, W⟩ := q9
      refine e_if_ne (tgt := 81) ⟨by omega, by omega⟩ dL_come_74 rfl (fun c_74 => ?_) (fun c_74 => ?_)
      · refine e_iconst dL_come_81 ?_
        refine e_loc [(4, .int (iN ((P.length : Nat) : Int))), (3, .int (iN hs9)), (2, .int (iN hi9)), (1, .int (iN wd)), (0, .ref l)] ⟨rfl, rfl, rfl, rfl, rfl, trivial⟩ ?_
        exact co_ag hw hh hs hpt ih (Or.inl rfl) ⟨by omega, by omega⟩ W (by omega) hi (by omega)
      · refine e_iconst dL_come_77 ?_
        refine e_goto (tgt := 82) dL_come_78 rfl ?_
        refine e_loc [(4, .int (iN ((P.length : Nat) : Int))), (3, .int (iN hs9)), (2, .int (iN hi9)), (1, .int (iN wd)), (0, .ref l)] ⟨rfl, rfl, rfl, rfl, rfl, trivial⟩ ?_
        exact co_ag hw hh hs hpt ih (Or.inr ⟨rfl, by omega⟩) ⟨by omega, by omega⟩ W (by omega) hi (by omega)
set_option maxRecDepth 20000 in
theorem L_come (W : lwW G x pt sd cr (pM []) (pX []) (pY []) GX GY FX FY [] E S b P2 E2 S2 F l h) : Run G mL_come [.ref l] none h 30 (6 * 30) (zQ (fun v h1 => v = .int (iN 1) ∧ ∃ (x : Int) (P' : PL), goodP P' ∧ lwW G x (P'.length : Int) sd cr (pM P') (pX P') (pY P') GX GY FX FY P' E S b P2 E2 S2 F l h1)) := by
  refine run_L rfl plL rfl ?_
  refine e_aload_n dL_come_0 rfl ?_
  refine e_iconst dL_come_1 ?_
  refine e_aload_n dL_come_2 rfl ?_
  refine e_bipush dL_come_3 (by decide) ?_
  refine e_ow W qcL_54 rfl (L_next W (by omega) (by omega)) rfl rfl rfl rfl (by omega) dL_come_5 (fun h v9 q9 => ?_)
  obtain ⟨r, x2, rfl, r0, r1, W⟩ := q9
  refine e_iadd dL_come_8 ?_
  refine e_putf pfL_57 W.obj rfl rfl rfl dL_come_9 ?_
  refine (show Ev _ _ _ _ (g_up h l (.inr (5, [.int (iN x2), .ref (l + 1), .ref (l + 97), .ref (l + 98), .ref (l + 99), .ref (l + 100), .ref (l + 101), .ref (l + 102), .ref (l + 103), .int (iN (5 + r)), .int (iN sd), .int (iN cr)]))) _ _ _ from ?_)
  replace W := W.w_pt (5 + r)
  generalize g_up h l _ = h at W ⊢
  refine e_aload_n dL_come_12 rfl ?_
  refine e_ow W qcL_60 rfl (L_spread W) rfl rfl rfl rfl (by omega) dL_come_13 (fun h v9 q9 => ?_)
  obtain ⟨wd, x3, rfl, w0, W⟩ := q9
  refine e_istore_n dL_come_16 rfl ?_
  refine e_aload_n dL_come_17 rfl ?_
  refine e_iconst dL_come_18 ?_
  refine e_ow W qcL_54 rfl (L_next W (by omega) (by omega)) rfl rfl rfl rfl (by omega) dL_come_19 (fun h v9 q9 => ?_)
  obtain ⟨r3, x4, rfl, q0, q1, W⟩ := q9
  refine e_if_ne (tgt := 29) ⟨by omega, by omega⟩ dL_come_22 rfl (fun c_22 => ?_) (fun c_22 => ?_)
  · refine e_iload_n dL_come_29 rfl ?_
    refine e_istore_n dL_come_30 rfl ?_
    refine e_iconst dL_come_31 ?_
    refine e_aload_n dL_come_32 rfl ?_
    refine e_iconst dL_come_33 ?_
    refine e_ow W qcL_54 rfl (L_next W (by omega) (by omega)) rfl rfl rfl rfl (by omega) dL_come_34 (fun h v9 q9 => ?_)
    obtain ⟨r4, x5, rfl, p0, p1, W⟩ := q9
    refine e_iadd dL_come_37 ?_
    refine e_istore_n dL_come_38 rfl ?_
    refine e_iconst dL_come_39 ?_
    refine e_istore dL_come_40 rfl ?_
    refine e_loc ([(4, .int (iN ((([] : PL).length : Nat) : Int))), (3, .int (iN (1 + r4))), (2, .int (iN wd)), (1, .int (iN wd)), (0, .ref l)]) ⟨rfl, rfl, rfl, rfl, rfl, trivial⟩ ?_
    exact co_loop ⟨by omega, by omega⟩ ⟨by omega, by omega⟩ ⟨by omega, by omega⟩ ⟨by omega, by omega⟩ (5 + r).toNat x5 [] _ h W (by show (0 : Int) + _ = _; omega) (fun i hi => absurd hi (Nat.not_lt_zero _)) (by omega)
  · refine e_iconst dL_come_25 ?_
    refine e_goto (tgt := 30) dL_come_26 rfl ?_
    refine e_istore_n dL_come_30 rfl ?_
    refine e_iconst dL_come_31 ?_
    refine e_aload_n dL_come_32 rfl ?_
    refine e_iconst dL_come_33 ?_
    refine e_ow W qcL_54 rfl (L_next W (by omega) (by omega)) rfl rfl rfl rfl (by omega) dL_come_34 (fun h v9 q9 => ?_)
    obtain ⟨r4, x5, rfl, p0, p1, W⟩ := q9
    refine e_iadd dL_come_37 ?_
    refine e_istore_n dL_come_38 rfl ?_
    refine e_iconst dL_come_39 ?_
    refine e_istore dL_come_40 rfl ?_
    refine e_loc ([(4, .int (iN ((([] : PL).length : Nat) : Int))), (3, .int (iN (1 + r4))), (2, .int (iN 1)), (1, .int (iN wd)), (0, .ref l)]) ⟨rfl, rfl, rfl, rfl, rfl, trivial⟩ ?_
    exact co_loop ⟨by omega, by omega⟩ ⟨by omega, by omega⟩ ⟨by omega, by omega⟩ ⟨by omega, by omega⟩ (5 + r).toNat x5 [] _ h W (by show (0 : Int) + _ = _; omega) (fun i hi => absurd hi (Nat.not_lt_zero _)) (by omega)
end LAW7
