/-! The law: what is restored -/
abbrev drP (P : PL) (i : Nat) : PL := P.set i (pX P i, pY P i, -1)
def drF (P : PL) : Prop := ∀ i, i < P.length → (cntN (drP P i) (pM P i) (drP P i).length : Int) = (cntN P (pM P i) P.length : Int) - 1
def erF (P : PL) (S : Nat → PL) : Prop := (∀ v : Nat, v < 3 → noStray (putN P v [] P.length)) ∧ ∀ j, j < 4 → closes (S j) → okS (S j) ∧ noFault (S j)
section LAW16
variable {G : g_X} {x pt sd cr : Int} {HP XS YS GX GY FX FY : Nat → Int} {P E : PL} {S : Nat → PL} {b : Int} {P2 E2 : PL} {S2 : Nat → PL} {F : PL} {l : Nat} {h : g_hp}
theorem lwW.El (W : lwW G x pt sd cr HP XS YS GX GY FX FY P E S b P2 E2 S2 F l h) : E.length ≤ 40 := by
  obtain ⟨_, _, _, _, _, _, _, _, _, _, X⟩ := W
  exact X.yd.2.2.2.1.1
theorem lwW.Sl (W : lwW G x pt sd cr HP XS YS GX GY FX FY P E S b P2 E2 S2 F l h) {j : Nat} (hj : j < 4) : (S j).length ≤ 16 := by
  obtain ⟨_, _, _, _, _, _, _, _, _, _, X⟩ := W
  exact (X.pol hj).1
set_option maxRecDepth 20000 in
theorem L_isRestored (W : lwW G x pt sd cr (pM P) (pX P) (pY P) GX GY FX FY P E S b P2 E2 S2 F l h) (hg : goodP P) (hp : pt = P.length) (hd : drF P) (he : erF P S) : Run G mL_isRestored [.ref l] none h 20 (6 * 20) (zQ (fun v h1 => v = .int (iN 1))) := by
  have hl := hg.1
  have hr9 := hg.r
  have hEl := W.El
  have hS0 := W.Sl (j := 0) (by decide)
  refine run_L rfl plL rfl ?_
  refine e_aload_n dL_isRestored_0 rfl ?_
  refine e_getf fL_10 W.obj rfl dL_isRestored_1 ?_
  refine e_hs W qcL_242 rfl (fun _ _ _ _ _ _ _ _ _ X => D_image X) rfl rfl rfl rfl (by omega) dL_isRestored_4 (fun h W => ?_)
  refine e_aload_n dL_isRestored_7 rfl ?_
  refine e_getf fL_57 W.obj rfl dL_isRestored_8 ?_
  rw [hp]
  refine e_same_eq (tgt := 16) dL_isRestored_11 rfl ?_
  refine e_aload_n dL_isRestored_16 rfl ?_
  refine e_aload_n dL_isRestored_17 rfl ?_
  refine e_getf fL_57 W.obj rfl dL_isRestored_18 ?_
  refine e_ow W qcL_54 rfl (L_next W (by omega) (by omega)) rfl rfl rfl rfl (by omega) dL_isRestored_21 (fun h v9 q9 => ?_)
  obtain ⟨r, x2, rfl, r0, r1, W⟩ := q9
  obtain ⟨r, rfl⟩ := Int.eq_ofNat_of_zero_le r0
  have hr : r < P.length := by omega
  have ha := hg.hp hr
  have rb := hg.r r hr
  have gr := hg.2 r hr
  have hd9 := hd r hr
  have cl9 := cntN_le P (pM P r) P.length
  have p1 : isPt P (r : Int) := ⟨by omega, by omega, by show pM P r ≠ -1; omega⟩
  refine e_istore_n dL_isRestored_24 rfl ?_
  refine e_aload_n dL_isRestored_25 rfl ?_
  refine e_aload_n dL_isRestored_26 rfl ?_
  refine e_getf fL_16 W.obj rfl dL_isRestored_27 ?_
  refine e_iload_n dL_isRestored_30 rfl ?_
  refine e_iaN W.hp (by omega) rfl dL_isRestored_31 ?_
  refine e_ow W qcL_142 rfl (L_many W hp (by omega) hr9 rb) rfl rfl rfl rfl (by omega) dL_isRestored_32 (fun h v9 q9 => ?_)
  obtain ⟨rfl, W⟩ := q9
  refine e_iconst dL_isRestored_35 ?_
  refine e_isub dL_isRestored_36 ?_
  refine e_istore_n dL_isRestored_37 rfl ?_
  refine e_aload_n dL_isRestored_38 rfl ?_
  refine e_getf fL_10 W.obj rfl dL_isRestored_39 ?_
  refine e_iload_n dL_isRestored_42 rfl ?_
  refine e_hs W qcL_245 rfl (fun _ _ _ _ _ _ _ _ _ X => D_drop X p1 ⟨by omega, by omega⟩) rfl rfl rfl rfl (by omega) dL_isRestored_43 (fun h W => ?_)
  replace W : lwW G x2 pt sd cr (pM P) (pX P) (pY P) GX GY FX FY (drP P r) E S 1 P E S F l h := W
  refine (show Ev _ _ _ _ h _ _ (.int (iN (cntN (drP P r) (pM P r) (drP P r).length : Int)) :: _) from ?_)
  rw [hd9]
  refine e_iload_n dL_isRestored_46 rfl ?_
  refine e_same_ne (tgt := 88) dL_isRestored_47 rfl ?_
  refine e_aload_n dL_isRestored_50 rfl ?_
  refine e_getf fL_10 W.obj rfl dL_isRestored_51 ?_
  refine e_aload_n dL_isRestored_54 rfl ?_
  refine e_getf fL_16 W.obj rfl dL_isRestored_55 ?_
  refine e_iload_n dL_isRestored_58 rfl ?_
  refine e_iaN W.hp (by omega) rfl dL_isRestored_59 ?_
  refine e_hs W qcL_154 rfl (fun _ _ _ _ _ _ _ _ _ X => D_count X ha) rfl rfl rfl rfl (by omega) dL_isRestored_60 (fun h W => ?_)
  rw [hd9]
  refine e_iload_n dL_isRestored_63 rfl ?_
  refine e_same_ne (tgt := 88) dL_isRestored_64 rfl ?_
  refine e_aload_n dL_isRestored_67 rfl ?_
  refine e_getf fL_10 W.obj rfl dL_isRestored_68 ?_
  refine e_iconst dL_isRestored_71 ?_
  refine e_hs W qcL_177 rfl (fun _ _ _ _ _ _ _ _ _ X => D_clear X (j := 0) ⟨by decide, by decide⟩) rfl rfl rfl rfl (by omega) dL_isRestored_72 (fun h W => ?_)
  refine (show Ev _ _ _ _ h _ _ (.int (iN ((S 0).length : Int)) :: _) from ?_)
  refine e_if_lt (tgt := 88) ⟨by omega, by omega⟩ dL_isRestored_75 rfl (fun c => absurd c (by omega)) (fun _ => ?_)
  refine e_aload_n dL_isRestored_78 rfl ?_
  refine e_getf fL_10 W.obj rfl dL_isRestored_79 ?_
  refine e_hs W qcL_213 rfl (fun _ _ _ _ _ _ _ _ _ X => D_clearLines X) rfl rfl rfl rfl (by omega) dL_isRestored_82 (fun h W => ?_)
  refine e_if_ge (tgt := 90) ⟨by omega, by omega⟩ dL_isRestored_85 rfl (fun _ => ?_) (fun c => absurd (by omega) c)
  refine e_aload_n dL_isRestored_90 rfl ?_
  refine e_getf fL_10 W.obj rfl dL_isRestored_91 ?_
  refine e_hs W qcL_248 rfl (fun _ _ _ _ _ _ _ _ _ X => D_restore X) rfl rfl rfl rfl (by omega) dL_isRestored_94 (fun h W => ?_)
  refine e_aload_n dL_isRestored_97 rfl ?_
  refine e_getf fL_57 W.obj rfl dL_isRestored_98 ?_
  rw [hp]
  refine e_same_ne (tgt := 173) dL_isRestored_101 rfl ?_
  refine e_aload_n dL_isRestored_104 rfl ?_
  refine e_getf fL_10 W.obj rfl dL_isRestored_105 ?_
  refine e_aload_n dL_isRestored_108 rfl ?_
  refine e_getf fL_16 W.obj rfl dL_isRestored_109 ?_
  refine e_iload_n dL_isRestored_112 rfl ?_
  refine e_iaN W.hp (by omega) rfl dL_isRestored_113 ?_
  refine e_hs W qcL_154 rfl (fun _ _ _ _ _ _ _ _ _ X => D_count X ha) rfl rfl rfl rfl (by omega) dL_isRestored_114 (fun h W => ?_)
  refine e_iload_n dL_isRestored_117 rfl ?_
  refine e_iconst dL_isRestored_118 ?_
  refine e_iadd dL_isRestored_119 ?_
  rw [show (cntN P (pM P r) P.length : Int) - 1 + 1 = (cntN P (pM P r) P.length : Int) by omega]
  refine e_same_ne (tgt := 173) dL_isRestored_120 rfl ?_
  refine e_aload_n dL_isRestored_123 rfl ?_
  refine e_getf fL_10 W.obj rfl dL_isRestored_124 ?_
  refine e_iload_n dL_isRestored_127 rfl ?_
  refine e_iconst dL_isRestored_128 ?_
  refine e_hs W qcL_168 rfl (fun _ _ _ _ _ _ _ _ _ X => D_pointOf X p1 ⟨by omega, by omega⟩ (Or.inl rfl)) rfl rfl rfl rfl (by omega) dL_isRestored_129 (fun h W => ?_)
  refine (show Ev _ _ _ _ h _ _ (.int (iN (pX P r)) :: _) from ?_)
  refine e_aload_n dL_isRestored_132 rfl ?_
  refine e_getf fL_20 W.obj rfl dL_isRestored_133 ?_
  refine e_iload_n dL_isRestored_136 rfl ?_
  refine e_iaN W.xs (by omega) rfl dL_isRestored_137 ?_
  refine e_same_ne (tgt := 173) dL_isRestored_138 rfl ?_
  refine e_aload_n dL_isRestored_141 rfl ?_
  refine e_getf fL_10 W.obj rfl dL_isRestored_142 ?_
  refine e_iload_n dL_isRestored_145 rfl ?_
  refine e_iconst dL_isRestored_146 ?_
  refine e_hs W qcL_168 rfl (fun _ _ _ _ _ _ _ _ _ X => D_pointOf X p1 ⟨by omega, by omega⟩ (Or.inr rfl)) rfl rfl rfl rfl (by omega) dL_isRestored_147 (fun h W => ?_)
  refine (show Ev _ _ _ _ h _ _ (.int (iN (pY P r)) :: _) from ?_)
  refine e_aload_n dL_isRestored_150 rfl ?_
  refine e_getf fL_23 W.obj rfl dL_isRestored_151 ?_
  refine e_iload_n dL_isRestored_154 rfl ?_
  refine e_iaN W.ys (by omega) rfl dL_isRestored_155 ?_
  refine e_same_ne (tgt := 173) dL_isRestored_156 rfl ?_
  refine e_aload_n dL_isRestored_159 rfl ?_
  refine e_getf fL_10 W.obj rfl dL_isRestored_160 ?_
  refine e_hs W qcL_251 rfl (fun _ _ _ _ _ _ _ _ _ X => D_errors X he.1 he.2) rfl rfl rfl rfl (by omega) dL_isRestored_163 (fun h W => ?_)
  refine e_if_ne (tgt := 173) r32_0 dL_isRestored_166 rfl (fun c => absurd rfl c) (fun _ => ?_)
  refine e_iconst dL_isRestored_169 ?_
  refine e_goto (tgt := 174) dL_isRestored_170 rfl ?_
  refine e_zret rfl (Or.inr rfl) dL_isRestored_174 (by omega) (by omega) ?_
  exact ⟨rfl, _, rfl, rfl⟩
end LAW16
