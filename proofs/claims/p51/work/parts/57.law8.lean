/-! The law: layers -/
noncomputable def lcN (P : PL) (a : Int) (F : PL) : Nat → Nat
  | 0 => 0
  | n + 1 => lcN P a F n + cif (pM P n = a ∧ wI F 1 (pX P n) (pY P n) = 0) 1 0
noncomputable abbrev lyK (P : PL) (a : Int) (k : Nat) : PL := wrapN 61 (lyL P a (k : Int))
noncomputable def lcS (P : PL) (a : Int) : Nat → Nat
  | 0 => 0
  | k + 1 => lcS P a k + lcN P a (lyK P a k) P.length
noncomputable abbrev lyM (P : PL) (a : Int) : Nat := lyC 60 (putN P a [] P.length)
def layF (P : PL) (a : Int) : Prop := (∀ k, k < lyM P a → (lyL P a (k : Int)).length ≠ 0 ∧ figP (lyK P a k)) ∧ lcS P a (lyM P a) = cntN P a P.length
section LAW8
variable {G : g_X} {x pt sd cr : Int} {HP XS YS GX GY FX FY : Nat → Int} {P E : PL} {S : Nat → PL} {b : Int} {P2 E2 : PL} {S2 : Nat → PL} {F : PL} {l : Nat} {h : g_hp}
set_option maxRecDepth 20000 in
theorem al_inner (hg : goodP P) (hp : pt = P.length) {a : Int} (ha : hpOK a) (hL : layF P a) {k9 k0 : Nat} (hk9 : k9 < lyM P a) (hk0 : k0 ≤ 13900) (kk : ∀ (k : Nat) (h : g_hp), lwW G x pt sd cr (pM P) (pX P) (pY P) GX GY FX FY P E S b P2 E2 S2 (lyK P a k9) l h → k ≤ k0 + 26 → Ev (g_B G mL_areLayers 14000 (6 * 14000) (zQ (fun v h1 => v = .int (iN 1) ∧ ∃ cr FX FY F, lwW G x pt sd cr (pM P) (pX P) (pY P) GX GY FX FY P E S b P2 E2 S2 F l h1))) k (6 * k) none h 111 [(4, .int (iN (k9 : Int))), (3, .int (iN ((lcS P a (k9 + 1) : Nat) : Int))), (2, .int (iN (lyM P a : Int))), (1, .int (iN a)), (0, .ref l)] []) : ∀ (n j9 k : Nat) (h : g_hp), lwW G x pt sd cr (pM P) (pX P) (pY P) GX GY FX FY P E S b P2 E2 S2 (lyK P a k9) l h → j9 + n = P.length → k ≤ k0 + j9 → Ev (g_B G mL_areLayers 14000 (6 * 14000) (zQ (fun v h1 => v = .int (iN 1) ∧ ∃ cr FX FY F, lwW G x pt sd cr (pM P) (pX P) (pY P) GX GY FX FY P E S b P2 E2 S2 F l h1))) k (6 * k) none h 53 [(5, .int (iN ((j9 : Nat) : Int))), (4, .int (iN (k9 : Int))), (3, .int (iN ((lcS P a k9 + lcN P a (lyK P a k9) (j9) : Nat) : Int))), (2, .int (iN (lyM P a : Int))), (1, .int (iN a)), (0, .ref l)] []
  | 0, j9, k, h, W, e, hk => by
    have hl := hg.1
    have e9 : j9 = P.length := by omega
    subst e9
    subst hp
    refine e_iload dL_areLayers_53 rfl ?_
    refine e_aload_n dL_areLayers_55 rfl ?_
    refine e_getf fL_57 W.obj rfl dL_areLayers_56 ?_
    refine e_icmp_ge (tgt := 111) ⟨by omega, by omega⟩ ⟨by omega, by omega⟩ dL_areLayers_59 rfl (fun c_9 => ?_) (fun c_9 => absurd (by omega) c_9)
    exact e_loc [(4, .int (iN (k9 : Int))), (3, .int (iN ((lcS P a (k9 + 1) : Nat) : Int))), (2, .int (iN (lyM P a : Int))), (1, .int (iN a)), (0, .ref l)] ⟨rfl, rfl, rfl, rfl, rfl, trivial⟩ (kk k h W (by omega))
  | n + 1, j9, k, h, W, e, hk => by
    have ih := al_inner hg hp ha hL hk9 hk0 kk n (j9 + 1)
    have hl := hg.1
    have h1 := hg.2 j9 (by omega)
    have hw := wI_b (lyK P a k9) 1 (pX P j9) (pY P j9)
    have et : (pM P j9 = a ∧ wI (lyK P a k9) 1 (pX P j9) (pY P j9) = 0) → lcN P a (lyK P a k9) (j9 + 1) = lcN P a (lyK P a k9) j9 + 1 := fun w => congrArg (fun q => lcN P a (lyK P a k9) j9 + q) (cif_t w)
    have ef : ¬ (pM P j9 = a ∧ wI (lyK P a k9) 1 (pX P j9) (pY P j9) = 0) → lcN P a (lyK P a k9) (j9 + 1) = lcN P a (lyK P a k9) j9 := fun w => congrArg (fun q => lcN P a (lyK P a k9) j9 + q) (cif_f w)
    subst hp
    refine e_iload dL_areLayers_53 rfl ?_
    refine e_aload_n dL_areLayers_55 rfl ?_
    refine e_getf fL_57 W.obj rfl dL_areLayers_56 ?_
    refine e_icmp_ge (tgt := 111) ⟨by omega, by omega⟩ ⟨by omega, by omega⟩ dL_areLayers_59 rfl (fun c_9 => absurd c_9 (by omega)) (fun c_9 => ?_)
    refine e_iload_n dL_areLayers_62 rfl ?_
    refine e_aload_n dL_areLayers_63 rfl ?_
    refine e_getf fL_16 W.obj rfl dL_areLayers_64 ?_
    refine e_iload dL_areLayers_67 rfl ?_
    refine e_iaN W.hp (by omega) rfl dL_areLayers_69 ?_
    refine e_iload_n dL_areLayers_70 rfl ?_
    refine e_icmp_ne (tgt := 102) ⟨by omega, by omega⟩ ⟨by omega, by omega⟩ dL_areLayers_71 rfl (fun c_71 => ?_) (fun c_71 => ?_)
    · refine e_iconst dL_areLayers_102 ?_
      have e5 := ef (fun q => c_71 q.1)
      refine e_iadd dL_areLayers_103 ?_
      refine e_istore_n dL_areLayers_104 rfl ?_
      refine e_iinc dL_areLayers_105 rfl ?_
      refine e_goto (tgt := 53) dL_areLayers_108 rfl ?_
      refine e_loc [(5, .int (iN ((j9 + 1 : Nat) : Int))), (4, .int (iN (k9 : Int))), (3, .int (iN ((lcS P a k9 + lcN P a (lyK P a k9) (j9 + 1) : Nat) : Int))), (2, .int (iN (lyM P a : Int))), (1, .int (iN a)), (0, .ref l)] ⟨rfl, rfl, ?_, rfl, rfl, rfl, trivial⟩ (ih _ h W (by omega) (by omega))
      rw [e5]
      rfl
    · refine e_aload_n dL_areLayers_74 rfl ?_
      refine e_getf fL_10 W.obj rfl dL_areLayers_75 ?_
      refine e_aload_n dL_areLayers_78 rfl ?_
      refine e_getf fL_20 W.obj rfl dL_areLayers_79 ?_
      refine e_iload dL_areLayers_82 rfl ?_
      refine e_iaN W.xs (by omega) rfl dL_areLayers_84 ?_
      refine e_aload_n dL_areLayers_85 rfl ?_
      refine e_getf fL_23 W.obj rfl dL_areLayers_86 ?_
      refine e_iload dL_areLayers_89 rfl ?_
      refine e_iaN W.ys (by omega) rfl dL_areLayers_91 ?_
      refine e_hs W qcL_85 rfl (fun _ _ _ _ _ _ _ _ _ X => D_lies X ⟨by omega, by omega⟩ ⟨by omega, by omega⟩) rfl rfl rfl rfl (by omega) dL_areLayers_92 (fun h W => ?_)
      refine e_if_ne (tgt := 102) ⟨by omega, by omega⟩ dL_areLayers_95 rfl (fun c_95 => ?_) (fun c_95 => ?_)
      · refine e_iconst dL_areLayers_102 ?_
        have e5 := ef (fun q => c_95 q.2)
        refine e_iadd dL_areLayers_103 ?_
        refine e_istore_n dL_areLayers_104 rfl ?_
        refine e_iinc dL_areLayers_105 rfl ?_
        refine e_goto (tgt := 53) dL_areLayers_108 rfl ?_
        refine e_loc [(5, .int (iN ((j9 + 1 : Nat) : Int))), (4, .int (iN (k9 : Int))), (3, .int (iN ((lcS P a k9 + lcN P a (lyK P a k9) (j9 + 1) : Nat) : Int))), (2, .int (iN (lyM P a : Int))), (1, .int (iN a)), (0, .ref l)] ⟨rfl, rfl, ?_, rfl, rfl, rfl, trivial⟩ (ih _ h W (by omega) (by omega))
        rw [e5]
        rfl
      · refine e_iconst dL_areLayers_98 ?_
        refine e_goto (tgt := 103) dL_areLayers_99 rfl ?_
        have e5 := et (⟨by omega, by omega⟩)
        refine e_iadd dL_areLayers_103 ?_
        refine e_istore_n dL_areLayers_104 rfl ?_
        refine e_iinc dL_areLayers_105 rfl ?_
        refine e_goto (tgt := 53) dL_areLayers_108 rfl ?_
        refine e_loc [(5, .int (iN ((j9 + 1 : Nat) : Int))), (4, .int (iN (k9 : Int))), (3, .int (iN ((lcS P a k9 + lcN P a (lyK P a k9) (j9 + 1) : Nat) : Int))), (2, .int (iN (lyM P a : Int))), (1, .int (iN a)), (0, .ref l)] ⟨rfl, rfl, ?_, rfl, rfl, rfl, trivial⟩ (ih _ h W (by omega) (by omega))
        rw [e5]
        rfl
set_option maxRecDepth 20000 in
theorem al_outer (hg : goodP P) (hp : pt = P.length) {a : Int} (ha : hpOK a) (hL : layF P a) (hN : lyM P a ≤ 60) : ∀ (n k9 k : Nat) (h : g_hp) (cr : Int) (FX FY : Nat → Int) (F : PL), lwW G x pt sd cr (pM P) (pX P) (pY P) GX GY FX FY P E S b P2 E2 S2 F l h → k9 + n = lyM P a → k ≤ 1 + 230 * k9 → Ev (g_B G mL_areLayers 14000 (6 * 14000) (zQ (fun v h1 => v = .int (iN 1) ∧ ∃ cr FX FY F, lwW G x pt sd cr (pM P) (pX P) (pY P) GX GY FX FY P E S b P2 E2 S2 F l h1))) k (6 * k) none h 21 [(4, .int (iN ((k9 : Nat) : Int))), (3, .int (iN ((lcS P a (k9) : Nat) : Int))), (2, .int (iN (lyM P a : Int))), (1, .int (iN a)), (0, .ref l)] []
  | 0, k9, k, h, cr, FX, FY, F, W, e, hk => by
    have hl := hg.1
    have e9 : k9 = lyM P a := by omega
    have ra : r32 a := ⟨by omega, by omega⟩
    have hm := hg.r
    rw [e9]
    rw [hL.2]
    generalize lyM P a = N9 at *
    refine e_iload dL_areLayers_21 rfl ?_
    refine e_iload_n dL_areLayers_23 rfl ?_
    refine e_icmp_ge (tgt := 117) ⟨by omega, by omega⟩ ⟨by omega, by omega⟩ dL_areLayers_24 rfl (fun c_9 => ?_) (fun c_9 => absurd (by omega) c_9)
    refine e_iload_n dL_areLayers_117 rfl ?_
    refine e_aload_n dL_areLayers_118 rfl ?_
    refine e_iload_n dL_areLayers_119 rfl ?_
    refine e_ow W qcL_142 rfl (L_many W hp (by omega) hm ra) rfl rfl rfl rfl (by omega) dL_areLayers_120 (fun h v9 q9 => ?_)
    obtain ⟨rfl, W⟩ := q9
    refine e_same_ne (tgt := 130) dL_areLayers_123 rfl ?_
    refine e_iconst dL_areLayers_126 ?_
    refine e_goto (tgt := 131) dL_areLayers_127 rfl ?_
    refine e_zret rfl (Or.inr rfl) dL_areLayers_131 (by omega) (by omega) ?_
    exact ⟨rfl, _, rfl, rfl, _, _, _, _, W⟩
  | n + 1, k9, k, h, cr, FX, FY, F, W, e, hk => by
    have ih := al_outer hg hp ha hL hN n (k9 + 1)
    have hl := hg.1
    have hk9 : k9 < lyM P a := by omega
    obtain ⟨h1, h2⟩ := hL.1 k9 hk9
    have l2 : 0 < (wrapN 61 (lyL P a (k9 : Int))).length ∧ (wrapN 61 (lyL P a (k9 : Int))).length ≤ 60 := h2.1
    refine e_iload dL_areLayers_21 rfl ?_
    refine e_iload_n dL_areLayers_23 rfl ?_
    refine e_icmp_ge (tgt := 117) ⟨by omega, by omega⟩ ⟨by omega, by omega⟩ dL_areLayers_24 rfl (fun c_9 => absurd c_9 (by omega)) (fun c_9 => ?_)
    refine e_aload_n dL_areLayers_27 rfl ?_
    refine e_getf fL_10 W.obj rfl dL_areLayers_28 ?_
    refine e_iload_n dL_areLayers_31 rfl ?_
    refine e_iload dL_areLayers_32 rfl ?_
    refine e_hs W qcL_133 rfl (fun _ _ _ _ _ _ _ _ _ X => D_layer X ha ⟨by omega, by omega⟩ ⟨by omega, h1⟩) rfl rfl rfl rfl (by omega) dL_areLayers_34 (fun h W => ?_)
    refine e_iconst dL_areLayers_37 ?_
    refine e_icmp_lt (tgt := 48) ⟨by omega, by omega⟩ ⟨by omega, by omega⟩ dL_areLayers_38 rfl (fun c => absurd c (by omega)) (fun _ => ?_)
    refine e_aload_n dL_areLayers_41 rfl ?_
    refine e_ow W qcL_119 rfl (L_isFigure W h2) rfl rfl rfl rfl (by omega) dL_areLayers_42 (fun h v9 q9 => ?_)
    obtain ⟨rfl, FX, FY, W, hx⟩ := q9
    refine e_if_ne (tgt := 50) ⟨by omega, by omega⟩ dL_areLayers_45 rfl (fun _ => ?_) (fun c => absurd (show ¬ (1 : Int) = 0 by decide) c)
    refine e_iconst dL_areLayers_50 ?_
    refine e_istore dL_areLayers_51 rfl ?_
    refine e_loc [(5, .int (iN ((0 : Nat) : Int))), (4, .int (iN (k9 : Int))), (3, .int (iN ((lcS P a k9 + lcN P a (lyK P a k9) (0) : Nat) : Int))), (2, .int (iN (lyM P a : Int))), (1, .int (iN a)), (0, .ref l)] ⟨rfl, rfl, rfl, rfl, rfl, rfl, trivial⟩ ?_
    refine al_inner hg hp ha hL hk9 (k0 := k + 1 + 200) (by omega) (fun k h W hk => ?_) P.length 0 _ h W (Nat.zero_add _) (by omega)
    refine e_iinc dL_areLayers_111 rfl ?_
    refine e_goto (tgt := 21) dL_areLayers_114 rfl ?_
    exact e_loc [(4, .int (iN ((k9 + 1 : Nat) : Int))), (3, .int (iN ((lcS P a (k9 + 1) : Nat) : Int))), (2, .int (iN (lyM P a : Int))), (1, .int (iN a)), (0, .ref l)] ⟨rfl, rfl, rfl, rfl, rfl, trivial⟩ (ih k h _ _ _ _ W (by omega) (by omega))
set_option maxRecDepth 20000 in
theorem L_areLayers (W : lwW G x pt sd cr (pM P) (pX P) (pY P) GX GY FX FY P E S b P2 E2 S2 F l h) (hg : goodP P) (hp : pt = P.length) (hL : layF P (pM P 0)) (hN : lyM P (pM P 0) ≤ 60) : Run G mL_areLayers [.ref l] none h 14000 (6 * 14000) (zQ (fun v h1 => v = .int (iN 1) ∧ ∃ cr FX FY F, lwW G x pt sd cr (pM P) (pX P) (pY P) GX GY FX FY P E S b P2 E2 S2 F l h1)) := by
  have hl := hg.1
  have ha := hg.hp (show 0 < P.length by omega)
  refine run_L rfl plL rfl ?_
  refine e_aload_n dL_areLayers_0 rfl ?_
  refine e_getf fL_16 W.obj rfl dL_areLayers_1 ?_
  refine e_iconst dL_areLayers_4 ?_
  refine e_iaN (j := 0) W.hp (by omega) rfl dL_areLayers_5 ?_
  refine e_istore_n dL_areLayers_6 rfl ?_
  refine e_aload_n dL_areLayers_7 rfl ?_
  refine e_getf fL_10 W.obj rfl dL_areLayers_8 ?_
  refine e_iload_n dL_areLayers_11 rfl ?_
  refine e_hs W qcL_139 rfl (fun _ _ _ _ _ _ _ _ _ X => D_layers X ha) rfl rfl rfl rfl (by omega) dL_areLayers_12 (fun h W => ?_)
  refine e_istore_n dL_areLayers_15 rfl ?_
  refine e_iconst dL_areLayers_16 ?_
  refine e_istore_n dL_areLayers_17 rfl ?_
  refine e_iconst dL_areLayers_18 ?_
  refine e_istore dL_areLayers_19 rfl ?_
  refine e_loc [(4, .int (iN ((0 : Nat) : Int))), (3, .int (iN ((lcS P (pM P 0) (0) : Nat) : Int))), (2, .int (iN (lyM P (pM P 0) : Int))), (1, .int (iN (pM P 0))), (0, .ref l)] ⟨rfl, rfl, rfl, rfl, rfl, trivial⟩ ?_
  exact al_outer hg hp ha hL hN (lyM P (pM P 0)) 0 _ h cr FX FY F W (Nat.zero_add _) (by omega)
end LAW8
