/-! The law: the figure -/
section LAWR5
variable {C : g_E} {k n : Nat} {z : Option Nat} {h : g_hp} {pc : Nat} {L : List (Nat × Value)} {st : List Value}
theorem e_same_eq {x : Int} {off : Int} {tgt : Nat} (hd : decode (g_cc C) pc = .ok (.if_icmp .eq off, 3)) (ht : (pc : Int) + off = (tgt : Int)) (kt : Ev C k n z h tgt L st) : Ev C k n z h pc L (.int (iN x) :: .int (iN x) :: st) := by
  have e := iN_asI (iN x)
  generalize iN x = v at e ⊢
  rw [← e]
  exact e_icmp_eq (r32_of v) (r32_of v) hd ht (fun _ => kt) (fun c => absurd rfl c)
theorem e_same_ne {x : Int} {off : Int} {tgt : Nat} (hd : decode (g_cc C) pc = .ok (.if_icmp .ne off, 3)) (ht : (pc : Int) + off = (tgt : Int)) (kt : Ev C k n z h (pc + 3) L st) : Ev C k n z h pc L (.int (iN x) :: .int (iN x) :: st) := by
  have e := iN_asI (iN x)
  generalize iN x = v at e ⊢
  rw [← e]
  exact e_icmp_ne (r32_of v) (r32_of v) hd ht (fun c => absurd rfl c) (fun _ => kt)
end LAWR5
def filP (F : PL) : Prop := (¬ bxF F ≤ 0 → vf_n32 (FP.fdiv (FP.i2f (iN (da F))) (FP.i2f (iN (bxF F))))) ∧ Op.cmpValue (FP.fcmp (k_fills F) FP.fconst0) .l = iN 1 ∧ ∃ v9 : Int, (v9 = 0 ∨ v9 = -1) ∧ Op.cmpValue (FP.fcmp (k_fills F) FP.fconst1) .g = iN v9
/-- what the law asks of a figure -/
def figP (F : PL) : Prop := (0 < F.length ∧ F.length ≤ 60) ∧ okS F ∧ (∀ k, 0 < k → k < F.length → pX F 0 < pX F k ∨ (pX F 0 = pX F k ∧ pY F 0 < pY F k)) ∧ (3 ≤ F.length → ∀ k, k < F.length → 0 < tw3 F k (nxt F.length k) F (nxt F.length (nxt F.length k))) ∧ (∀ k, k < F.length → wI F 1 (pX F k) (pY F k) = 0) ∧ (F.length < 3 → da F = 0) ∧ (3 ≤ F.length → (da F = 2 * pin F + srd F - 2 ∧ 0 < da F) ∧ (∀ i, i < F.length → 0 < sqL F i) ∧ filP F)
theorem sg_1 {z : Int} (h : 0 < z) : sg z = 1 := by
  unfold sg
  rw [if_pos h]
theorem da_bdS {F : PL} (hS : okS F) (hl : F.length ≤ 60) : -20000000 ≤ da F ∧ da F ≤ 20000000 := by
  have h1 := sumN_bd (f := daT F) (B := 320000) (n := F.length) (fun i hi => by
    have b1 := hS i hi
    have b2 := hS _ (nxt_lt hi)
    have m1 := mul_bd (A := 400) (B := 400) b1.1 b2.2
    have m2 := mul_bd (A := 400) (B := 400) b1.2 b2.1
    exact ⟨by show _ ≤ pX F i * pY F (nxt F.length i) - pY F i * pX F (nxt F.length i); omega, by show pX F i * pY F (nxt F.length i) - pY F i * pX F (nxt F.length i) ≤ _; omega⟩)
  have h2 : (F.length : Int) * 320000 ≤ 20000000 := by omega
  show _ ≤ sumN (daT F) F.length ∧ sumN (daT F) F.length ≤ _
  omega
theorem gs_bdS {F : PL} (hS : okS F) {i : Nat} (hi : i < F.length) : gsE F i ≤ 800 := by
  have b1 := hS i hi
  have b2 := hS _ (nxt_lt hi)
  rcases Nat.eq_zero_or_pos (rnE F i).natAbs with q | q
  · unfold gsE
    rw [q, Nat.gcd_zero_left]
    unfold rsE
    omega
  · have := Nat.gcd_le_left (rsE F i).natAbs q
    unfold gsE
    unfold rnE at this ⊢
    omega
theorem srd_bdS {F : PL} (hS : okS F) : ∀ n, n ≤ F.length → 0 ≤ sumN (fun i => (gsE F i : Int)) n ∧ sumN (fun i => (gsE F i : Int)) n ≤ 800 * n
  | 0, _ => ⟨Int.le_refl _, Int.le_refl _⟩
  | n + 1, hn => by
    have h := srd_bdS hS n (by omega)
    have g := gs_bdS hS (show n < F.length by omega)
    show 0 ≤ sumN _ n + (gsE F n : Int) ∧ sumN _ n + (gsE F n : Int) ≤ _
    omega
/-- the edge as the law counts it -/
def edL9 (F : PL) : Int := if F.length = 1 then 1 else if F.length = 2 then 1 + (srd F).tdiv 2 else srd F
theorem k_edge_L {F : PL} (h0 : 0 < F.length) : k_edge F = edL9 F := by
  unfold k_edge edL9
  rw [if_neg (by omega)]
  by_cases c1 : F.length = 1
  · rw [if_pos c1, if_pos c1]
  · rw [if_neg c1, if_neg c1]
    by_cases c2 : F.length = 2
    · rw [if_pos c2, if_pos c2]
      have e : srd F = (gsE F 0 : Int) + gsE F 1 := by
        show sumN _ F.length = _
        rw [c2]
        show (0 : Int) + (gsE F 0 : Int) + (gsE F 1 : Int) = _
        omega
      have e1 : gsE F 1 = gsE F 0 := by
        unfold gsE rnE rsE
        rw [c2]
        show Nat.gcd (pX F 0 - pX F 1).natAbs (pY F 0 - pY F 1).natAbs = Nat.gcd (pX F 1 - pX F 0).natAbs (pY F 1 - pY F 0).natAbs
        rw [show (pX F 0 - pX F 1).natAbs = (pX F 1 - pX F 0).natAbs by omega, show (pY F 0 - pY F 1).natAbs = (pY F 1 - pY F 0).natAbs by omega]
      rw [e, e1, show (gsE F 0 : Int) + gsE F 0 = gsE F 0 * 2 by omega, Int.mul_tdiv_cancel _ (by decide)]
      omega
    · rw [if_neg c2, if_neg c2]
section LAW5
variable {G : g_X} {x pt sd cr : Int} {HP XS YS GX GY FX FY : Nat → Int} {P E : PL} {S : Nat → PL} {b : Int} {P2 E2 : PL} {S2 : Nat → PL} {F : PL} {l : Nat} {h : g_hp}
set_option maxRecDepth 20000 in
theorem if_fill (hf : figP F) (kk : ∀ (k : Nat) (h : g_hp) (FX FY : Nat → Int), lwW G x pt sd (F.length : Int) HP XS YS GX GY FX FY P E S b P2 E2 S2 F l h → (∀ i, i < F.length → FX i = pX F i ∧ FY i = pY F i) → k ≤ 1 + 2 * F.length → Ev (g_B G mL_isFigure 200 (6 * 200) (zQ (fun v h1 => v = .int (iN 1) ∧ ∃ FX FY, lwW G x pt sd (F.length : Int) HP XS YS GX GY FX FY P E S b P2 E2 S2 F l h1 ∧ ∀ i, i < F.length → FX i = pX F i ∧ FY i = pY F i))) k (6 * k) none h 149 [(3, .int (iN (ckN F F.length))), (2, .int (iN 0)), (1, .int (iN 0)), (0, .ref l)] []) : ∀ (n k9 k : Nat) (h : g_hp) (FX FY : Nat → Int), lwW G x pt sd (F.length : Int) HP XS YS GX GY FX FY P E S b P2 E2 S2 F l h → (∀ i, i < k9 → FX i = pX F i ∧ FY i = pY F i) → k9 + n = F.length → k ≤ 1 + 2 * k9 → Ev (g_B G mL_isFigure 200 (6 * 200) (zQ (fun v h1 => v = .int (iN 1) ∧ ∃ FX FY, lwW G x pt sd (F.length : Int) HP XS YS GX GY FX FY P E S b P2 E2 S2 F l h1 ∧ ∀ i, i < F.length → FX i = pX F i ∧ FY i = pY F i))) k (6 * k) none h 21 [(4, .int (iN ((k9 : Nat) : Int))), (3, .int (iN (ckN F (k9)))), (2, .int (iN 0)), (1, .int (iN 0)), (0, .ref l)] []
  | 0, k9, k, h, FX, FY, W, hx, e, hk => by
    have e2 : k9 = F.length := by omega
    subst e2
    have hl := hf.1
    refine e_iload dL_isFigure_21 rfl ?_
    refine e_aload_n dL_isFigure_23 rfl ?_
    refine e_getf fL_71 W.obj rfl dL_isFigure_24 ?_
    refine e_icmp_ge (tgt := 149) ⟨by omega, by omega⟩ ⟨by omega, by omega⟩ dL_isFigure_27 rfl (fun c_9 => ?_) (fun c_9 => absurd (by omega) c_9)
    exact e_loc [(3, .int (iN (ckN F F.length))), (2, .int (iN 0)), (1, .int (iN 0)), (0, .ref l)] ⟨rfl, rfl, rfl, rfl, trivial⟩ (kk k h FX FY W hx hk)
  | n + 1, k9, k, h, FX, FY, W, hx, e, hk => by
    have ih := if_fill hf kk n (k9 + 1)
    have hl := hf.1
    have hS9 := hf.2.1 k9 (by omega)
    have hS0 := hf.2.1 0 (by omega)
    have hm := hf.2.2.1 k9
    refine e_iload dL_isFigure_21 rfl ?_
    refine e_aload_n dL_isFigure_23 rfl ?_
    refine e_getf fL_71 W.obj rfl dL_isFigure_24 ?_
    refine e_icmp_ge (tgt := 149) ⟨by omega, by omega⟩ ⟨by omega, by omega⟩ dL_isFigure_27 rfl (fun c_9 => absurd c_9 (by omega)) (fun c_9 => ?_)
    refine e_aload_n dL_isFigure_30 rfl ?_
    refine e_getf fL_32 W.obj rfl dL_isFigure_31 ?_
    refine e_iload dL_isFigure_34 rfl ?_
    refine e_aload_n dL_isFigure_36 rfl ?_
    refine e_getf fL_10 W.obj rfl dL_isFigure_37 ?_
    refine e_iload dL_isFigure_40 rfl ?_
    refine e_iconst dL_isFigure_42 ?_
    refine e_hs W qcL_73 rfl (fun _ _ _ _ _ _ _ _ _ X => D_corner X (u := False) ⟨by omega, by omega⟩ ⟨by omega, by omega⟩) rfl rfl rfl rfl (by omega) dL_isFigure_43 (fun h W => ?_)
    refine (show Ev _ _ _ _ h _ _ (.int (iN (pX F k9)) :: _) from ?_)
    refine e_iasN W.fx (by omega) rfl dL_isFigure_46 ?_
    replace W := W.w_fx k9 (pX F k9)
    refine (show Ev _ _ _ _ (g_up h (l + 102) (aI G 80 (uI FX k9 (pX F k9)))) _ _ _ from ?_)
    generalize g_up h (l + 102) _ = h at W ⊢
    refine e_aload_n dL_isFigure_47 rfl ?_
    refine e_getf fL_35 W.obj rfl dL_isFigure_48 ?_
    refine e_iload dL_isFigure_51 rfl ?_
    refine e_aload_n dL_isFigure_53 rfl ?_
    refine e_getf fL_10 W.obj rfl dL_isFigure_54 ?_
    refine e_iload dL_isFigure_57 rfl ?_
    refine e_iconst dL_isFigure_59 ?_
    refine e_hs W qcL_73 rfl (fun _ _ _ _ _ _ _ _ _ X => D_corner X (u := True) ⟨by omega, by omega⟩ ⟨by omega, by omega⟩) rfl rfl rfl rfl (by omega) dL_isFigure_60 (fun h W => ?_)
    refine (show Ev _ _ _ _ h _ _ (.int (iN (pY F k9)) :: _) from ?_)
    refine e_iasN W.fy (by omega) rfl dL_isFigure_63 ?_
    replace W := W.w_fy k9 (pY F k9)
    refine (show Ev _ _ _ _ (g_up h (l + 103) (aI G 80 (uI FY k9 (pY F k9)))) _ _ _ from ?_)
    generalize g_up h (l + 103) _ = h at W ⊢
    replace hx : ∀ i, i < k9 + 1 → uI FX k9 (pX F k9) i = pX F i ∧ uI FY k9 (pY F k9) i = pY F i := fun i hi => by
      by_cases c : i = k9
      · subst c
        exact ⟨uI_s _ _ _, uI_s _ _ _⟩
      · rw [uI_n _ _ c, uI_n _ _ c]
        exact hx i (by omega)
    generalize uI FX k9 _ = FX at W hx ⊢
    generalize uI FY k9 _ = FY at W hx ⊢
    have ek := hx k9 (by omega)
    have e0 := hx 0 (by omega)
    refine e_bipush dL_isFigure_64 (by decide) ?_
    refine e_bipush dL_isFigure_66 (by decide) ?_
    refine e_iload_n dL_isFigure_68 rfl ?_
    refine e_imul dL_isFigure_69 ?_
    refine e_aload_n dL_isFigure_70 rfl ?_
    refine e_getf fL_32 W.obj rfl dL_isFigure_71 ?_
    refine e_iload dL_isFigure_74 rfl ?_
    refine e_iaE W.fx (by omega) rfl ek.1 dL_isFigure_76 ?_
    refine e_iadd dL_isFigure_77 ?_
    refine e_imul dL_isFigure_78 ?_
    refine e_aload_n dL_isFigure_79 rfl ?_
    refine e_getf fL_35 W.obj rfl dL_isFigure_80 ?_
    refine e_iload dL_isFigure_83 rfl ?_
    refine e_iaE W.fy (by omega) rfl ek.2 dL_isFigure_85 ?_
    refine e_iadd dL_isFigure_86 ?_
    refine e_istore_n dL_isFigure_87 rfl ?_
    refine e_iload dL_isFigure_88 rfl ?_
    refine e_if_le (tgt := 143) ⟨by omega, by omega⟩ dL_isFigure_90 rfl (fun c_90 => ?_) (fun c_90 => ?_)
    · refine e_iinc dL_isFigure_143 rfl ?_
      refine e_goto (tgt := 21) dL_isFigure_146 rfl ?_
      exact e_loc [(4, .int (iN ((k9 + 1 : Nat) : Int))), (3, .int (iN (ckN F (k9 + 1)))), (2, .int (iN 0)), (1, .int (iN 0)), (0, .ref l)] ⟨rfl, rfl, rfl, rfl, rfl, trivial⟩ (ih _ h FX FY W hx (by omega) (by omega))
    · refine e_aload_n dL_isFigure_93 rfl ?_
      refine e_getf fL_32 W.obj rfl dL_isFigure_94 ?_
      refine e_iload dL_isFigure_97 rfl ?_
      refine e_iaE W.fx (by omega) rfl ek.1 dL_isFigure_99 ?_
      refine e_aload_n dL_isFigure_100 rfl ?_
      refine e_getf fL_32 W.obj rfl dL_isFigure_101 ?_
      refine e_iconst dL_isFigure_104 ?_
      refine e_iaE (j := 0) W.fx (by omega) rfl e0.1 dL_isFigure_105 ?_
      refine e_icmp_lt (tgt := 141) ⟨by omega, by omega⟩ ⟨by omega, by omega⟩ dL_isFigure_106 rfl (fun c => absurd (hm (by omega) (by omega)) (by omega)) (fun c_106 => ?_)
      refine e_aload_n dL_isFigure_109 rfl ?_
      refine e_getf fL_32 W.obj rfl dL_isFigure_110 ?_
      refine e_iload dL_isFigure_113 rfl ?_
      refine e_iaE W.fx (by omega) rfl ek.1 dL_isFigure_115 ?_
      refine e_aload_n dL_isFigure_116 rfl ?_
      refine e_getf fL_32 W.obj rfl dL_isFigure_117 ?_
      refine e_iconst dL_isFigure_120 ?_
      refine e_iaE (j := 0) W.fx (by omega) rfl e0.1 dL_isFigure_121 ?_
      refine e_icmp_ne (tgt := 143) ⟨by omega, by omega⟩ ⟨by omega, by omega⟩ dL_isFigure_122 rfl (fun c_122 => ?_) (fun c_122 => ?_)
      · refine e_iinc dL_isFigure_143 rfl ?_
        refine e_goto (tgt := 21) dL_isFigure_146 rfl ?_
        exact e_loc [(4, .int (iN ((k9 + 1 : Nat) : Int))), (3, .int (iN (ckN F (k9 + 1)))), (2, .int (iN 0)), (1, .int (iN 0)), (0, .ref l)] ⟨rfl, rfl, rfl, rfl, rfl, trivial⟩ (ih _ h FX FY W hx (by omega) (by omega))
      · refine e_aload_n dL_isFigure_125 rfl ?_
        refine e_getf fL_35 W.obj rfl dL_isFigure_126 ?_
        refine e_iload dL_isFigure_129 rfl ?_
        refine e_iaE W.fy (by omega) rfl ek.2 dL_isFigure_131 ?_
        refine e_aload_n dL_isFigure_132 rfl ?_
        refine e_getf fL_35 W.obj rfl dL_isFigure_133 ?_
        refine e_iconst dL_isFigure_136 ?_
        refine e_iaE (j := 0) W.fy (by omega) rfl e0.2 dL_isFigure_137 ?_
        refine e_icmp_gt (tgt := 143) ⟨by omega, by omega⟩ ⟨by omega, by omega⟩ dL_isFigure_138 rfl (fun c_138 => ?_) (fun c => absurd (hm (by omega) (by omega)) (by omega))
        refine e_iinc dL_isFigure_143 rfl ?_
        refine e_goto (tgt := 21) dL_isFigure_146 rfl ?_
        exact e_loc [(4, .int (iN ((k9 + 1 : Nat) : Int))), (3, .int (iN (ckN F (k9 + 1)))), (2, .int (iN 0)), (1, .int (iN 0)), (0, .ref l)] ⟨rfl, rfl, rfl, rfl, rfl, trivial⟩ (ih _ h FX FY W hx (by omega) (by omega))
set_option maxRecDepth 20000 in
theorem if_round (hf : figP F) (kk : ∀ (k : Nat) (h : g_hp), lwW G x pt sd (F.length : Int) HP XS YS GX GY FX FY P E S b P2 E2 S2 F l h → k ≤ 1 + 3 * F.length → Ev (g_B G mL_isFigure 200 (6 * 200) (zQ (fun v h1 => v = .int (iN 1) ∧ ∃ FX FY, lwW G x pt sd (F.length : Int) HP XS YS GX GY FX FY P E S b P2 E2 S2 F l h1 ∧ ∀ i, i < F.length → FX i = pX F i ∧ FY i = pY F i))) k (6 * k) none h 344 [(3, .int (iN (ckN F F.length))), (2, .int (iN (srd F))), (1, .int (iN (da F))), (0, .ref l)] []) (hx : ∀ i, i < F.length → FX i = pX F i ∧ FY i = pY F i) : ∀ (n k9 k : Nat) (h : g_hp), lwW G x pt sd (F.length : Int) HP XS YS GX GY FX FY P E S b P2 E2 S2 F l h → k9 + n = F.length → k ≤ 1 + 2 * F.length + k9 → Ev (g_B G mL_isFigure 200 (6 * 200) (zQ (fun v h1 => v = .int (iN 1) ∧ ∃ FX FY, lwW G x pt sd (F.length : Int) HP XS YS GX GY FX FY P E S b P2 E2 S2 F l h1 ∧ ∀ i, i < F.length → FX i = pX F i ∧ FY i = pY F i))) k (6 * k) none h 152 [(4, .int (iN ((k9 : Nat) : Int))), (3, .int (iN (ckN F F.length))), (2, .int (iN (sumN (fun i => (gsE F i : Int)) (k9)))), (1, .int (iN (sumN (daT F) (k9)))), (0, .ref l)] []
  | 0, k9, k, h, W, e, hk => by
    have e2 : k9 = F.length := by omega
    subst e2
    have hl := hf.1
    refine e_iload dL_isFigure_152 rfl ?_
    refine e_aload_n dL_isFigure_154 rfl ?_
    refine e_getf fL_71 W.obj rfl dL_isFigure_155 ?_
    refine e_icmp_ge (tgt := 344) ⟨by omega, by omega⟩ ⟨by omega, by omega⟩ dL_isFigure_158 rfl (fun c_9 => ?_) (fun c_9 => absurd (by omega) c_9)
    exact e_loc [(3, .int (iN (ckN F F.length))), (2, .int (iN (srd F))), (1, .int (iN (da F))), (0, .ref l)] ⟨rfl, rfl, rfl, rfl, trivial⟩ (kk k h W (by omega))
  | n + 1, k9, k, h, W, e, hk => by
    have ih := if_round hf kk hx n (k9 + 1)
    have hl := hf.1
    have hk9 : k9 < F.length := by omega
    have hn := nxt_lt hk9
    have hn2 := nxt_lt hn
    have ek := hx k9 hk9
    have ea := hx _ hn
    have eb := hx _ hn2
    have bk := okb hf.2.1 hk9
    have ba := okb hf.2.1 hn
    have bb := okb hf.2.1 hn2
    have hz := hf.2.2.2.2.1 k9 hk9
    have et := tm_nxt hk9
    have et2 := tm_nxt2 hk9
    refine e_iload dL_isFigure_152 rfl ?_
    refine e_aload_n dL_isFigure_154 rfl ?_
    refine e_getf fL_71 W.obj rfl dL_isFigure_155 ?_
    refine e_icmp_ge (tgt := 344) ⟨by omega, by omega⟩ ⟨by omega, by omega⟩ dL_isFigure_158 rfl (fun c_9 => absurd c_9 (by omega)) (fun c_9 => ?_)
    refine e_iload dL_isFigure_161 rfl ?_
    refine e_iconst dL_isFigure_163 ?_
    refine e_iadd dL_isFigure_164 ?_
    refine e_aload_n dL_isFigure_165 rfl ?_
    refine e_getf fL_71 W.obj rfl dL_isFigure_166 ?_
    refine e_irem ⟨by omega, by omega⟩ ⟨by omega, by omega⟩ (by omega) dL_isFigure_169 ?_
    rw [et]
    refine e_istore dL_isFigure_170 rfl ?_
    refine e_iload dL_isFigure_172 rfl ?_
    refine e_iconst dL_isFigure_174 ?_
    refine e_iadd dL_isFigure_175 ?_
    refine e_aload_n dL_isFigure_176 rfl ?_
    refine e_getf fL_71 W.obj rfl dL_isFigure_177 ?_
    refine e_irem ⟨by omega, by omega⟩ ⟨by omega, by omega⟩ (by omega) dL_isFigure_180 ?_
    rw [et2]
    refine e_istore dL_isFigure_181 rfl ?_
    refine e_aload_n dL_isFigure_183 rfl ?_
    refine e_getf fL_71 W.obj rfl dL_isFigure_184 ?_
    refine e_iconst dL_isFigure_187 ?_
    refine e_icmp_le (tgt := 242) ⟨by omega, by omega⟩ ⟨by omega, by omega⟩ dL_isFigure_188 rfl (fun c_188 => ?_) (fun c_188 => ?_)
    · refine e_iload_n dL_isFigure_242 rfl ?_
      refine e_aload_n dL_isFigure_243 rfl ?_
      refine e_getf fL_32 W.obj rfl dL_isFigure_244 ?_
      refine e_iload dL_isFigure_247 rfl ?_
      refine e_iaE W.fx (by omega) rfl ek.1 dL_isFigure_249 ?_
      refine e_aload_n dL_isFigure_250 rfl ?_
      refine e_getf fL_35 W.obj rfl dL_isFigure_251 ?_
      refine e_iload dL_isFigure_254 rfl ?_
      refine e_iaE W.fy (by omega) rfl ea.2 dL_isFigure_256 ?_
      refine e_imul dL_isFigure_257 ?_
      refine e_aload_n dL_isFigure_258 rfl ?_
      refine e_getf fL_35 W.obj rfl dL_isFigure_259 ?_
      refine e_iload dL_isFigure_262 rfl ?_
      refine e_iaE W.fy (by omega) rfl ek.2 dL_isFigure_264 ?_
      refine e_aload_n dL_isFigure_265 rfl ?_
      refine e_getf fL_32 W.obj rfl dL_isFigure_266 ?_
      refine e_iload dL_isFigure_269 rfl ?_
      refine e_iaE W.fx (by omega) rfl ea.1 dL_isFigure_271 ?_
      refine e_imul dL_isFigure_272 ?_
      refine e_isub dL_isFigure_273 ?_
      refine e_iadd dL_isFigure_274 ?_
      refine e_istore_n dL_isFigure_275 rfl ?_
      refine e_iload_n dL_isFigure_276 rfl ?_
      refine e_aload_n dL_isFigure_277 rfl ?_
      refine e_getf fL_32 W.obj rfl dL_isFigure_278 ?_
      refine e_iload dL_isFigure_281 rfl ?_
      refine e_iaE W.fx (by omega) rfl ea.1 dL_isFigure_283 ?_
      refine e_aload_n dL_isFigure_284 rfl ?_
      refine e_getf fL_32 W.obj rfl dL_isFigure_285 ?_
      refine e_iload dL_isFigure_288 rfl ?_
      refine e_iaE W.fx (by omega) rfl ek.1 dL_isFigure_290 ?_
      refine e_isub dL_isFigure_291 ?_
      refine e_aload_n dL_isFigure_292 rfl ?_
      refine e_getf fL_35 W.obj rfl dL_isFigure_293 ?_
      refine e_iload dL_isFigure_296 rfl ?_
      refine e_iaE W.fy (by omega) rfl ea.2 dL_isFigure_298 ?_
      refine e_aload_n dL_isFigure_299 rfl ?_
      refine e_getf fL_35 W.obj rfl dL_isFigure_300 ?_
      refine e_iload dL_isFigure_303 rfl ?_
      refine e_iaE W.fy (by omega) rfl ek.2 dL_isFigure_305 ?_
      refine e_isub dL_isFigure_306 ?_
      refine e_pS qcL_81 (L_common ⟨by omega, by omega⟩ ⟨by omega, by omega⟩) rfl rfl rfl rfl (by omega) dL_isFigure_307 ?_
      refine e_iadd dL_isFigure_310 ?_
      refine e_istore_n dL_isFigure_311 rfl ?_
      refine e_aload_n dL_isFigure_312 rfl ?_
      refine e_getf fL_10 W.obj rfl dL_isFigure_313 ?_
      refine e_aload_n dL_isFigure_316 rfl ?_
      refine e_getf fL_32 W.obj rfl dL_isFigure_317 ?_
      refine e_iload dL_isFigure_320 rfl ?_
      refine e_iaE W.fx (by omega) rfl ek.1 dL_isFigure_322 ?_
      refine e_aload_n dL_isFigure_323 rfl ?_
      refine e_getf fL_35 W.obj rfl dL_isFigure_324 ?_
      refine e_iload dL_isFigure_327 rfl ?_
      refine e_iaE W.fy (by omega) rfl ek.2 dL_isFigure_329 ?_
      refine e_hs W qcL_85 rfl (fun _ _ _ _ _ _ _ _ _ X => D_lies X ⟨by omega, by omega⟩ ⟨by omega, by omega⟩) rfl rfl rfl rfl (by omega) dL_isFigure_330 (fun h W => ?_)
      rw [hz]
      refine e_if_eq (tgt := 338) r32_0 dL_isFigure_333 rfl (fun _ => ?_) (fun c => absurd rfl c)
      refine e_iinc dL_isFigure_338 rfl ?_
      refine e_goto (tgt := 152) dL_isFigure_341 rfl ?_
      exact e_loc [(4, .int (iN ((k9 + 1 : Nat) : Int))), (3, .int (iN (ckN F F.length))), (2, .int (iN (sumN (fun i => (gsE F i : Int)) (k9 + 1)))), (1, .int (iN (sumN (daT F) (k9 + 1)))), (0, .ref l)] ⟨rfl, rfl, rfl, rfl, rfl, trivial⟩ (ih _ h W (by omega) (by omega))
    · refine e_aload_n dL_isFigure_191 rfl ?_
      refine e_getf fL_32 W.obj rfl dL_isFigure_192 ?_
      refine e_iload dL_isFigure_195 rfl ?_
      refine e_iaE W.fx (by omega) rfl ek.1 dL_isFigure_197 ?_
      refine e_aload_n dL_isFigure_198 rfl ?_
      refine e_getf fL_35 W.obj rfl dL_isFigure_199 ?_
      refine e_iload dL_isFigure_202 rfl ?_
      refine e_iaE W.fy (by omega) rfl ek.2 dL_isFigure_204 ?_
      refine e_aload_n dL_isFigure_205 rfl ?_
      refine e_getf fL_32 W.obj rfl dL_isFigure_206 ?_
      refine e_iload dL_isFigure_209 rfl ?_
      refine e_iaE W.fx (by omega) rfl ea.1 dL_isFigure_211 ?_
      refine e_aload_n dL_isFigure_212 rfl ?_
      refine e_getf fL_35 W.obj rfl dL_isFigure_213 ?_
      refine e_iload dL_isFigure_216 rfl ?_
      refine e_iaE W.fy (by omega) rfl ea.2 dL_isFigure_218 ?_
      refine e_aload_n dL_isFigure_219 rfl ?_
      refine e_getf fL_32 W.obj rfl dL_isFigure_220 ?_
      refine e_iload dL_isFigure_223 rfl ?_
      refine e_iaE W.fx (by omega) rfl eb.1 dL_isFigure_225 ?_
      refine e_aload_n dL_isFigure_226 rfl ?_
      refine e_getf fL_35 W.obj rfl dL_isFigure_227 ?_
      refine e_iload dL_isFigure_230 rfl ?_
      refine e_iaE W.fy (by omega) rfl eb.2 dL_isFigure_232 ?_
      refine e_pS qcL_77 (L_turn bk.1 bk.2 ba.1 ba.2 bb.1 bb.2) rfl rfl rfl rfl (by omega) dL_isFigure_233 ?_
      rw [sg_1 (hf.2.2.2.1 (by omega) k9 hk9)]
      refine e_iconst dL_isFigure_236 ?_
      refine e_same_eq (tgt := 242) dL_isFigure_237 rfl ?_
      refine e_iload_n dL_isFigure_242 rfl ?_
      refine e_aload_n dL_isFigure_243 rfl ?_
      refine e_getf fL_32 W.obj rfl dL_isFigure_244 ?_
      refine e_iload dL_isFigure_247 rfl ?_
      refine e_iaE W.fx (by omega) rfl ek.1 dL_isFigure_249 ?_
      refine e_aload_n dL_isFigure_250 rfl ?_
      refine e_getf fL_35 W.obj rfl dL_isFigure_251 ?_
      refine e_iload dL_isFigure_254 rfl ?_
      refine e_iaE W.fy (by omega) rfl ea.2 dL_isFigure_256 ?_
      refine e_imul dL_isFigure_257 ?_
      refine e_aload_n dL_isFigure_258 rfl ?_
      refine e_getf fL_35 W.obj rfl dL_isFigure_259 ?_
      refine e_iload dL_isFigure_262 rfl ?_
      refine e_iaE W.fy (by omega) rfl ek.2 dL_isFigure_264 ?_
      refine e_aload_n dL_isFigure_265 rfl ?_
      refine e_getf fL_32 W.obj rfl dL_isFigure_266 ?_
      refine e_iload dL_isFigure_269 rfl ?_
      refine e_iaE W.fx (by omega) rfl ea.1 dL_isFigure_271 ?_
      refine e_imul dL_isFigure_272 ?_
      refine e_isub dL_isFigure_273 ?_
      refine e_iadd dL_isFigure_274 ?_
      refine e_istore_n dL_isFigure_275 rfl ?_
      refine e_iload_n dL_isFigure_276 rfl ?_
      refine e_aload_n dL_isFigure_277 rfl ?_
      refine e_getf fL_32 W.obj rfl dL_isFigure_278 ?_
      refine e_iload dL_isFigure_281 rfl ?_
      refine e_iaE W.fx (by omega) rfl ea.1 dL_isFigure_283 ?_
      refine e_aload_n dL_isFigure_284 rfl ?_
      refine e_getf fL_32 W.obj rfl dL_isFigure_285 ?_
      refine e_iload dL_isFigure_288 rfl ?_
      refine e_iaE W.fx (by omega) rfl ek.1 dL_isFigure_290 ?_
      refine e_isub dL_isFigure_291 ?_
      refine e_aload_n dL_isFigure_292 rfl ?_
      refine e_getf fL_35 W.obj rfl dL_isFigure_293 ?_
      refine e_iload dL_isFigure_296 rfl ?_
      refine e_iaE W.fy (by omega) rfl ea.2 dL_isFigure_298 ?_
      refine e_aload_n dL_isFigure_299 rfl ?_
      refine e_getf fL_35 W.obj rfl dL_isFigure_300 ?_
      refine e_iload dL_isFigure_303 rfl ?_
      refine e_iaE W.fy (by omega) rfl ek.2 dL_isFigure_305 ?_
      refine e_isub dL_isFigure_306 ?_
      refine e_pS qcL_81 (L_common ⟨by omega, by omega⟩ ⟨by omega, by omega⟩) rfl rfl rfl rfl (by omega) dL_isFigure_307 ?_
      refine e_iadd dL_isFigure_310 ?_
      refine e_istore_n dL_isFigure_311 rfl ?_
      refine e_aload_n dL_isFigure_312 rfl ?_
      refine e_getf fL_10 W.obj rfl dL_isFigure_313 ?_
      refine e_aload_n dL_isFigure_316 rfl ?_
      refine e_getf fL_32 W.obj rfl dL_isFigure_317 ?_
      refine e_iload dL_isFigure_320 rfl ?_
      refine e_iaE W.fx (by omega) rfl ek.1 dL_isFigure_322 ?_
      refine e_aload_n dL_isFigure_323 rfl ?_
      refine e_getf fL_35 W.obj rfl dL_isFigure_324 ?_
      refine e_iload dL_isFigure_327 rfl ?_
      refine e_iaE W.fy (by omega) rfl ek.2 dL_isFigure_329 ?_
      refine e_hs W qcL_85 rfl (fun _ _ _ _ _ _ _ _ _ X => D_lies X ⟨by omega, by omega⟩ ⟨by omega, by omega⟩) rfl rfl rfl rfl (by omega) dL_isFigure_330 (fun h W => ?_)
      rw [hz]
      refine e_if_eq (tgt := 338) r32_0 dL_isFigure_333 rfl (fun _ => ?_) (fun c => absurd rfl c)
      refine e_iinc dL_isFigure_338 rfl ?_
      refine e_goto (tgt := 152) dL_isFigure_341 rfl ?_
      exact e_loc [(4, .int (iN ((k9 + 1 : Nat) : Int))), (3, .int (iN (ckN F F.length))), (2, .int (iN (sumN (fun i => (gsE F i : Int)) (k9 + 1)))), (1, .int (iN (sumN (daT F) (k9 + 1)))), (0, .ref l)] ⟨rfl, rfl, rfl, rfl, rfl, trivial⟩ (ih _ h W (by omega) (by omega))
set_option maxRecDepth 20000 in
theorem if_end (hf : figP F) (hx : ∀ i, i < F.length → FX i = pX F i ∧ FY i = pY F i) (k : Nat) (h : g_hp) (W : lwW G x pt sd (F.length : Int) HP XS YS GX GY FX FY P E S b P2 E2 S2 F l h) (hk : k ≤ 1 + 3 * F.length) : Ev (g_B G mL_isFigure 200 (6 * 200) (zQ (fun v h1 => v = .int (iN 1) ∧ ∃ FX FY, lwW G x pt sd (F.length : Int) HP XS YS GX GY FX FY P E S b P2 E2 S2 F l h1 ∧ ∀ i, i < F.length → FX i = pX F i ∧ FY i = pY F i))) k (6 * k) none h 344 [(3, .int (iN (ckN F F.length))), (2, .int (iN (srd F))), (1, .int (iN (da F))), (0, .ref l)] [] := by
  have hl := hf.1
  have hd := da_bdS hf.2.1 hl.2
  have hs : 0 ≤ srd F ∧ srd F ≤ 800 * (F.length : Nat) := srd_bdS hf.2.1 F.length (Nat.le_refl _)
  have ke := k_edge_L hl.1
  have rd : r32 (da F) := ⟨by omega, by omega⟩
  have hr : r32 (srd F) := ⟨by omega, by omega⟩
  have two : ∀ (k : Nat) (h : g_hp), lwW G x pt sd (F.length : Int) HP XS YS GX GY FX FY P E S b P2 E2 S2 F l h → k ≤ 1 + 3 * F.length → Ev (g_B G mL_isFigure 200 (6 * 200) (zQ (fun v h1 => v = .int (iN 1) ∧ ∃ FX FY, lwW G x pt sd (F.length : Int) HP XS YS GX GY FX FY P E S b P2 E2 S2 F l h1 ∧ ∀ i, i < F.length → FX i = pX F i ∧ FY i = pY F i))) k (6 * k) none h 368 [(3, .int (iN (ckN F F.length))), (2, .int (iN (edL9 F))), (1, .int (iN (da F))), (0, .ref l)] [] := by
    intro k h W hk
    refine e_aload_n dL_isFigure_368 rfl ?_
    refine e_getf fL_10 W.obj rfl dL_isFigure_369 ?_
    refine e_hs W qcL_88 rfl (fun _ _ _ _ _ _ _ _ _ X => D_area X) rfl rfl rfl rfl (by omega) dL_isFigure_372 (fun h W => ?_)
    refine e_iload_n dL_isFigure_375 rfl ?_
    refine e_same_ne (tgt := 401) dL_isFigure_376 rfl ?_
    refine e_aload_n dL_isFigure_379 rfl ?_
    refine e_getf fL_10 W.obj rfl dL_isFigure_380 ?_
    refine e_hs W qcL_91 rfl (fun _ _ _ _ _ _ _ _ _ X => D_edge X) rfl rfl rfl rfl (by omega) dL_isFigure_383 (fun h W => ?_)
    rw [ke]
    refine e_iload_n dL_isFigure_386 rfl ?_
    refine e_same_ne (tgt := 401) dL_isFigure_387 rfl ?_
    refine e_aload_n dL_isFigure_390 rfl ?_
    refine e_getf fL_10 W.obj rfl dL_isFigure_391 ?_
    refine e_hs W qcL_94 rfl (fun _ _ _ _ _ _ _ _ _ X => D_checksum X) rfl rfl rfl rfl (by omega) dL_isFigure_394 (fun h W => ?_)
    refine e_iload_n dL_isFigure_397 rfl ?_
    refine e_same_eq (tgt := 403) dL_isFigure_398 rfl ?_
    refine e_aload_n dL_isFigure_403 rfl ?_
    refine e_getf fL_71 W.obj rfl dL_isFigure_404 ?_
    refine e_iconst dL_isFigure_407 ?_
    refine e_icmp_ge (tgt := 433) ⟨by omega, by omega⟩ ⟨by omega, by omega⟩ dL_isFigure_408 rfl (fun c_408 => ?_) (fun c_408 => ?_)
    · refine e_iload_n dL_isFigure_433 rfl ?_
      refine e_iconst dL_isFigure_434 ?_
      refine e_aload_n dL_isFigure_435 rfl ?_
      refine e_getf fL_10 W.obj rfl dL_isFigure_436 ?_
      refine e_hs W qcL_97 rfl (fun _ _ _ _ _ _ _ _ _ X => D_inner X) rfl rfl rfl rfl (by omega) dL_isFigure_439 (fun h W => ?_)
      refine e_imul dL_isFigure_442 ?_
      refine e_iload_n dL_isFigure_443 rfl ?_
      refine e_iadd dL_isFigure_444 ?_
      refine e_iconst dL_isFigure_445 ?_
      refine e_isub dL_isFigure_446 ?_
      have e9 : (2 * pin F + edL9 F - 2) = da F := by
        have e8 := (hf.2.2.2.2.2.2 (by omega)).1.1
        unfold edL9
        rw [if_neg (by omega), if_neg (by omega)]
        omega
      rw [e9]
      refine e_same_ne (tgt := 462) dL_isFigure_447 rfl ?_
      refine e_aload_n dL_isFigure_450 rfl ?_
      refine e_iload_n dL_isFigure_451 rfl ?_
      refine e_ow W qcL_100 rfl (L_isWide W rfl (by omega) hf.2.1 hx (hf.2.2.2.2.2.2 (by omega)).1.2 rd (by omega) (hf.2.2.2.2.2.2 (by omega)).2.1 (hf.2.2.2.2.2.2 (by omega)).2.2.1 (hf.2.2.2.2.2.2 (by omega)).2.2.2.1 (hf.2.2.2.2.2.2 (by omega)).2.2.2.2.choose_spec.1 (hf.2.2.2.2.2.2 (by omega)).2.2.2.2.choose_spec.2) rfl rfl rfl rfl (by omega) dL_isFigure_452 (fun h v9 q9 => ?_)
      obtain ⟨rfl, W⟩ := q9
      refine e_if_eq (tgt := 462) ⟨by omega, by omega⟩ dL_isFigure_455 rfl (fun c => absurd c (by decide)) (fun _ => ?_)
      refine e_iconst dL_isFigure_458 ?_
      refine e_goto (tgt := 463) dL_isFigure_459 rfl ?_
      refine e_zret rfl (Or.inr rfl) dL_isFigure_463 (by omega) (by omega) ?_
      exact ⟨rfl, _, rfl, rfl, FX, FY, W, hx⟩
    · refine e_iload_n dL_isFigure_411 rfl ?_
      refine e_if_ne (tgt := 429) rd dL_isFigure_412 rfl (fun c => absurd (hf.2.2.2.2.2.1 (by omega)) c) (fun _ => ?_)
      refine e_aload_n dL_isFigure_415 rfl ?_
      refine e_getf fL_10 W.obj rfl dL_isFigure_416 ?_
      refine e_hs W qcL_97 rfl (fun _ _ _ _ _ _ _ _ _ X => D_inner X) rfl rfl rfl rfl (by omega) dL_isFigure_419 (fun h W => ?_)
      rw [show pin F = 0 from if_pos (by omega)]
      refine e_if_ne (tgt := 429) r32_0 dL_isFigure_422 rfl (fun c => absurd rfl c) (fun _ => ?_)
      refine e_iconst dL_isFigure_425 ?_
      refine e_goto (tgt := 463) dL_isFigure_426 rfl ?_
      refine e_zret rfl (Or.inr rfl) dL_isFigure_463 (by omega) (by omega) ?_
      exact ⟨rfl, _, rfl, rfl, FX, FY, W, hx⟩
  refine e_aload_n dL_isFigure_344 rfl ?_
  refine e_getf fL_71 W.obj rfl dL_isFigure_345 ?_
  refine e_iconst dL_isFigure_348 ?_
  refine e_icmp_ne (tgt := 354) ⟨by omega, by omega⟩ ⟨by omega, by omega⟩ dL_isFigure_349 rfl (fun c_349 => ?_) (fun c_349 => ?_)
  · refine e_aload_n dL_isFigure_354 rfl ?_
    refine e_getf fL_71 W.obj rfl dL_isFigure_355 ?_
    refine e_iconst dL_isFigure_358 ?_
    refine e_icmp_ne (tgt := 368) ⟨by omega, by omega⟩ ⟨by omega, by omega⟩ dL_isFigure_359 rfl (fun c_359 => ?_) (fun c_359 => ?_)
    · have e9 : edL9 F = srd F := by
        unfold edL9
        rw [if_neg (by omega), if_neg (by omega)]
      refine e_loc [(3, .int (iN (ckN F F.length))), (2, .int (iN (edL9 F))), (1, .int (iN (da F))), (0, .ref l)] ⟨rfl, ?_, rfl, rfl, trivial⟩ (two k h W hk)
      rw [e9]
      rfl
    · refine e_iconst dL_isFigure_362 ?_
      refine e_iload_n dL_isFigure_363 rfl ?_
      refine e_iconst dL_isFigure_364 ?_
      refine e_idiv ⟨by omega, by omega⟩ ⟨by omega, by omega⟩ (by omega) dL_isFigure_365 ?_
      refine e_iadd dL_isFigure_366 ?_
      refine e_istore_n dL_isFigure_367 rfl ?_
      have e9 : edL9 F = 1 + (srd F).tdiv 2 := by
        unfold edL9
        rw [if_neg (by omega), if_pos (by omega)]
      refine e_loc [(3, .int (iN (ckN F F.length))), (2, .int (iN (edL9 F))), (1, .int (iN (da F))), (0, .ref l)] ⟨rfl, ?_, rfl, rfl, trivial⟩ (two k h W hk)
      rw [e9]
      rfl
  · refine e_iconst dL_isFigure_352 ?_
    refine e_istore_n dL_isFigure_353 rfl ?_
    refine e_aload_n dL_isFigure_354 rfl ?_
    refine e_getf fL_71 W.obj rfl dL_isFigure_355 ?_
    refine e_iconst dL_isFigure_358 ?_
    refine e_icmp_ne (tgt := 368) ⟨by omega, by omega⟩ ⟨by omega, by omega⟩ dL_isFigure_359 rfl (fun c_359 => ?_) (fun c_359 => ?_)
    · have e9 : edL9 F = 1 := if_pos (by omega)
      refine e_loc [(3, .int (iN (ckN F F.length))), (2, .int (iN (edL9 F))), (1, .int (iN (da F))), (0, .ref l)] ⟨rfl, ?_, rfl, rfl, trivial⟩ (two k h W hk)
      rw [e9]
      rfl
    · refine e_iconst dL_isFigure_362 ?_
      refine e_iload_n dL_isFigure_363 rfl ?_
      refine e_iconst dL_isFigure_364 ?_
      refine e_idiv ⟨by omega, by omega⟩ ⟨by omega, by omega⟩ (by omega) dL_isFigure_365 ?_
      refine e_iadd dL_isFigure_366 ?_
      refine e_istore_n dL_isFigure_367 rfl ?_
      exact absurd c_359 (by omega)
set_option maxRecDepth 20000 in
theorem L_isFigure (W : lwW G x pt sd cr HP XS YS GX GY FX FY P E S b P2 E2 S2 F l h) (hf : figP F) : Run G mL_isFigure [.ref l] none h 200 (6 * 200) (zQ (fun v h1 => v = .int (iN 1) ∧ ∃ FX FY, lwW G x pt sd (F.length : Int) HP XS YS GX GY FX FY P E S b P2 E2 S2 F l h1 ∧ ∀ i, i < F.length → FX i = pX F i ∧ FY i = pY F i)) := by
  have hl := hf.1
  refine run_L rfl plL rfl ?_
  refine e_aload_n dL_isFigure_0 rfl ?_
  refine e_aload_n dL_isFigure_1 rfl ?_
  refine e_getf fL_10 W.obj rfl dL_isFigure_2 ?_
  refine e_hs W qcL_68 rfl (fun _ _ _ _ _ _ _ _ _ X => D_corners X) rfl rfl rfl rfl (by omega) dL_isFigure_5 (fun h W => ?_)
  refine e_putf pfL_71 W.obj rfl rfl rfl dL_isFigure_8 ?_
  replace W := W.w_cr (F.length : Int)
  refine (show Ev _ _ _ _ (g_up h l (.inr (5, [.int (iN x), .ref (l + 1), .ref (l + 97), .ref (l + 98), .ref (l + 99), .ref (l + 100), .ref (l + 101), .ref (l + 102), .ref (l + 103), .int (iN pt), .int (iN sd), .int (iN (F.length : Int))]))) _ _ _ from ?_)
  generalize g_up h l _ = h at W ⊢
  refine e_iconst dL_isFigure_11 ?_
  refine e_istore_n dL_isFigure_12 rfl ?_
  refine e_iconst dL_isFigure_13 ?_
  refine e_istore_n dL_isFigure_14 rfl ?_
  refine e_bipush dL_isFigure_15 (by decide) ?_
  refine e_istore_n dL_isFigure_17 rfl ?_
  refine e_iconst dL_isFigure_18 ?_
  refine e_istore dL_isFigure_19 rfl ?_
  refine e_loc [(4, .int (iN ((0 : Nat) : Int))), (3, .int (iN (ckN F (0)))), (2, .int (iN 0)), (1, .int (iN 0)), (0, .ref l)] ⟨rfl, rfl, rfl, rfl, rfl, trivial⟩ ?_
  refine if_fill hf (fun k h FX FY W hx hk => ?_) F.length 0 _ h FX FY W (fun i hi => absurd hi (Nat.not_lt_zero _)) (Nat.zero_add _) (by omega)
  refine e_iconst dL_isFigure_149 ?_
  refine e_istore dL_isFigure_150 rfl ?_
  refine e_loc [(4, .int (iN ((0 : Nat) : Int))), (3, .int (iN (ckN F F.length))), (2, .int (iN (sumN (fun i => (gsE F i : Int)) (0)))), (1, .int (iN (sumN (daT F) (0)))), (0, .ref l)] ⟨rfl, rfl, rfl, rfl, rfl, trivial⟩ ?_
  exact if_round hf (fun k h W hk => if_end hf hx k h W hk) hx F.length 0 k h W (Nat.zero_add _) (by omega)
end LAW5
