/-! The law: lines; what is restored -/
def lnF (E : PL) : Prop := (∀ k j : Nat, k + 1 + j < E.length / 2 → lmE E k (k + 1 + j) → k_crossingAt E ((coN E k + ciN E k j : Nat) : Int) = (0, ((100 * k + (k + 1 + j) : Nat) : Int)) ∧ lmE E (k + 1 + j) k) ∧ ∀ k : Nat, k < E.length / 2 → lmE E k k
def okE (E : PL) : Prop := ∀ i, i < E.length → (-10 ≤ pX E i ∧ pX E i ≤ 10) ∧ (-10 ≤ pY E i ∧ pY E i ≤ 10)
theorem okE_app {E : PL} {x y : Int} (h : okE E) (hx : -10 ≤ x ∧ x ≤ 10) (hy : -10 ≤ y ∧ y ≤ 10) : okE (E ++ [(x, y, 0)]) := fun i hi => by
  rw [List.length_append, List.length_singleton] at hi
  rw [← app_X, ← app_Y]
  by_cases c : i = E.length
  · subst c
    rw [uI_s, uI_s]
    exact ⟨hx, hy⟩
  · rw [uI_n _ _ c, uI_n _ _ c]
    exact h i (by omega)
theorem ciN_le9 (E : PL) (l : Nat) : ∀ c, ciN E l c ≤ c
  | 0 => Nat.le_refl _
  | c + 1 => by
    have h := ciN_le9 E l c
    unfold ciN
    split <;> omega
theorem coN_le9 (E : PL) : ∀ n, coN E n ≤ n * E.length
  | 0 => Nat.zero_le _
  | n + 1 => by
    have h := coN_le9 E n
    have h2 := ciN_le9 E n (E.length / 2 - (n + 1))
    show coN E n + ciN E n (E.length / 2 - (n + 1)) ≤ _
    rw [Nat.add_mul, Nat.one_mul]
    omega
section LAW15
variable {G : g_X} {x pt sd cr : Int} {HP XS YS GX GY FX FY : Nat → Int} {P E : PL} {S : Nat → PL} {b : Int} {P2 E2 : PL} {S2 : Nat → PL} {F : PL} {l : Nat} {h : g_hp} {fr9 wd : Int} {n9 : Nat}
set_option maxRecDepth 20000 in
theorem ln_add (hn9 : 2 ≤ n9 ∧ n9 ≤ 11) (hw : 1 ≤ wd ∧ wd ≤ 6) (hfr : 0 ≤ fr9 ∧ fr9 ≤ 100) (kk : ∀ (x : Int) (E : PL) (k : Nat) (h : g_hp), lwW G x pt sd cr HP XS YS GX GY FX FY P E S b P2 E2 S2 F l h → E.length = 2 * n9 → okE E → k ≤ 20 → Ev (g_B G mL_areLines 400 (6 * 400) (zQ (fun v h1 => v = .int (iN 1) ∧ ∃ x E, lwW G x pt sd cr HP XS YS GX GY FX FY P E S b P2 E2 S2 F l h1))) k (6 * k) none h 99 [(2, .int (iN (n9 : Int))), (1, .int (iN fr9)), (0, .ref l)] []) : ∀ (n k9 : Nat) (x : Int) (E : PL) (k : Nat) (h : g_hp), lwW G x pt sd cr HP XS YS GX GY FX FY P E S b P2 E2 S2 F l h → E.length = 2 * k9 → okE E → k9 + n = n9 → k ≤ 1 + k9 → Ev (g_B G mL_areLines 400 (6 * 400) (zQ (fun v h1 => v = .int (iN 1) ∧ ∃ x E, lwW G x pt sd cr HP XS YS GX GY FX FY P E S b P2 E2 S2 F l h1))) k (6 * k) none h 29 [(4, .int (iN ((k9 : Nat) : Int))), (3, .int (iN wd)), (2, .int (iN (n9 : Int))), (1, .int (iN fr9)), (0, .ref l)] []
  | 0, k9, x, E, k, h, W, hE, ho, e, hk => by
    refine e_iload dL_areLines_29 rfl ?_
    refine e_iload_n dL_areLines_31 rfl ?_
    refine e_icmp_ge (tgt := 99) ⟨by omega, by omega⟩ ⟨by omega, by omega⟩ dL_areLines_32 rfl (fun c_9 => ?_) (fun c_9 => absurd (by omega) c_9)
    exact e_loc [(2, .int (iN (n9 : Int))), (1, .int (iN fr9)), (0, .ref l)] ⟨rfl, rfl, rfl, trivial⟩ (kk x E k h W (by omega) ho (by omega))
  | n + 1, k9, x, E, k, h, W, hE, ho, e, hk => by
    have ih := ln_add hn9 hw hfr kk n (k9 + 1)
    have eh : E.length / 2 = k9 := by omega
    refine e_iload dL_areLines_29 rfl ?_
    refine e_iload_n dL_areLines_31 rfl ?_
    refine e_icmp_ge (tgt := 99) ⟨by omega, by omega⟩ ⟨by omega, by omega⟩ dL_areLines_32 rfl (fun c_9 => absurd c_9 (by omega)) (fun c_9 => ?_)
    refine e_aload_n dL_areLines_35 rfl ?_
    refine e_getf fL_10 W.obj rfl dL_areLines_36 ?_
    refine e_aload_n dL_areLines_39 rfl ?_
    refine e_iconst dL_areLines_40 ?_
    refine e_iload_n dL_areLines_41 rfl ?_
    refine e_imul dL_areLines_42 ?_
    refine e_iconst dL_areLines_43 ?_
    refine e_iadd dL_areLines_44 ?_
    refine e_ow W qcL_54 rfl (L_next W (by omega) (by omega)) rfl rfl rfl rfl (by omega) dL_areLines_45 (fun h v9 q9 => ?_)
    obtain ⟨r1, x2, rfl, r1a, r1b, W⟩ := q9
    refine e_iload_n dL_areLines_48 rfl ?_
    refine e_isub dL_areLines_49 ?_
    refine e_aload_n dL_areLines_50 rfl ?_
    refine e_iconst dL_areLines_51 ?_
    refine e_iload_n dL_areLines_52 rfl ?_
    refine e_imul dL_areLines_53 ?_
    refine e_iconst dL_areLines_54 ?_
    refine e_iadd dL_areLines_55 ?_
    refine e_ow W qcL_54 rfl (L_next W (by omega) (by omega)) rfl rfl rfl rfl (by omega) dL_areLines_56 (fun h v9 q9 => ?_)
    obtain ⟨r2, x2, rfl, r2a, r2b, W⟩ := q9
    refine e_iload_n dL_areLines_59 rfl ?_
    refine e_isub dL_areLines_60 ?_
    refine e_aload_n dL_areLines_61 rfl ?_
    refine e_iconst dL_areLines_62 ?_
    refine e_iload_n dL_areLines_63 rfl ?_
    refine e_imul dL_areLines_64 ?_
    refine e_iconst dL_areLines_65 ?_
    refine e_iadd dL_areLines_66 ?_
    refine e_ow W qcL_54 rfl (L_next W (by omega) (by omega)) rfl rfl rfl rfl (by omega) dL_areLines_67 (fun h v9 q9 => ?_)
    obtain ⟨r3, x2, rfl, r3a, r3b, W⟩ := q9
    refine e_iload_n dL_areLines_70 rfl ?_
    refine e_isub dL_areLines_71 ?_
    refine e_aload_n dL_areLines_72 rfl ?_
    refine e_iconst dL_areLines_73 ?_
    refine e_iload_n dL_areLines_74 rfl ?_
    refine e_imul dL_areLines_75 ?_
    refine e_iconst dL_areLines_76 ?_
    refine e_iadd dL_areLines_77 ?_
    refine e_ow W qcL_54 rfl (L_next W (by omega) (by omega)) rfl rfl rfl rfl (by omega) dL_areLines_78 (fun h v9 q9 => ?_)
    obtain ⟨r4, x2, rfl, r4a, r4b, W⟩ := q9
    refine e_iload_n dL_areLines_81 rfl ?_
    refine e_isub dL_areLines_82 ?_
    refine e_hs W qcL_216 rfl (fun _ _ _ _ _ _ _ _ _ X => D_line X ⟨⟨by omega, by omega, by omega, by omega⟩, ⟨by omega, by omega, by omega, by omega⟩, by omega⟩ (by omega)) rfl rfl rfl rfl (by omega) dL_areLines_83 (fun h W => ?_)
    rw [eh]
    refine e_iload dL_areLines_86 rfl ?_
    refine e_same_eq (tgt := 93) dL_areLines_88 rfl ?_
    refine e_iinc dL_areLines_93 rfl ?_
    refine e_goto (tgt := 29) dL_areLines_96 rfl ?_
    exact e_loc [(4, .int (iN ((k9 + 1 : Nat) : Int))), (3, .int (iN wd)), (2, .int (iN (n9 : Int))), (1, .int (iN fr9)), (0, .ref l)] ⟨rfl, rfl, rfl, rfl, rfl, trivial⟩ (ih _ _ _ h W (by rw [List.length_append, List.length_append, List.length_singleton, List.length_singleton]; omega) (okE_app (okE_app ho ⟨by omega, by omega⟩ ⟨by omega, by omega⟩) ⟨by omega, by omega⟩ ⟨by omega, by omega⟩) (by omega) (by omega))
set_option maxRecDepth 20000 in
theorem ln_inner (hn9 : 2 ≤ n9 ∧ n9 ≤ 11) (hw : 1 ≤ wd ∧ wd ≤ 6) (hfr : 0 ≤ fr9 ∧ fr9 ≤ 100) (hE : E.length = 2 * n9) (hF : lnF E) {k9 k0 : Nat} (hk9 : k9 < n9) (hk0 : k0 ≤ 360) (kk : ∀ (k : Nat) (h : g_hp), lwW G x pt sd cr HP XS YS GX GY FX FY P E S b P2 E2 S2 F l h → k ≤ k0 + 3 * (n9 - (k9 + 1)) → Ev (g_B G mL_areLines 400 (6 * 400) (zQ (fun v h1 => v = .int (iN 1) ∧ ∃ x E, lwW G x pt sd cr HP XS YS GX GY FX FY P E S b P2 E2 S2 F l h1))) k (6 * k) none h 185 [(5, .int (iN (k9 : Int))), (4, .int (iN (coN E (k9 + 1) : Int))), (2, .int (iN (n9 : Int))), (1, .int (iN fr9)), (0, .ref l)] []) : ∀ (n j9 k : Nat) (h : g_hp), lwW G x pt sd cr HP XS YS GX GY FX FY P E S b P2 E2 S2 F l h → k9 + 1 + j9 + n = n9 → k ≤ k0 + 3 * j9 → Ev (g_B G mL_areLines 400 (6 * 400) (zQ (fun v h1 => v = .int (iN 1) ∧ ∃ x E, lwW G x pt sd cr HP XS YS GX GY FX FY P E S b P2 E2 S2 F l h1))) k (6 * k) none h 117 [(6, .int (iN ((k9 + 1 + (j9) : Nat) : Int))), (5, .int (iN (k9 : Int))), (4, .int (iN ((coN E k9 + ciN E k9 (j9) : Nat) : Int))), (2, .int (iN (n9 : Int))), (1, .int (iN fr9)), (0, .ref l)] []
  | 0, j9, k, h, W, e, hk => by
    have ej : j9 = E.length / 2 - (k9 + 1) := by omega
    have ec : coN E k9 + ciN E k9 j9 = coN E (k9 + 1) := by
      rw [ej]
      rfl
    rw [ec]
    refine e_iload dL_areLines_117 rfl ?_
    refine e_iload_n dL_areLines_119 rfl ?_
    refine e_icmp_ge (tgt := 185) ⟨by omega, by omega⟩ ⟨by omega, by omega⟩ dL_areLines_120 rfl (fun c_9 => ?_) (fun c_9 => absurd (by omega) c_9)
    exact e_loc [(5, .int (iN (k9 : Int))), (4, .int (iN (coN E (k9 + 1) : Int))), (2, .int (iN (n9 : Int))), (1, .int (iN fr9)), (0, .ref l)] ⟨rfl, rfl, rfl, rfl, rfl, trivial⟩ (kk k h W (by omega))
  | n + 1, j9, k, h, W, e, hk => by
    have ih := ln_inner hn9 hw hfr hE hF hk9 hk0 kk n (j9 + 1)
    have hlt : k9 + 1 + j9 < E.length / 2 := by omega
    have h1 := hF.1 k9 j9 hlt
    have et : lmE E k9 (k9 + 1 + j9) → ciN E k9 (j9 + 1) = ciN E k9 j9 + 1 := fun w => if_pos w
    have ef : ¬ lmE E k9 (k9 + 1 + j9) → ciN E k9 (j9 + 1) = ciN E k9 j9 := fun w => if_neg w
    have cb := ciN_le9 E k9 j9
    have cb2 : coN E k9 ≤ 11 * 22 := Nat.le_trans (coN_le9 E k9) (Nat.mul_le_mul (by omega) (by omega))
    refine e_iload dL_areLines_117 rfl ?_
    refine e_iload_n dL_areLines_119 rfl ?_
    refine e_icmp_ge (tgt := 185) ⟨by omega, by omega⟩ ⟨by omega, by omega⟩ dL_areLines_120 rfl (fun c_9 => absurd c_9 (by omega)) (fun c_9 => ?_)
    refine e_aload_n dL_areLines_123 rfl ?_
    refine e_getf fL_10 W.obj rfl dL_areLines_124 ?_
    refine e_iload dL_areLines_127 rfl ?_
    refine e_iload dL_areLines_129 rfl ?_
    refine e_hs W qcL_220 rfl (fun _ _ _ _ _ _ _ _ _ X => D_cross X (l := (k9 : Int)) (m := ((k9 + 1 + j9 : Nat) : Int)) ⟨by omega, by omega⟩ ⟨by omega, by omega⟩ ⟨by omega, by omega⟩ ⟨by omega, by omega⟩) rfl rfl rfl rfl (by omega) dL_areLines_131 (fun h W => ?_)
    refine (show Ev _ _ _ _ h _ _ (.int (iN (bP (lmE E k9 (k9 + 1 + j9)))) :: []) from ?_)
    refine e_ifC_ne (tgt := 140) dL_areLines_134 rfl (fun c_134 => ?_) (fun c_134 => ?_)
    · refine e_aload_n dL_areLines_140 rfl ?_
      refine e_getf fL_10 W.obj rfl dL_areLines_141 ?_
      refine e_iload dL_areLines_144 rfl ?_
      refine e_hs W qcL_236 rfl (fun _ _ _ _ _ _ _ _ _ X => D_crossingAt X ⟨by omega, by omega⟩ (h1 c_134).1) rfl rfl rfl rfl (by omega) dL_areLines_146 (fun h W => ?_)
      refine e_bipush dL_areLines_149 (by decide) ?_
      refine e_iload dL_areLines_151 rfl ?_
      refine e_imul dL_areLines_153 ?_
      refine e_iload dL_areLines_154 rfl ?_
      refine e_iadd dL_areLines_156 ?_
      refine (show Ev _ _ _ _ h _ _ (.int (iN ((100 * k9 + (k9 + 1 + j9) : Nat) : Int)) :: .int (iN ((100 * k9 + (k9 + 1 + j9) : Nat) : Int)) :: []) from ?_)
      refine e_same_ne (tgt := 174) dL_areLines_157 rfl ?_
      refine e_aload_n dL_areLines_160 rfl ?_
      refine e_getf fL_10 W.obj rfl dL_areLines_161 ?_
      refine e_iload dL_areLines_164 rfl ?_
      refine e_iload dL_areLines_166 rfl ?_
      refine e_hs W qcL_220 rfl (fun _ _ _ _ _ _ _ _ _ X => D_cross X (l := ((k9 + 1 + j9 : Nat) : Int)) (m := (k9 : Int)) ⟨by omega, by omega⟩ ⟨by omega, by omega⟩ ⟨by omega, by omega⟩ ⟨by omega, by omega⟩) rfl rfl rfl rfl (by omega) dL_areLines_168 (fun h W => ?_)
      refine (show Ev _ _ _ _ h _ _ (.int (iN (bP (lmE E (k9 + 1 + j9) k9))) :: []) from ?_)
      rw [bP_t (h1 c_134).2]
      refine e_if_ne (tgt := 176) ⟨by omega, by omega⟩ dL_areLines_171 rfl (fun _ => ?_) (fun c => absurd (show ¬ (1 : Int) = 0 by decide) c)
      refine e_iinc dL_areLines_176 rfl ?_
      rw [et c_134] at ih
      refine e_iinc dL_areLines_179 rfl ?_
      refine e_goto (tgt := 117) dL_areLines_182 rfl ?_
      exact e_loc [(6, .int (iN ((k9 + 1 + (j9 + 1) : Nat) : Int))), (5, .int (iN (k9 : Int))), (4, .int (iN ((coN E k9 + (ciN E k9 j9 + 1) : Nat) : Int))), (2, .int (iN (n9 : Int))), (1, .int (iN fr9)), (0, .ref l)] ⟨rfl, rfl, rfl, rfl, rfl, rfl, trivial⟩ (ih _ h W (by omega) (by omega))
    · refine e_goto (tgt := 179) dL_areLines_137 rfl ?_
      rw [ef c_134] at ih
      refine e_iinc dL_areLines_179 rfl ?_
      refine e_goto (tgt := 117) dL_areLines_182 rfl ?_
      exact e_loc [(6, .int (iN ((k9 + 1 + (j9 + 1) : Nat) : Int))), (5, .int (iN (k9 : Int))), (4, .int (iN ((coN E k9 + ciN E k9 j9 : Nat) : Int))), (2, .int (iN (n9 : Int))), (1, .int (iN fr9)), (0, .ref l)] ⟨rfl, rfl, rfl, rfl, rfl, rfl, trivial⟩ (ih _ h W (by omega) (by omega))
set_option maxRecDepth 20000 in
theorem ln_outer (hn9 : 2 ≤ n9 ∧ n9 ≤ 11) (hw : 1 ≤ wd ∧ wd ≤ 6) (hfr : 0 ≤ fr9 ∧ fr9 ≤ 100) (hE : E.length = 2 * n9) (hF : lnF E) (kk : ∀ (k : Nat) (h : g_hp), lwW G x pt sd cr HP XS YS GX GY FX FY P E S b P2 E2 S2 F l h → k ≤ 380 → Ev (g_B G mL_areLines 400 (6 * 400) (zQ (fun v h1 => v = .int (iN 1) ∧ ∃ x E, lwW G x pt sd cr HP XS YS GX GY FX FY P E S b P2 E2 S2 F l h1))) k (6 * k) none h 191 [(4, .int (iN (coN E n9 : Int))), (2, .int (iN (n9 : Int))), (1, .int (iN fr9)), (0, .ref l)] []) : ∀ (n k9 k : Nat) (h : g_hp), lwW G x pt sd cr HP XS YS GX GY FX FY P E S b P2 E2 S2 F l h → k9 + n = n9 → k ≤ 20 + 30 * k9 → Ev (g_B G mL_areLines 400 (6 * 400) (zQ (fun v h1 => v = .int (iN 1) ∧ ∃ x E, lwW G x pt sd cr HP XS YS GX GY FX FY P E S b P2 E2 S2 F l h1))) k (6 * k) none h 105 [(5, .int (iN ((k9 : Nat) : Int))), (4, .int (iN (coN E (k9) : Int))), (2, .int (iN (n9 : Int))), (1, .int (iN fr9)), (0, .ref l)] []
  | 0, k9, k, h, W, e, hk => by
    have e9 : k9 = n9 := by omega
    subst e9
    refine e_iload dL_areLines_105 rfl ?_
    refine e_iload_n dL_areLines_107 rfl ?_
    refine e_icmp_ge (tgt := 191) ⟨by omega, by omega⟩ ⟨by omega, by omega⟩ dL_areLines_108 rfl (fun c_9 => ?_) (fun c_9 => absurd (by omega) c_9)
    exact e_loc [(4, .int (iN (coN E k9 : Int))), (2, .int (iN (k9 : Int))), (1, .int (iN fr9)), (0, .ref l)] ⟨rfl, rfl, rfl, rfl, trivial⟩ (kk k h W (by omega))
  | n + 1, k9, k, h, W, e, hk => by
    have ih := ln_outer hn9 hw hfr hE hF kk n (k9 + 1)
    refine e_iload dL_areLines_105 rfl ?_
    refine e_iload_n dL_areLines_107 rfl ?_
    refine e_icmp_ge (tgt := 191) ⟨by omega, by omega⟩ ⟨by omega, by omega⟩ dL_areLines_108 rfl (fun c_9 => absurd c_9 (by omega)) (fun c_9 => ?_)
    refine e_iload dL_areLines_111 rfl ?_
    refine e_iconst dL_areLines_113 ?_
    refine e_iadd dL_areLines_114 ?_
    refine e_istore dL_areLines_115 rfl ?_
    refine e_loc [(6, .int (iN ((k9 + 1 + (0) : Nat) : Int))), (5, .int (iN (k9 : Int))), (4, .int (iN ((coN E k9 + ciN E k9 (0) : Nat) : Int))), (2, .int (iN (n9 : Int))), (1, .int (iN fr9)), (0, .ref l)] ⟨rfl, rfl, rfl, rfl, rfl, rfl, trivial⟩ ?_
    refine ln_inner hn9 hw hfr hE hF (k9 := k9) (k0 := k) (by omega) (by omega) (fun k h W hk => ?_) (n9 - (k9 + 1)) 0 k h W (by omega) (by omega)
    refine e_iinc dL_areLines_185 rfl ?_
    refine e_goto (tgt := 105) dL_areLines_188 rfl ?_
    exact e_loc [(5, .int (iN ((k9 + 1 : Nat) : Int))), (4, .int (iN (coN E (k9 + 1) : Int))), (2, .int (iN (n9 : Int))), (1, .int (iN fr9)), (0, .ref l)] ⟨rfl, rfl, rfl, rfl, rfl, trivial⟩ (ih k h W (by omega) (by omega))
set_option maxRecDepth 20000 in
theorem L_areLines (W : lwW G x pt sd cr HP XS YS GX GY FX FY P E S b P2 E2 S2 F l h) (hEl : E.length ≤ 40) (hF : ∀ E, okE E → lnF E) : Run G mL_areLines [.ref l] none h 400 (6 * 400) (zQ (fun v h1 => v = .int (iN 1) ∧ ∃ x E, lwW G x pt sd cr HP XS YS GX GY FX FY P E S b P2 E2 S2 F l h1)) := by
  refine run_L rfl plL rfl ?_
  refine e_aload_n dL_areLines_0 rfl ?_
  refine e_getf fL_10 W.obj rfl dL_areLines_1 ?_
  refine e_hs W qcL_213 rfl (fun _ _ _ _ _ _ _ _ _ X => D_clearLines X) rfl rfl rfl rfl (by omega) dL_areLines_4 (fun h W => ?_)
  refine e_istore_n dL_areLines_7 rfl ?_
  refine e_iconst dL_areLines_8 ?_
  refine e_aload_n dL_areLines_9 rfl ?_
  refine e_bipush dL_areLines_10 (by decide) ?_
  refine e_ow W qcL_54 rfl (L_next W (by omega) (by omega)) rfl rfl rfl rfl (by omega) dL_areLines_12 (fun h v9 q9 => ?_)
  obtain ⟨r5, x2, rfl, r5a, r5b, W⟩ := q9
  refine e_iadd dL_areLines_15 ?_
  obtain ⟨n9, hn0⟩ : ∃ n9 : Nat, 2 + r5 = (n9 : Int) := ⟨(2 + r5).toNat, by omega⟩
  rw [hn0]
  refine e_istore_n dL_areLines_16 rfl ?_
  refine e_iconst dL_areLines_17 ?_
  refine e_aload_n dL_areLines_18 rfl ?_
  refine e_bipush dL_areLines_19 (by decide) ?_
  refine e_ow W qcL_54 rfl (L_next W (by omega) (by omega)) rfl rfl rfl rfl (by omega) dL_areLines_21 (fun h v9 q9 => ?_)
  obtain ⟨r6, x2, rfl, r6a, r6b, W⟩ := q9
  refine e_iadd dL_areLines_24 ?_
  refine e_istore_n dL_areLines_25 rfl ?_
  refine e_iconst dL_areLines_26 ?_
  refine e_istore dL_areLines_27 rfl ?_
  refine e_loc [(4, .int (iN ((0 : Nat) : Int))), (3, .int (iN (1 + r6))), (2, .int (iN (n9 : Int))), (1, .int (iN ((E.length / 2 : Nat) : Int))), (0, .ref l)] ⟨rfl, rfl, rfl, rfl, rfl, trivial⟩ ?_
  obtain ⟨fr0, hfr0⟩ : ∃ q : Nat, q = E.length / 2 := ⟨_, rfl⟩
  rw [← hfr0]
  refine ln_add ⟨by omega, by omega⟩ ⟨by omega, by omega⟩ ⟨by omega, by omega⟩ (fun x E k h W hE ho hk => ?_) n9 0 _ [] _ h W rfl (fun i hi => absurd hi (Nat.not_lt_zero _)) (Nat.zero_add _) (by omega)
  have hn8 : E.length / 2 = n9 := by omega
  refine e_iconst dL_areLines_99 ?_
  refine e_istore dL_areLines_100 rfl ?_
  refine e_iconst dL_areLines_102 ?_
  refine e_istore dL_areLines_103 rfl ?_
  refine e_loc [(5, .int (iN ((0 : Nat) : Int))), (4, .int (iN (coN E (0) : Int))), (2, .int (iN (n9 : Int))), (1, .int (iN (fr0 : Int))), (0, .ref l)] ⟨rfl, rfl, rfl, rfl, rfl, trivial⟩ ?_
  refine ln_outer (wd := 1) ⟨by omega, by omega⟩ ⟨by omega, by omega⟩ ⟨by omega, by omega⟩ hE (hF E ho) (fun k h W hk => ?_) n9 0 k h W (Nat.zero_add _) (by omega)
  refine e_iload_n dL_areLines_191 rfl ?_
  refine e_if_lt (tgt := 227) ⟨by omega, by omega⟩ dL_areLines_192 rfl (fun c => absurd c (by omega)) (fun _ => ?_)
  refine e_aload_n dL_areLines_195 rfl ?_
  refine e_getf fL_10 W.obj rfl dL_areLines_196 ?_
  refine e_hs W qcL_239 rfl (fun _ _ _ _ _ _ _ _ _ X => D_crossings X) rfl rfl rfl rfl (by omega) dL_areLines_199 (fun h W => ?_)
  rw [hn8]
  refine e_iload dL_areLines_202 rfl ?_
  refine e_same_ne (tgt := 227) dL_areLines_204 rfl ?_
  refine e_aload_n dL_areLines_207 rfl ?_
  refine e_getf fL_10 W.obj rfl dL_areLines_208 ?_
  refine e_iload_n dL_areLines_211 rfl ?_
  refine e_iconst dL_areLines_212 ?_
  refine e_isub dL_areLines_213 ?_
  refine e_iload_n dL_areLines_214 rfl ?_
  refine e_iconst dL_areLines_215 ?_
  refine e_isub dL_areLines_216 ?_
  refine e_hs W qcL_220 rfl (fun _ _ _ _ _ _ _ _ _ X => D_cross X (l := (n9 : Int) - 1) (m := (n9 : Int) - 1) ⟨by omega, by omega⟩ ⟨by omega, by omega⟩ ⟨by omega, by omega⟩ ⟨by omega, by omega⟩) rfl rfl rfl rfl (by omega) dL_areLines_217 (fun h W => ?_)
  rw [bP_t (show lmE E ((n9 : Int) - 1).toNat ((n9 : Int) - 1).toNat from (hF E ho).2 _ (by omega))]
  refine e_if_eq (tgt := 227) ⟨by omega, by omega⟩ dL_areLines_220 rfl (fun c => absurd c (by decide)) (fun _ => ?_)
  refine e_iconst dL_areLines_223 ?_
  refine e_goto (tgt := 228) dL_areLines_224 rfl ?_
  refine e_zret rfl (Or.inr rfl) dL_areLines_228 (by omega) (by omega) ?_
  exact ⟨rfl, _, rfl, rfl, _, _, W⟩
end LAW15
