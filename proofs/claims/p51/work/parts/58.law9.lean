/-! The law: pairs, boxes, fences -/
abbrev Od (P : PL) (a : Int) : PL := putN P a [] P.length
abbrev nC (P : PL) (a : Int) : Nat := cntN P a P.length
abbrev fnc (P : PL) (a : Int) (k : Nat) : Int := fnO (Od P a) k (Od P a).length
abbrev bxw (P : PL) (a : Int) : Int := bnd (Od P a) 1 (Od P a).length - bnd (Od P a) 0 (Od P a).length + bnd (Od P a) 3 (Od P a).length - bnd (Od P a) 2 (Od P a).length
def exB (P : PL) (a : Int) (u : Prop) [Decidable u] (i : Nat) (n : Nat) : I2 := if pM P i = a then exJ P a u i (exI P a u i) n else exI P a u i
def disF (P : PL) (a : Int) (u : Prop) [Decidable u] : Prop := 2 ≤ nC P a → sqd P (exT P a u / 100) (exT P a u % 100) = (exI P a u P.length).2 ∧ (0 ≤ (exI P a u P.length).1 ∧ (exI P a u P.length).1 ≤ 10000 ∧ exT P a u / 100 < P.length ∧ exT P a u % 100 < P.length)
def srtF (P : PL) (a : Int) : Prop := ∀ q, q < nC P a → ∃ i : Nat, i < P.length ∧ pM (Od P a) q = (i : Int) ∧ pM P i = a
def srtG (P : PL) (a : Int) : Prop := ∀ q i j : Nat, q + 1 < nC P a → pM (Od P a) q = (i : Int) → pM (Od P a) (q + 1) = (j : Int) → pX P i ≤ pX P j
def lastF (P : PL) (a : Int) (k : Nat) : Int := if k ≤ 1 then 0 else fnc P a (k - 1)
def fenF (P : PL) (a : Int) : Prop := (0 ≤ bxw P a ∧ bxw P a ≤ 1000) ∧ fnc P a (nC P a) = bxw P a ∧ fnc P a 1 = 0 ∧ ∀ k, 1 ≤ k → k ≤ nC P a → (0 ≤ lastF P a k ∧ lastF P a k ≤ fnc P a k) ∧ fnc P a k ≤ bxw P a
def plcF (P : PL) (a : Int) : Prop := 2 ≤ nC P a → (plN (Od P a) (Od P a).length < nC P a ↔ (exI P a False P.length).2 = 0)
theorem sq_sw (P : PL) (i j : Nat) : (pX P i - pX P j) * (pX P i - pX P j) + (pY P i - pY P j) * (pY P i - pY P j) = sqd P i j := by
  rw [show pX P i - pX P j = -(pX P j - pX P i) by omega, show pY P i - pY P j = -(pY P j - pY P i) by omega, Int.neg_mul_neg, Int.neg_mul_neg]
theorem exB_0 {P : PL} {a : Int} {u : Prop} [Decidable u] {i : Nat} : exB P a u i 0 = exI P a u i := by
  unfold exB
  split <;> rfl
theorem exB_no {P : PL} {a : Int} {u : Prop} [Decidable u] {i n : Nat} (h : ¬ (pM P i = a ∧ pM P (i + 1 + n) = a)) : exB P a u i (n + 1) = exB P a u i n := by
  unfold exB
  by_cases c : pM P i = a
  · rw [if_pos c, if_pos c]
    exact exS_no fun w => h ⟨c, w⟩
  · rw [if_neg c, if_neg c]
theorem exB_yes {P : PL} {a : Int} {u : Prop} [Decidable u] {i n : Nat} (c : pM P i = a) : exB P a u i (n + 1) = exS P a u i (i + 1 + n) (exB P a u i n) := by
  unfold exB
  rw [if_pos c, if_pos c]
  rfl
theorem exB_end {P : PL} {a : Int} {u : Prop} [Decidable u] {i : Nat} : exB P a u i (P.length - (i + 1)) = exI P a u (i + 1) := rfl
theorem exB_ok {P : PL} {a : Int} {u : Prop} [Decidable u] (hp : okL P) (hl : P.length ≤ 60) {i n : Nat} (hi : i + n < P.length) : exOK (exB P a u i n) := by
  unfold exB
  split
  · exact exJ_ok hp hl (by omega) (exI_ok hp hl i (by omega)) n hi
  · exact exI_ok hp hl i (by omega)
theorem okL_of {P : PL} (h : goodP P) : okL P := fun p hp => by
  obtain ⟨i, hi, rfl⟩ := List.getElem_of_mem hp
  have h1 := h.2 i hi
  unfold pX pY pM at h1
  rw [List.getD_eq_getElem?_getD, List.getElem?_eq_getElem hi] at h1
  exact ⟨⟨by have := h1.1; simp only [Option.getD_some] at this; omega, by have := h1.1; simp only [Option.getD_some] at this; omega⟩, ⟨by have := h1.2.1; simp only [Option.getD_some] at this; omega, by have := h1.2.1; simp only [Option.getD_some] at this; omega⟩, by have := h1.2.2; simp only [Option.getD_some] at this; omega, by have := h1.2.2; simp only [Option.getD_some] at this; omega⟩
theorem exQ_F {d b : Int} : exQ False d b ↔ d < b := ⟨fun w => w.elim (fun w => absurd w.1 id) (fun w => w.2), fun w => Or.inr ⟨id, w⟩⟩
theorem exQ_T {d b : Int} : exQ True d b ↔ b < d := ⟨fun w => w.elim (fun w => w.2) (fun w => absurd trivial w.1), fun w => Or.inl ⟨trivial, w⟩⟩
section LAW9
variable {G : g_X} {x pt sd cr : Int} {HP XS YS GX GY FX FY : Nat → Int} {P E : PL} {S : Nat → PL} {b : Int} {P2 E2 : PL} {S2 : Nat → PL} {F : PL} {l : Nat} {h : g_hp}
set_option maxRecDepth 20000 in
theorem ap_far (hg : goodP P) (hp : pt = P.length) {a : Int} (ha : hpOK a) {i9 j9 : Nat} (hi : i9 + 1 + j9 < P.length) {s1 s2 : I2} (h2 : exOK s2) (hj : pM P (i9 + 1 + j9) = a) (kk : Ev (g_B G mL_arePairs 300 (6 * 300) (zQ (fun v h1 => v = .int (iN 1) ∧ ∃ x, lwW G x pt sd cr (pM P) (pX P) (pY P) GX GY FX FY P E S b P2 E2 S2 F l h1))) 0 (6 * 0) none h 201 [(8, .int (iN ((i9 + 1 + j9 : Nat) : Int))), (7, .int (iN ((i9 : Nat) : Int))), (6, .int (iN (exS P a True i9 (i9 + 1 + j9) s2).2)), (5, .int (iN (s1).2)), (4, .int (iN (exS P a True i9 (i9 + 1 + j9) s2).1)), (3, .int (iN (s1).1)), (2, .int (iN (nC P a : Int))), (1, .int (iN a)), (0, .ref l)] []) : Ev (g_B G mL_arePairs 300 (6 * 300) (zQ (fun v h1 => v = .int (iN 1) ∧ ∃ x, lwW G x pt sd cr (pM P) (pX P) (pY P) GX GY FX FY P E S b P2 E2 S2 F l h1))) 0 (6 * 0) none h 172 [(9, .int (iN (sqd P i9 (i9 + 1 + j9)))), (8, .int (iN ((i9 + 1 + j9 : Nat) : Int))), (7, .int (iN ((i9 : Nat) : Int))), (6, .int (iN (s2).2)), (5, .int (iN (s1).2)), (4, .int (iN (s2).1)), (3, .int (iN (s1).1)), (2, .int (iN (nC P a : Int))), (1, .int (iN a)), (0, .ref l)] [] := by
  have hl := hg.1
  have bd := sqd_bd (okL_of hg) (show i9 < P.length by omega) hi
  refine e_iload dL_arePairs_172 rfl ?_
  refine e_if_lt (tgt := 187) ⟨by omega, by omega⟩ dL_arePairs_174 rfl (fun c_174 => ?_) (fun c_174 => ?_)
  · refine e_bipush dL_arePairs_187 (by decide) ?_
    refine e_iload dL_arePairs_189 rfl ?_
    refine e_imul dL_arePairs_191 ?_
    refine e_iload dL_arePairs_192 rfl ?_
    refine e_iadd dL_arePairs_194 ?_
    refine e_istore dL_arePairs_195 rfl ?_
    refine e_iload dL_arePairs_197 rfl ?_
    refine e_istore dL_arePairs_199 rfl ?_
    rw [exS_new hj (Or.inl c_174)] at kk
    exact e_loc [(8, .int (iN ((i9 + 1 + j9 : Nat) : Int))), (7, .int (iN ((i9 : Nat) : Int))), (6, .int (iN (((100 * (i9 : Int) + ((i9 + 1 + j9 : Nat) : Int), sqd P i9 (i9 + 1 + j9)) : I2)).2)), (5, .int (iN (s1).2)), (4, .int (iN (((100 * (i9 : Int) + ((i9 + 1 + j9 : Nat) : Int), sqd P i9 (i9 + 1 + j9)) : I2)).1)), (3, .int (iN (s1).1)), (2, .int (iN (nC P a : Int))), (1, .int (iN a)), (0, .ref l)] ⟨rfl, rfl, rfl, rfl, rfl, rfl, rfl, rfl, rfl, trivial⟩ kk
  · refine e_iload dL_arePairs_177 rfl ?_
    refine e_iload dL_arePairs_179 rfl ?_
    refine e_icmp_gt (tgt := 187) ⟨by omega, by omega⟩ ⟨by omega, by omega⟩ dL_arePairs_181 rfl (fun c_181 => ?_) (fun c_181 => ?_)
    · refine e_bipush dL_arePairs_187 (by decide) ?_
      refine e_iload dL_arePairs_189 rfl ?_
      refine e_imul dL_arePairs_191 ?_
      refine e_iload dL_arePairs_192 rfl ?_
      refine e_iadd dL_arePairs_194 ?_
      refine e_istore dL_arePairs_195 rfl ?_
      refine e_iload dL_arePairs_197 rfl ?_
      refine e_istore dL_arePairs_199 rfl ?_
      rw [exS_new hj (Or.inr (exQ_T.mpr c_181))] at kk
      exact e_loc [(8, .int (iN ((i9 + 1 + j9 : Nat) : Int))), (7, .int (iN ((i9 : Nat) : Int))), (6, .int (iN (((100 * (i9 : Int) + ((i9 + 1 + j9 : Nat) : Int), sqd P i9 (i9 + 1 + j9)) : I2)).2)), (5, .int (iN (s1).2)), (4, .int (iN (((100 * (i9 : Int) + ((i9 + 1 + j9 : Nat) : Int), sqd P i9 (i9 + 1 + j9)) : I2)).1)), (3, .int (iN (s1).1)), (2, .int (iN (nC P a : Int))), (1, .int (iN a)), (0, .ref l)] ⟨rfl, rfl, rfl, rfl, rfl, rfl, rfl, rfl, rfl, trivial⟩ kk
    · refine e_goto (tgt := 201) dL_arePairs_184 rfl ?_
      rw [exS_old c_174 (fun w => c_181 (exQ_T.mp w))] at kk
      exact e_loc [(8, .int (iN ((i9 + 1 + j9 : Nat) : Int))), (7, .int (iN ((i9 : Nat) : Int))), (6, .int (iN (s2).2)), (5, .int (iN (s1).2)), (4, .int (iN (s2).1)), (3, .int (iN (s1).1)), (2, .int (iN (nC P a : Int))), (1, .int (iN a)), (0, .ref l)] ⟨rfl, rfl, rfl, rfl, rfl, rfl, rfl, rfl, rfl, trivial⟩ kk
set_option maxRecDepth 20000 in
theorem ap_near (hg : goodP P) (hp : pt = P.length) {a : Int} (ha : hpOK a) (W : lwW G x pt sd cr (pM P) (pX P) (pY P) GX GY FX FY P E S b P2 E2 S2 F l h) {i9 j9 : Nat} (hi : i9 + 1 + j9 < P.length) {s1 s2 : I2} (h1 : exOK s1) (h2 : exOK s2) (hi9 : pM P i9 = a) (hj : pM P (i9 + 1 + j9) = a) (kk : Ev (g_B G mL_arePairs 300 (6 * 300) (zQ (fun v h1 => v = .int (iN 1) ∧ ∃ x, lwW G x pt sd cr (pM P) (pX P) (pY P) GX GY FX FY P E S b P2 E2 S2 F l h1))) 0 (6 * 0) none h 201 [(8, .int (iN ((i9 + 1 + j9 : Nat) : Int))), (7, .int (iN ((i9 : Nat) : Int))), (6, .int (iN (exS P a True i9 (i9 + 1 + j9) s2).2)), (5, .int (iN (exS P a False i9 (i9 + 1 + j9) s1).2)), (4, .int (iN (exS P a True i9 (i9 + 1 + j9) s2).1)), (3, .int (iN (exS P a False i9 (i9 + 1 + j9) s1).1)), (2, .int (iN (nC P a : Int))), (1, .int (iN a)), (0, .ref l)] []) : Ev (g_B G mL_arePairs 300 (6 * 300) (zQ (fun v h1 => v = .int (iN 1) ∧ ∃ x, lwW G x pt sd cr (pM P) (pX P) (pY P) GX GY FX FY P E S b P2 E2 S2 F l h1))) 0 (6 * 0) none h 83 [(8, .int (iN ((i9 + 1 + j9 : Nat) : Int))), (7, .int (iN ((i9 : Nat) : Int))), (6, .int (iN (s2).2)), (5, .int (iN (s1).2)), (4, .int (iN (s2).1)), (3, .int (iN (s1).1)), (2, .int (iN (nC P a : Int))), (1, .int (iN a)), (0, .ref l)] [] := by
  have hl := hg.1
  have bd := sqd_bd (okL_of hg) (show i9 < P.length by omega) hi
  refine e_aload_n dL_arePairs_83 rfl ?_
  refine e_getf fL_20 W.obj rfl dL_arePairs_84 ?_
  refine e_iload dL_arePairs_87 rfl ?_
  refine e_iaN W.xs (by omega) rfl dL_arePairs_89 ?_
  refine e_aload_n dL_arePairs_90 rfl ?_
  refine e_getf fL_20 W.obj rfl dL_arePairs_91 ?_
  refine e_iload dL_arePairs_94 rfl ?_
  refine e_iaN W.xs (by omega) rfl dL_arePairs_96 ?_
  refine e_isub dL_arePairs_97 ?_
  refine e_aload_n dL_arePairs_98 rfl ?_
  refine e_getf fL_20 W.obj rfl dL_arePairs_99 ?_
  refine e_iload dL_arePairs_102 rfl ?_
  refine e_iaN W.xs (by omega) rfl dL_arePairs_104 ?_
  refine e_aload_n dL_arePairs_105 rfl ?_
  refine e_getf fL_20 W.obj rfl dL_arePairs_106 ?_
  refine e_iload dL_arePairs_109 rfl ?_
  refine e_iaN W.xs (by omega) rfl dL_arePairs_111 ?_
  refine e_isub dL_arePairs_112 ?_
  refine e_imul dL_arePairs_113 ?_
  refine e_aload_n dL_arePairs_114 rfl ?_
  refine e_getf fL_23 W.obj rfl dL_arePairs_115 ?_
  refine e_iload dL_arePairs_118 rfl ?_
  refine e_iaN W.ys (by omega) rfl dL_arePairs_120 ?_
  refine e_aload_n dL_arePairs_121 rfl ?_
  refine e_getf fL_23 W.obj rfl dL_arePairs_122 ?_
  refine e_iload dL_arePairs_125 rfl ?_
  refine e_iaN W.ys (by omega) rfl dL_arePairs_127 ?_
  refine e_isub dL_arePairs_128 ?_
  refine e_aload_n dL_arePairs_129 rfl ?_
  refine e_getf fL_23 W.obj rfl dL_arePairs_130 ?_
  refine e_iload dL_arePairs_133 rfl ?_
  refine e_iaN W.ys (by omega) rfl dL_arePairs_135 ?_
  refine e_aload_n dL_arePairs_136 rfl ?_
  refine e_getf fL_23 W.obj rfl dL_arePairs_137 ?_
  refine e_iload dL_arePairs_140 rfl ?_
  refine e_iaN W.ys (by omega) rfl dL_arePairs_142 ?_
  refine e_isub dL_arePairs_143 ?_
  refine e_imul dL_arePairs_144 ?_
  refine e_iadd dL_arePairs_145 ?_
  rw [sq_sw]
  refine e_istore dL_arePairs_146 rfl ?_
  refine e_iload_n dL_arePairs_148 rfl ?_
  refine e_if_lt (tgt := 159) ⟨by omega, by omega⟩ dL_arePairs_149 rfl (fun c_149 => ?_) (fun c_149 => ?_)
  · refine e_bipush dL_arePairs_159 (by decide) ?_
    refine e_iload dL_arePairs_161 rfl ?_
    refine e_imul dL_arePairs_163 ?_
    refine e_iload dL_arePairs_164 rfl ?_
    refine e_iadd dL_arePairs_166 ?_
    refine e_istore_n dL_arePairs_167 rfl ?_
    refine e_iload dL_arePairs_168 rfl ?_
    refine e_istore dL_arePairs_170 rfl ?_
    rw [exS_new hj (Or.inl c_149)] at kk
    exact e_loc [(9, .int (iN (sqd P i9 (i9 + 1 + j9)))), (8, .int (iN ((i9 + 1 + j9 : Nat) : Int))), (7, .int (iN ((i9 : Nat) : Int))), (6, .int (iN (s2).2)), (5, .int (iN (((100 * (i9 : Int) + ((i9 + 1 + j9 : Nat) : Int), sqd P i9 (i9 + 1 + j9)) : I2)).2)), (4, .int (iN (s2).1)), (3, .int (iN (((100 * (i9 : Int) + ((i9 + 1 + j9 : Nat) : Int), sqd P i9 (i9 + 1 + j9)) : I2)).1)), (2, .int (iN (nC P a : Int))), (1, .int (iN a)), (0, .ref l)] ⟨rfl, rfl, rfl, rfl, rfl, rfl, rfl, rfl, rfl, rfl, trivial⟩ (ap_far hg hp ha hi h2 hj kk)
  · refine e_iload dL_arePairs_152 rfl ?_
    refine e_iload dL_arePairs_154 rfl ?_
    refine e_icmp_ge (tgt := 172) ⟨by omega, by omega⟩ ⟨by omega, by omega⟩ dL_arePairs_156 rfl (fun c_156 => ?_) (fun c_156 => ?_)
    · rw [exS_old c_149 (fun w => absurd (exQ_F.mp w) (by omega))] at kk
      exact e_loc [(9, .int (iN (sqd P i9 (i9 + 1 + j9)))), (8, .int (iN ((i9 + 1 + j9 : Nat) : Int))), (7, .int (iN ((i9 : Nat) : Int))), (6, .int (iN (s2).2)), (5, .int (iN (s1).2)), (4, .int (iN (s2).1)), (3, .int (iN (s1).1)), (2, .int (iN (nC P a : Int))), (1, .int (iN a)), (0, .ref l)] ⟨rfl, rfl, rfl, rfl, rfl, rfl, rfl, rfl, rfl, rfl, trivial⟩ (ap_far hg hp ha hi h2 hj kk)
    · refine e_bipush dL_arePairs_159 (by decide) ?_
      refine e_iload dL_arePairs_161 rfl ?_
      refine e_imul dL_arePairs_163 ?_
      refine e_iload dL_arePairs_164 rfl ?_
      refine e_iadd dL_arePairs_166 ?_
      refine e_istore_n dL_arePairs_167 rfl ?_
      refine e_iload dL_arePairs_168 rfl ?_
      refine e_istore dL_arePairs_170 rfl ?_
      rw [exS_new hj (Or.inr (exQ_F.mpr (by omega)))] at kk
      exact e_loc [(9, .int (iN (sqd P i9 (i9 + 1 + j9)))), (8, .int (iN ((i9 + 1 + j9 : Nat) : Int))), (7, .int (iN ((i9 : Nat) : Int))), (6, .int (iN (s2).2)), (5, .int (iN (((100 * (i9 : Int) + ((i9 + 1 + j9 : Nat) : Int), sqd P i9 (i9 + 1 + j9)) : I2)).2)), (4, .int (iN (s2).1)), (3, .int (iN (((100 * (i9 : Int) + ((i9 + 1 + j9 : Nat) : Int), sqd P i9 (i9 + 1 + j9)) : I2)).1)), (2, .int (iN (nC P a : Int))), (1, .int (iN a)), (0, .ref l)] ⟨rfl, rfl, rfl, rfl, rfl, rfl, rfl, rfl, rfl, rfl, trivial⟩ (ap_far hg hp ha hi h2 hj kk)
set_option maxRecDepth 20000 in
theorem ap_inner (hg : goodP P) (hp : pt = P.length) {a : Int} (ha : hpOK a) (W : lwW G x pt sd cr (pM P) (pX P) (pY P) GX GY FX FY P E S b P2 E2 S2 F l h) {i9 : Nat} (hi : i9 < P.length) (kk : Ev (g_B G mL_arePairs 300 (6 * 300) (zQ (fun v h1 => v = .int (iN 1) ∧ ∃ x, lwW G x pt sd cr (pM P) (pX P) (pY P) GX GY FX FY P E S b P2 E2 S2 F l h1))) 0 (6 * 0) none h 207 [(7, .int (iN ((i9 : Nat) : Int))), (6, .int (iN (exI P a True (i9 + 1)).2)), (5, .int (iN (exI P a False (i9 + 1)).2)), (4, .int (iN (exI P a True (i9 + 1)).1)), (3, .int (iN (exI P a False (i9 + 1)).1)), (2, .int (iN (nC P a : Int))), (1, .int (iN a)), (0, .ref l)] []) : ∀ (n j9 : Nat), i9 + 1 + j9 + n = P.length → Ev (g_B G mL_arePairs 300 (6 * 300) (zQ (fun v h1 => v = .int (iN 1) ∧ ∃ x, lwW G x pt sd cr (pM P) (pX P) (pY P) GX GY FX FY P E S b P2 E2 S2 F l h1))) 0 (6 * 0) none h 49 [(8, .int (iN ((i9 + 1 + j9 : Nat) : Int))), (7, .int (iN ((i9 : Nat) : Int))), (6, .int (iN (exB P a True i9 (j9)).2)), (5, .int (iN (exB P a False i9 (j9)).2)), (4, .int (iN (exB P a True i9 (j9)).1)), (3, .int (iN (exB P a False i9 (j9)).1)), (2, .int (iN (nC P a : Int))), (1, .int (iN a)), (0, .ref l)] []
  | 0, j9, e => by
    have hl := hg.1
    have e9 : j9 = P.length - (i9 + 1) := by omega
    subst e9
    rw [exB_end, exB_end]
    have W0 := W
    subst hp
    refine e_iload dL_arePairs_49 rfl ?_
    refine e_aload_n dL_arePairs_51 rfl ?_
    refine e_getf fL_57 W.obj rfl dL_arePairs_52 ?_
    refine e_icmp_ge (tgt := 207) ⟨by omega, by omega⟩ ⟨by omega, by omega⟩ dL_arePairs_55 rfl (fun c_9 => ?_) (fun c_9 => absurd (by omega) c_9)
    exact e_loc [(7, .int (iN ((i9 : Nat) : Int))), (6, .int (iN (exI P a True (i9 + 1)).2)), (5, .int (iN (exI P a False (i9 + 1)).2)), (4, .int (iN (exI P a True (i9 + 1)).1)), (3, .int (iN (exI P a False (i9 + 1)).1)), (2, .int (iN (nC P a : Int))), (1, .int (iN a)), (0, .ref l)] ⟨rfl, rfl, rfl, rfl, rfl, rfl, rfl, rfl, trivial⟩ kk
  | n + 1, j9, e => by
    have ih := ap_inner hg hp ha W hi kk n (j9 + 1) (by omega)
    have hl := hg.1
    have hj : i9 + 1 + j9 < P.length := by omega
    have o1 := exB_ok (a := a) (u := False) (okL_of hg) (by omega) (show i9 + j9 < P.length by omega)
    have o2 := exB_ok (a := a) (u := True) (okL_of hg) (by omega) (show i9 + j9 < P.length by omega)
    have h1 := hg.2 i9 hi
    have h2 := hg.2 (i9 + 1 + j9) hj
    have hp0 := hp
    have W0 := W
    have nx : ∀ (N8 F8 : I2), N8 = exB P a False i9 (j9 + 1) → F8 = exB P a True i9 (j9 + 1) → Ev (g_B G mL_arePairs 300 (6 * 300) (zQ (fun v h1 => v = .int (iN 1) ∧ ∃ x, lwW G x pt sd cr (pM P) (pX P) (pY P) GX GY FX FY P E S b P2 E2 S2 F l h1))) 0 (6 * 0) none h 201 [(8, .int (iN ((i9 + 1 + j9 : Nat) : Int))), (7, .int (iN ((i9 : Nat) : Int))), (6, .int (iN (F8).2)), (5, .int (iN (N8).2)), (4, .int (iN (F8).1)), (3, .int (iN (N8).1)), (2, .int (iN (nC P a : Int))), (1, .int (iN a)), (0, .ref l)] [] := fun N8 F8 eN eF => by
      subst eN eF
      refine e_iinc dL_arePairs_201 rfl ?_
      refine e_goto (tgt := 49) dL_arePairs_204 rfl ?_
      exact e_loc [(8, .int (iN ((i9 + 1 + (j9 + 1) : Nat) : Int))), (7, .int (iN ((i9 : Nat) : Int))), (6, .int (iN (exB P a True i9 (j9 + 1)).2)), (5, .int (iN (exB P a False i9 (j9 + 1)).2)), (4, .int (iN (exB P a True i9 (j9 + 1)).1)), (3, .int (iN (exB P a False i9 (j9 + 1)).1)), (2, .int (iN (nC P a : Int))), (1, .int (iN a)), (0, .ref l)] ⟨rfl, rfl, rfl, rfl, rfl, rfl, rfl, rfl, rfl, trivial⟩ ih
    subst hp
    refine e_iload dL_arePairs_49 rfl ?_
    refine e_aload_n dL_arePairs_51 rfl ?_
    refine e_getf fL_57 W.obj rfl dL_arePairs_52 ?_
    refine e_icmp_ge (tgt := 207) ⟨by omega, by omega⟩ ⟨by omega, by omega⟩ dL_arePairs_55 rfl (fun c_9 => absurd c_9 (by omega)) (fun c_9 => ?_)
    refine e_aload_n dL_arePairs_58 rfl ?_
    refine e_getf fL_16 W.obj rfl dL_arePairs_59 ?_
    refine e_iload dL_arePairs_62 rfl ?_
    refine e_iaN W.hp (by omega) rfl dL_arePairs_64 ?_
    refine e_iload_n dL_arePairs_65 rfl ?_
    refine e_icmp_ne (tgt := 201) ⟨by omega, by omega⟩ ⟨by omega, by omega⟩ dL_arePairs_66 rfl (fun c_66 => ?_) (fun c_66 => ?_)
    · exact nx _ _ (exB_no (fun w => c_66 w.1)).symm (exB_no (fun w => c_66 w.1)).symm
    · refine e_aload_n dL_arePairs_69 rfl ?_
      refine e_getf fL_16 W.obj rfl dL_arePairs_70 ?_
      refine e_iload dL_arePairs_73 rfl ?_
      refine e_iaN W.hp (by omega) rfl dL_arePairs_75 ?_
      refine e_iload_n dL_arePairs_76 rfl ?_
      refine e_icmp_eq (tgt := 83) ⟨by omega, by omega⟩ ⟨by omega, by omega⟩ dL_arePairs_77 rfl (fun c_77 => ?_) (fun c_77 => ?_)
      · exact ap_near hg hp0 ha W0 hj o1 o2 (Classical.not_not.mp c_66) c_77 (nx _ _ (exB_yes (Classical.not_not.mp c_66)).symm (exB_yes (Classical.not_not.mp c_66)).symm)
      · refine e_goto (tgt := 201) dL_arePairs_80 rfl ?_
        exact nx _ _ (exB_no (fun w => c_77 w.2)).symm (exB_no (fun w => c_77 w.2)).symm
set_option maxRecDepth 20000 in
theorem ap_outer (hg : goodP P) (hp : pt = P.length) {a : Int} (ha : hpOK a) (W : lwW G x pt sd cr (pM P) (pX P) (pY P) GX GY FX FY P E S b P2 E2 S2 F l h) (kk : Ev (g_B G mL_arePairs 300 (6 * 300) (zQ (fun v h1 => v = .int (iN 1) ∧ ∃ x, lwW G x pt sd cr (pM P) (pX P) (pY P) GX GY FX FY P E S b P2 E2 S2 F l h1))) 0 (6 * 0) none h 213 [(6, .int (iN (exI P a True (P.length)).2)), (5, .int (iN (exI P a False (P.length)).2)), (4, .int (iN (exI P a True (P.length)).1)), (3, .int (iN (exI P a False (P.length)).1)), (2, .int (iN (nC P a : Int))), (1, .int (iN a)), (0, .ref l)] []) : ∀ (n i9 : Nat), i9 + n = P.length → Ev (g_B G mL_arePairs 300 (6 * 300) (zQ (fun v h1 => v = .int (iN 1) ∧ ∃ x, lwW G x pt sd cr (pM P) (pX P) (pY P) GX GY FX FY P E S b P2 E2 S2 F l h1))) 0 (6 * 0) none h 34 [(7, .int (iN ((i9 : Nat) : Int))), (6, .int (iN (exI P a True (i9)).2)), (5, .int (iN (exI P a False (i9)).2)), (4, .int (iN (exI P a True (i9)).1)), (3, .int (iN (exI P a False (i9)).1)), (2, .int (iN (nC P a : Int))), (1, .int (iN a)), (0, .ref l)] []
  | 0, i9, e => by
    have hl := hg.1
    have e9 : i9 = P.length := by omega
    subst e9
    subst hp
    refine e_iload dL_arePairs_34 rfl ?_
    refine e_aload_n dL_arePairs_36 rfl ?_
    refine e_getf fL_57 W.obj rfl dL_arePairs_37 ?_
    refine e_icmp_ge (tgt := 213) ⟨by omega, by omega⟩ ⟨by omega, by omega⟩ dL_arePairs_40 rfl (fun c_9 => ?_) (fun c_9 => absurd (by omega) c_9)
    exact e_loc [(6, .int (iN (exI P a True (P.length)).2)), (5, .int (iN (exI P a False (P.length)).2)), (4, .int (iN (exI P a True (P.length)).1)), (3, .int (iN (exI P a False (P.length)).1)), (2, .int (iN (nC P a : Int))), (1, .int (iN a)), (0, .ref l)] ⟨rfl, rfl, rfl, rfl, rfl, rfl, rfl, trivial⟩ kk
  | n + 1, i9, e => by
    have ih := ap_outer hg hp ha W kk n (i9 + 1) (by omega)
    have hl := hg.1
    have hi : i9 < P.length := by omega
    have inn := ap_inner hg hp ha W hi
    subst hp
    refine e_iload dL_arePairs_34 rfl ?_
    refine e_aload_n dL_arePairs_36 rfl ?_
    refine e_getf fL_57 W.obj rfl dL_arePairs_37 ?_
    refine e_icmp_ge (tgt := 213) ⟨by omega, by omega⟩ ⟨by omega, by omega⟩ dL_arePairs_40 rfl (fun c_9 => absurd c_9 (by omega)) (fun c_9 => ?_)
    refine e_iload dL_arePairs_43 rfl ?_
    refine e_iconst dL_arePairs_45 ?_
    refine e_iadd dL_arePairs_46 ?_
    refine e_istore dL_arePairs_47 rfl ?_
    rw [← exB_0 (P := P) (a := a) (u := False) (i := i9), ← exB_0 (P := P) (a := a) (u := True) (i := i9)]
    refine e_loc [(8, .int (iN ((i9 + 1 + 0 : Nat) : Int))), (7, .int (iN ((i9 : Nat) : Int))), (6, .int (iN (exB P a True i9 (0)).2)), (5, .int (iN (exB P a False i9 (0)).2)), (4, .int (iN (exB P a True i9 (0)).1)), (3, .int (iN (exB P a False i9 (0)).1)), (2, .int (iN (nC P a : Int))), (1, .int (iN a)), (0, .ref l)] ⟨rfl, rfl, rfl, rfl, rfl, rfl, rfl, rfl, rfl, trivial⟩ ?_
    refine inn ?_ (P.length - (i9 + 1)) 0 (by omega)
    refine e_iinc dL_arePairs_207 rfl ?_
    refine e_goto (tgt := 34) dL_arePairs_210 rfl ?_
    exact e_loc [(7, .int (iN ((i9 + 1 : Nat) : Int))), (6, .int (iN (exI P a True (i9 + 1)).2)), (5, .int (iN (exI P a False (i9 + 1)).2)), (4, .int (iN (exI P a True (i9 + 1)).1)), (3, .int (iN (exI P a False (i9 + 1)).1)), (2, .int (iN (nC P a : Int))), (1, .int (iN a)), (0, .ref l)] ⟨rfl, rfl, rfl, rfl, rfl, rfl, rfl, rfl, trivial⟩ ih
set_option maxRecDepth 20000 in
theorem ap_fence (hg : goodP P) (hp : pt = P.length) {a : Int} (ha : hpOK a) (hf : fenF P a) (hs : srtF P a) (hx : srtG P a) (hn : nC P a ≤ 26) : ∀ (n k9 k : Nat) (h : g_hp), lwW G x pt sd cr (pM P) (pX P) (pY P) GX GY FX FY P E S b P2 E2 S2 F l h → k9 + n = nC P a + 1 → 1 ≤ k9 → k ≤ 30 + 9 * k9 → Ev (g_B G mL_arePairs 300 (6 * 300) (zQ (fun v h1 => v = .int (iN 1) ∧ ∃ x, lwW G x pt sd cr (pM P) (pX P) (pY P) GX GY FX FY P E S b P2 E2 S2 F l h1))) k (6 * k) none h 397 [(9, .int (iN ((k9 : Nat) : Int))), (8, .int (iN (lastF P a (k9)))), (7, .int (iN (bxw P a))), (2, .int (iN (nC P a : Int))), (1, .int (iN a)), (0, .ref l)] []
  | 0, k9, k, h, W, e, h1, hk => by
    refine e_iload dL_arePairs_397 rfl ?_
    refine e_iload_n dL_arePairs_399 rfl ?_
    refine e_icmp_gt (tgt := 546) ⟨by omega, by omega⟩ ⟨by omega, by omega⟩ dL_arePairs_400 rfl (fun c_9 => ?_) (fun c_9 => absurd (by omega) c_9)
    refine e_iconst dL_arePairs_546 ?_
    refine e_zret rfl (Or.inr rfl) dL_arePairs_547 (by omega) (by omega) ?_
    exact ⟨rfl, _, rfl, rfl, _, W⟩
  | n + 1, k9, k, h, W, e, h1, hk => by
    have ih := ap_fence hg hp ha hf hs hx hn n (k9 + 1)
    have hl := hg.1
    have h4 := hf.2.2.2 k9 h1 (by omega)
    have hb := hf.1
    have ol : (putN P a [] P.length).length = nC P a := ord_len P a
    have el : lastF P a (k9 + 1) = fnc P a k9 := if_neg (by omega)
    refine e_iload dL_arePairs_397 rfl ?_
    refine e_iload_n dL_arePairs_399 rfl ?_
    refine e_icmp_gt (tgt := 546) ⟨by omega, by omega⟩ ⟨by omega, by omega⟩ dL_arePairs_400 rfl (fun c_9 => absurd c_9 (by omega)) (fun c_9 => ?_)
    refine e_aload_n dL_arePairs_403 rfl ?_
    refine e_getf fL_10 W.obj rfl dL_arePairs_404 ?_
    refine e_iload_n dL_arePairs_407 rfl ?_
    refine e_iload dL_arePairs_408 rfl ?_
    refine e_hs W qcL_157 rfl (fun _ _ _ _ _ _ _ _ _ X => D_fence X ha (by omega) ⟨by omega, by omega⟩ (by omega)) rfl rfl rfl rfl (by omega) dL_arePairs_410 (fun h W => ?_)
    refine (show Ev _ _ _ _ h _ _ (.int (iN (fnc P a k9)) :: _) from ?_)
    refine e_istore dL_arePairs_413 rfl ?_
    refine e_iload dL_arePairs_415 rfl ?_
    refine e_iload dL_arePairs_417 rfl ?_
    refine e_icmp_lt (tgt := 429) ⟨by omega, by omega⟩ ⟨by omega, by omega⟩ dL_arePairs_419 rfl (fun c => absurd c (by omega)) (fun _ => ?_)
    refine e_iload dL_arePairs_422 rfl ?_
    refine e_iload dL_arePairs_424 rfl ?_
    refine e_icmp_le (tgt := 431) ⟨by omega, by omega⟩ ⟨by omega, by omega⟩ dL_arePairs_426 rfl (fun _ => ?_) (fun c => absurd (by omega) c)
    refine e_iload dL_arePairs_431 rfl ?_
    refine e_istore dL_arePairs_433 rfl ?_
    refine e_iload dL_arePairs_435 rfl ?_
    refine e_iconst dL_arePairs_437 ?_
    refine e_icmp_le (tgt := 489) ⟨by omega, by omega⟩ ⟨by omega, by omega⟩ dL_arePairs_438 rfl (fun c_438 => ?_) (fun c_438 => ?_)
    · refine e_iload dL_arePairs_489 rfl ?_
      refine e_iconst dL_arePairs_491 ?_
      refine e_icmp_le (tgt := 540) ⟨by omega, by omega⟩ ⟨by omega, by omega⟩ dL_arePairs_492 rfl (fun _ => ?_) (fun c => absurd (by omega) c)
      refine e_iinc dL_arePairs_540 rfl ?_
      refine e_goto (tgt := 397) dL_arePairs_543 rfl ?_
      rw [el] at ih
      exact e_loc [(9, .int (iN ((k9 + 1 : Nat) : Int))), (8, .int (iN (fnc P a k9))), (7, .int (iN (bxw P a))), (2, .int (iN (nC P a : Int))), (1, .int (iN a)), (0, .ref l)] ⟨rfl, rfl, rfl, rfl, rfl, rfl, trivial⟩ (ih _ h W (by omega) (by omega) (by omega))
    · refine e_aload_n dL_arePairs_441 rfl ?_
      refine e_getf fL_10 W.obj rfl dL_arePairs_442 ?_
      refine e_aload_n dL_arePairs_445 rfl ?_
      refine e_getf fL_10 W.obj rfl dL_arePairs_446 ?_
      refine e_iload_n dL_arePairs_449 rfl ?_
      refine e_iload dL_arePairs_450 rfl ?_
      refine e_iconst dL_arePairs_452 ?_
      refine e_isub dL_arePairs_453 ?_
      obtain ⟨q, rfl⟩ : ∃ q, k9 = q + 2 := ⟨k9 - 2, by omega⟩
      obtain ⟨i1, l1, m1, a1⟩ := hs q (by omega)
      obtain ⟨i2, l2, m2, a2⟩ := hs (q + 1) (by omega)
      have hxx := hx q i1 i2 (by omega) m1 m2
      have p1 : isPt P (i1 : Int) := ⟨by omega, by omega, by show pM P i1 ≠ -1; omega⟩
      have p2 : isPt P (i2 : Int) := ⟨by omega, by omega, by show pM P i2 ≠ -1; omega⟩
      have g1 := hg.2 i1 l1
      have g2 := hg.2 i2 l2
      have eq1 : (((q + 2 : Nat) : Int) - 2) = (q : Int) := by omega
      have eq2 : (((q + 2 : Nat) : Int) - 1) = ((q + 1 : Nat) : Int) := by omega
      rw [eq1]
      refine e_hs W qcL_163 rfl (fun _ _ _ _ _ _ _ _ _ X => D_sorted X ha ⟨by omega, by omega⟩ ⟨by omega, by omega⟩) rfl rfl rfl rfl (by omega) dL_arePairs_454 (fun h W => ?_)
      refine (show Ev _ _ _ _ h _ _ (.int (iN (pM (Od P a) (q))) :: _) from ?_)
      rw [m1]
      refine e_aload_n dL_arePairs_457 rfl ?_
      refine e_getf fL_10 W.obj rfl dL_arePairs_458 ?_
      refine e_iload_n dL_arePairs_461 rfl ?_
      refine e_iload dL_arePairs_462 rfl ?_
      refine e_iconst dL_arePairs_464 ?_
      refine e_isub dL_arePairs_465 ?_
      rw [eq2]
      refine e_hs W qcL_163 rfl (fun _ _ _ _ _ _ _ _ _ X => D_sorted X ha ⟨by omega, by omega⟩ ⟨by omega, by omega⟩) rfl rfl rfl rfl (by omega) dL_arePairs_466 (fun h W => ?_)
      refine (show Ev _ _ _ _ h _ _ (.int (iN (pM (Od P a) (q + 1))) :: _) from ?_)
      rw [m2]
      refine e_aload_n dL_arePairs_469 rfl ?_
      refine e_getf fL_10 W.obj rfl dL_arePairs_470 ?_
      refine e_iload_n dL_arePairs_473 rfl ?_
      refine e_iload dL_arePairs_474 rfl ?_
      refine e_iconst dL_arePairs_476 ?_
      refine e_isub dL_arePairs_477 ?_
      rw [eq2]
      refine e_hs W qcL_163 rfl (fun _ _ _ _ _ _ _ _ _ X => D_sorted X ha ⟨by omega, by omega⟩ ⟨by omega, by omega⟩) rfl rfl rfl rfl (by omega) dL_arePairs_478 (fun h W => ?_)
      refine (show Ev _ _ _ _ h _ _ (.int (iN (pM (Od P a) (q + 1))) :: _) from ?_)
      rw [m2]
      refine e_hs W qcL_166 rfl (fun _ _ _ _ _ _ _ _ _ X => D_turn X p1 p2 p2 ⟨by omega, by omega⟩ ⟨by omega, by omega⟩ ⟨by omega, by omega⟩) rfl rfl rfl rfl (by omega) dL_arePairs_481 (fun h W => ?_)
      rw [show sd3 P ((i1 : Int)).toNat ((i2 : Int)).toNat P ((i2 : Int)).toNat = 0 from congrArg sg (T3_bb (pX P i1, pY P i1) (pX P i2, pY P i2))]
      refine e_if_eq (tgt := 489) r32_0 dL_arePairs_484 rfl (fun _ => ?_) (fun c => absurd rfl c)
      refine e_iload dL_arePairs_489 rfl ?_
      refine e_iconst dL_arePairs_491 ?_
      refine e_icmp_le (tgt := 540) ⟨by omega, by omega⟩ ⟨by omega, by omega⟩ dL_arePairs_492 rfl (fun c => absurd c (by omega)) (fun _ => ?_)
      refine e_aload_n dL_arePairs_495 rfl ?_
      refine e_getf fL_10 W.obj rfl dL_arePairs_496 ?_
      refine e_aload_n dL_arePairs_499 rfl ?_
      refine e_getf fL_10 W.obj rfl dL_arePairs_500 ?_
      refine e_iload_n dL_arePairs_503 rfl ?_
      refine e_iload dL_arePairs_504 rfl ?_
      refine e_iconst dL_arePairs_506 ?_
      refine e_isub dL_arePairs_507 ?_
      rw [eq2]
      refine e_hs W qcL_163 rfl (fun _ _ _ _ _ _ _ _ _ X => D_sorted X ha ⟨by omega, by omega⟩ ⟨by omega, by omega⟩) rfl rfl rfl rfl (by omega) dL_arePairs_508 (fun h W => ?_)
      refine (show Ev _ _ _ _ h _ _ (.int (iN (pM (Od P a) (q + 1))) :: _) from ?_)
      rw [m2]
      refine e_iconst dL_arePairs_511 ?_
      refine e_hs W qcL_168 rfl (fun _ _ _ _ _ _ _ _ _ X => D_pointOf X p2 ⟨by omega, by omega⟩ (Or.inl rfl)) rfl rfl rfl rfl (by omega) dL_arePairs_512 (fun h W => ?_)
      refine (show Ev _ _ _ _ h _ _ (.int (iN (pX P i2)) :: _) from ?_)
      refine e_aload_n dL_arePairs_515 rfl ?_
      refine e_getf fL_10 W.obj rfl dL_arePairs_516 ?_
      refine e_aload_n dL_arePairs_519 rfl ?_
      refine e_getf fL_10 W.obj rfl dL_arePairs_520 ?_
      refine e_iload_n dL_arePairs_523 rfl ?_
      refine e_iload dL_arePairs_524 rfl ?_
      refine e_iconst dL_arePairs_526 ?_
      refine e_isub dL_arePairs_527 ?_
      rw [eq1]
      refine e_hs W qcL_163 rfl (fun _ _ _ _ _ _ _ _ _ X => D_sorted X ha ⟨by omega, by omega⟩ ⟨by omega, by omega⟩) rfl rfl rfl rfl (by omega) dL_arePairs_528 (fun h W => ?_)
      refine (show Ev _ _ _ _ h _ _ (.int (iN (pM (Od P a) (q))) :: _) from ?_)
      rw [m1]
      refine e_iconst dL_arePairs_531 ?_
      refine e_hs W qcL_168 rfl (fun _ _ _ _ _ _ _ _ _ X => D_pointOf X p1 ⟨by omega, by omega⟩ (Or.inl rfl)) rfl rfl rfl rfl (by omega) dL_arePairs_532 (fun h W => ?_)
      refine (show Ev _ _ _ _ h _ _ (.int (iN (pX P i1)) :: _) from ?_)
      refine e_icmp_ge (tgt := 540) ⟨by omega, by omega⟩ ⟨by omega, by omega⟩ dL_arePairs_535 rfl (fun _ => ?_) (fun c => absurd hxx c)
      refine e_iinc dL_arePairs_540 rfl ?_
      refine e_goto (tgt := 397) dL_arePairs_543 rfl ?_
      rw [el] at ih
      exact e_loc [(9, .int (iN (((q + 2) + 1 : Nat) : Int))), (8, .int (iN (fnc P a (q + 2)))), (7, .int (iN (bxw P a))), (2, .int (iN (nC P a : Int))), (1, .int (iN a)), (0, .ref l)] ⟨rfl, rfl, rfl, rfl, rfl, rfl, trivial⟩ (ih _ h W (by omega) (by omega) (by omega))
end LAW9
