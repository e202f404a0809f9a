/-! The reference: images -/
section MSEVENTEEN
variable {G : g_X} {sc sc0 : Nat → Int} {ar : Nat → Nat → Int} {m : Nat} {h0 h : g_hp} {P E : PL} {S : Nat → PL} {b : Int} {P2 E2 : PL} {S2 : Nat → PL} {F : PL}
set_option maxRecDepth 20000 in
theorem im_1 {Z : g_Z} (kk : ∀ ar1 h, mdX G sc ar1 m h0 h → (∀ j, j ∉ [19, 20, 21] → ar1 j = ar j) → (∀ q, q < 60 → ar1 19 (q) = ar 0 (q) ∧ ar1 20 (q) = ar 1 (q) ∧ ar1 21 (q) = ar 2 (q)) → Ev (g_B G mX8_image 0 0 Z) 0 0 none h 55 [(0, .ref m)] []) : ∀ (n k : Nat) (ar1 : Nat → Nat → Int) (h : g_hp), mdX G sc ar1 m h0 h → (∀ j, j ∉ [19, 20, 21] → ar1 j = ar j) → (∀ q, q < k → ar1 19 (q) = ar 0 (q) ∧ ar1 20 (q) = ar 1 (q) ∧ ar1 21 (q) = ar 2 (q)) → k + n = 60 → Ev (g_B G mX8_image 0 0 Z) 0 0 none h 7 [(1, .int (iN (k : Nat))), (0, .ref m)] [] := by
  intro n
  induction n with
  | zero =>
    intro k ar1 h X hA hI hkn
    have e9 : k = 60 := by omega
    subst e9
    refine e_iload_n dX8_image_7 rfl ?_
    refine e_bipush dX8_image_8 (by decide) ?_
    refine e_icmp_ge (tgt := 55) ⟨by omega, by omega⟩ ⟨by omega, by omega⟩ dX8_image_10 rfl (fun c_10 => ?_) (fun c_10 => absurd (by omega) c_10)
    exact e_loc [(0, .ref m)] ⟨rfl, trivial⟩ (kk _ _ X hA hI)
  | succ n ih =>
    intro k ar1 h X hA hI hkn
    refine e_iload_n dX8_image_7 rfl ?_
    refine e_bipush dX8_image_8 (by decide) ?_
    refine e_icmp_ge (tgt := 55) ⟨by omega, by omega⟩ ⟨by omega, by omega⟩ dX8_image_10 rfl (fun c_10 => absurd c_10 (by omega)) (fun c_10 => ?_)
    refine e_aload_n dX8_image_13 rfl ?_
    refine e_getf fX8_72 X.obj rfl dX8_image_14 ?_
    refine e_iload_n dX8_image_17 rfl ?_
    refine e_aload_n dX8_image_18 rfl ?_
    refine e_getf fX8_13 X.obj rfl dX8_image_19 ?_
    refine e_iload_n dX8_image_22 rfl ?_
    refine e_ial X.a0 (by omega) (by omega) rfl ((congrArg _ (show ((k : Int)).toNat = k by omega)).trans (congrFun (show _ = ar 0 from hA 0 (by decide)) (k))) dX8_image_23 ?_
    refine e_iastore X.a19 (by omega) (by omega) rfl dX8_image_24 ?_
    refine X.sto19 (fun h9 X9 => ?_)
    replace X := X9
    clear X9
    refine e_aload_n dX8_image_25 rfl ?_
    refine e_getf fX8_75 X.obj rfl dX8_image_26 ?_
    refine e_iload_n dX8_image_29 rfl ?_
    refine e_aload_n dX8_image_30 rfl ?_
    refine e_getf fX8_17 X.obj rfl dX8_image_31 ?_
    refine e_iload_n dX8_image_34 rfl ?_
    refine e_ial X.a1 (by omega) (by omega) rfl ((congrArg _ (show ((k : Int)).toNat = k by omega)).trans (congrFun (show _ = ar 1 from hA 1 (by decide)) (k))) dX8_image_35 ?_
    refine e_iastore X.a20 (by omega) (by omega) rfl dX8_image_36 ?_
    refine X.sto20 (fun h9 X9 => ?_)
    replace X := X9
    clear X9
    refine e_aload_n dX8_image_37 rfl ?_
    refine e_getf fX8_78 X.obj rfl dX8_image_38 ?_
    refine e_iload_n dX8_image_41 rfl ?_
    refine e_aload_n dX8_image_42 rfl ?_
    refine e_getf fX8_20 X.obj rfl dX8_image_43 ?_
    refine e_iload_n dX8_image_46 rfl ?_
    refine e_ial X.a2 (by omega) (by omega) rfl ((congrArg _ (show ((k : Int)).toNat = k by omega)).trans (congrFun (show _ = ar 2 from hA 2 (by decide)) (k))) dX8_image_47 ?_
    refine e_iastore X.a21 (by omega) (by omega) rfl dX8_image_48 ?_
    refine X.sto21 (fun h9 X9 => ?_)
    replace X := X9
    clear X9
    refine e_iinc dX8_image_49 rfl ?_
    refine e_goto (tgt := 7) dX8_image_52 rfl ?_
    refine e_loc [(1, .int (iN (k + 1 : Nat))), (0, .ref m)] ⟨rfl, rfl, trivial⟩ (ih (k + 1) _ _ X (fun j hj => ?_) (fun q hq => ?_) (by omega))
    · have hj2 : j ≠ 19 ∧ j ≠ 20 ∧ j ≠ 21 := by simpa using hj
      rw [uA_n (by omega), uA_n (by omega), uA_n (by omega)]
      exact hA j hj
    · refine ⟨?_, ?_, ?_⟩
      · show (uI (ar1 19) ((k : Int)).toNat (ar 0 (k))) (q) = ar 0 (q)
        by_cases c : q = k
        · subst c
          rw [show ((q : Int)).toNat = q by omega, uI_s]
        · rw [uI_n _ _ (show q ≠ ((k : Int)).toNat by omega)]
          exact (hI q (by omega)).1
      · show (uI (ar1 20) ((k : Int)).toNat (ar 1 (k))) (q) = ar 1 (q)
        by_cases c : q = k
        · subst c
          rw [show ((q : Int)).toNat = q by omega, uI_s]
        · rw [uI_n _ _ (show q ≠ ((k : Int)).toNat by omega)]
          exact (hI q (by omega)).2.1
      · show (uI (ar1 21) ((k : Int)).toNat (ar 2 (k))) (q) = ar 2 (q)
        by_cases c : q = k
        · subst c
          rw [show ((q : Int)).toNat = q by omega, uI_s]
        · rw [uI_n _ _ (show q ≠ ((k : Int)).toNat by omega)]
          exact (hI q (by omega)).2.2
set_option maxRecDepth 20000 in
theorem im_2 {Z : g_Z} (kk : ∀ ar1 h, mdX G sc ar1 m h0 h → (∀ j, j ∉ [22, 23] → ar1 j = ar j) → (∀ q, q < 64 → ar1 22 (q) = ar 9 (q) ∧ ar1 23 (q) = ar 10 (q)) → Ev (g_B G mX8_image 0 0 Z) 0 0 none h 93 [(0, .ref m)] []) : ∀ (n k : Nat) (ar1 : Nat → Nat → Int) (h : g_hp), mdX G sc ar1 m h0 h → (∀ j, j ∉ [22, 23] → ar1 j = ar j) → (∀ q, q < k → ar1 22 (q) = ar 9 (q) ∧ ar1 23 (q) = ar 10 (q)) → k + n = 64 → Ev (g_B G mX8_image 0 0 Z) 0 0 none h 57 [(1, .int (iN (k : Nat))), (0, .ref m)] [] := by
  intro n
  induction n with
  | zero =>
    intro k ar1 h X hA hI hkn
    have e9 : k = 64 := by omega
    subst e9
    refine e_iload_n dX8_image_57 rfl ?_
    refine e_bipush dX8_image_58 (by decide) ?_
    refine e_icmp_ge (tgt := 93) ⟨by omega, by omega⟩ ⟨by omega, by omega⟩ dX8_image_60 rfl (fun c_60 => ?_) (fun c_60 => absurd (by omega) c_60)
    exact e_loc [(0, .ref m)] ⟨rfl, trivial⟩ (kk _ _ X hA hI)
  | succ n ih =>
    intro k ar1 h X hA hI hkn
    refine e_iload_n dX8_image_57 rfl ?_
    refine e_bipush dX8_image_58 (by decide) ?_
    refine e_icmp_ge (tgt := 93) ⟨by omega, by omega⟩ ⟨by omega, by omega⟩ dX8_image_60 rfl (fun c_60 => absurd c_60 (by omega)) (fun c_60 => ?_)
    refine e_aload_n dX8_image_63 rfl ?_
    refine e_getf fX8_81 X.obj rfl dX8_image_64 ?_
    refine e_iload_n dX8_image_67 rfl ?_
    refine e_aload_n dX8_image_68 rfl ?_
    refine e_getf fX8_42 X.obj rfl dX8_image_69 ?_
    refine e_iload_n dX8_image_72 rfl ?_
    refine e_ial X.a9 (by omega) (by omega) rfl ((congrArg _ (show ((k : Int)).toNat = k by omega)).trans (congrFun (show _ = ar 9 from hA 9 (by decide)) (k))) dX8_image_73 ?_
    refine e_iastore X.a22 (by omega) (by omega) rfl dX8_image_74 ?_
    refine X.sto22 (fun h9 X9 => ?_)
    replace X := X9
    clear X9
    refine e_aload_n dX8_image_75 rfl ?_
    refine e_getf fX8_84 X.obj rfl dX8_image_76 ?_
    refine e_iload_n dX8_image_79 rfl ?_
    refine e_aload_n dX8_image_80 rfl ?_
    refine e_getf fX8_45 X.obj rfl dX8_image_81 ?_
    refine e_iload_n dX8_image_84 rfl ?_
    refine e_ial X.a10 (by omega) (by omega) rfl ((congrArg _ (show ((k : Int)).toNat = k by omega)).trans (congrFun (show _ = ar 10 from hA 10 (by decide)) (k))) dX8_image_85 ?_
    refine e_iastore X.a23 (by omega) (by omega) rfl dX8_image_86 ?_
    refine X.sto23 (fun h9 X9 => ?_)
    replace X := X9
    clear X9
    refine e_iinc dX8_image_87 rfl ?_
    refine e_goto (tgt := 57) dX8_image_90 rfl ?_
    refine e_loc [(1, .int (iN (k + 1 : Nat))), (0, .ref m)] ⟨rfl, rfl, trivial⟩ (ih (k + 1) _ _ X (fun j hj => ?_) (fun q hq => ?_) (by omega))
    · have hj2 : j ≠ 22 ∧ j ≠ 23 := by simpa using hj
      rw [uA_n (by omega), uA_n (by omega)]
      exact hA j hj
    · refine ⟨?_, ?_⟩
      · show (uI (ar1 22) ((k : Int)).toNat (ar 9 (k))) (q) = ar 9 (q)
        by_cases c : q = k
        · subst c
          rw [show ((q : Int)).toNat = q by omega, uI_s]
        · rw [uI_n _ _ (show q ≠ ((k : Int)).toNat by omega)]
          exact (hI q (by omega)).1
      · show (uI (ar1 23) ((k : Int)).toNat (ar 10 (k))) (q) = ar 10 (q)
        by_cases c : q = k
        · subst c
          rw [show ((q : Int)).toNat = q by omega, uI_s]
        · rw [uI_n _ _ (show q ≠ ((k : Int)).toNat by omega)]
          exact (hI q (by omega)).2
set_option maxRecDepth 20000 in
theorem im_3 {Z : g_Z} (kk : ∀ ar1 h, mdX G sc ar1 m h0 h → (∀ j, j ∉ [24] → ar1 j = ar j) → (∀ q, q < 4 → ar1 24 (q) = ar 11 (q)) → Ev (g_B G mX8_image 0 0 Z) 0 0 none h 118 [(0, .ref m)] []) : ∀ (n k : Nat) (ar1 : Nat → Nat → Int) (h : g_hp), mdX G sc ar1 m h0 h → (∀ j, j ∉ [24] → ar1 j = ar j) → (∀ q, q < k → ar1 24 (q) = ar 11 (q)) → k + n = 4 → Ev (g_B G mX8_image 0 0 Z) 0 0 none h 95 [(1, .int (iN (k : Nat))), (0, .ref m)] [] := by
  intro n
  induction n with
  | zero =>
    intro k ar1 h X hA hI hkn
    have e9 : k = 4 := by omega
    subst e9
    refine e_iload_n dX8_image_95 rfl ?_
    refine e_iconst dX8_image_96 ?_
    refine e_icmp_ge (tgt := 118) ⟨by omega, by omega⟩ ⟨by omega, by omega⟩ dX8_image_97 rfl (fun c_97 => ?_) (fun c_97 => absurd (by omega) c_97)
    exact e_loc [(0, .ref m)] ⟨rfl, trivial⟩ (kk _ _ X hA hI)
  | succ n ih =>
    intro k ar1 h X hA hI hkn
    refine e_iload_n dX8_image_95 rfl ?_
    refine e_iconst dX8_image_96 ?_
    refine e_icmp_ge (tgt := 118) ⟨by omega, by omega⟩ ⟨by omega, by omega⟩ dX8_image_97 rfl (fun c_97 => absurd c_97 (by omega)) (fun c_97 => ?_)
    refine e_aload_n dX8_image_100 rfl ?_
    refine e_getf fX8_87 X.obj rfl dX8_image_101 ?_
    refine e_iload_n dX8_image_104 rfl ?_
    refine e_aload_n dX8_image_105 rfl ?_
    refine e_getf fX8_48 X.obj rfl dX8_image_106 ?_
    refine e_iload_n dX8_image_109 rfl ?_
    refine e_ial X.a11 (by omega) (by omega) rfl ((congrArg _ (show ((k : Int)).toNat = k by omega)).trans (congrFun (show _ = ar 11 from hA 11 (by decide)) (k))) dX8_image_110 ?_
    refine e_iastore X.a24 (by omega) (by omega) rfl dX8_image_111 ?_
    refine X.sto24 (fun h9 X9 => ?_)
    replace X := X9
    clear X9
    refine e_iinc dX8_image_112 rfl ?_
    refine e_goto (tgt := 95) dX8_image_115 rfl ?_
    refine e_loc [(1, .int (iN (k + 1 : Nat))), (0, .ref m)] ⟨rfl, rfl, trivial⟩ (ih (k + 1) _ _ X (fun j hj => ?_) (fun q hq => ?_) (by omega))
    · have hj2 : j ≠ 24 := by simpa using hj
      rw [uA_n (by omega)]
      exact hA j hj
    · show (uI (ar1 24) ((k : Int)).toNat (ar 11 (k))) (q) = ar 11 (q)
      by_cases c : q = k
      · subst c
        rw [show ((q : Int)).toNat = q by omega, uI_s]
      · rw [uI_n _ _ (show q ≠ ((k : Int)).toNat by omega)]
        exact (hI q (by omega))
set_option maxRecDepth 20000 in
theorem im_4 {Z : g_Z} (kk : ∀ ar1 h, mdX G sc ar1 m h0 h → (∀ j, j ∉ [25] → ar1 j = ar j) → (∀ q, q < 20 → ar1 25 (4 * q) = ar 14 (q) ∧ ar1 25 (4 * q + 1) = ar 15 (q) ∧ ar1 25 (4 * q + 2) = ar 16 (q) ∧ ar1 25 (4 * q + 3) = ar 17 (q)) → Ev (g_B G mX8_image 0 0 Z) 0 0 none h 194 [(0, .ref m)] []) : ∀ (n k : Nat) (ar1 : Nat → Nat → Int) (h : g_hp), mdX G sc ar1 m h0 h → (∀ j, j ∉ [25] → ar1 j = ar j) → (∀ q, q < k → ar1 25 (4 * q) = ar 14 (q) ∧ ar1 25 (4 * q + 1) = ar 15 (q) ∧ ar1 25 (4 * q + 2) = ar 16 (q) ∧ ar1 25 (4 * q + 3) = ar 17 (q)) → k + n = 20 → Ev (g_B G mX8_image 0 0 Z) 0 0 none h 120 [(1, .int (iN (k : Nat))), (0, .ref m)] [] := by
  intro n
  induction n with
  | zero =>
    intro k ar1 h X hA hI hkn
    have e9 : k = 20 := by omega
    subst e9
    refine e_iload_n dX8_image_120 rfl ?_
    refine e_bipush dX8_image_121 (by decide) ?_
    refine e_icmp_ge (tgt := 194) ⟨by omega, by omega⟩ ⟨by omega, by omega⟩ dX8_image_123 rfl (fun c_123 => ?_) (fun c_123 => absurd (by omega) c_123)
    exact e_loc [(0, .ref m)] ⟨rfl, trivial⟩ (kk _ _ X hA hI)
  | succ n ih =>
    intro k ar1 h X hA hI hkn
    refine e_iload_n dX8_image_120 rfl ?_
    refine e_bipush dX8_image_121 (by decide) ?_
    refine e_icmp_ge (tgt := 194) ⟨by omega, by omega⟩ ⟨by omega, by omega⟩ dX8_image_123 rfl (fun c_123 => absurd c_123 (by omega)) (fun c_123 => ?_)
    refine e_aload_n dX8_image_126 rfl ?_
    refine e_getf fX8_90 X.obj rfl dX8_image_127 ?_
    refine e_iconst dX8_image_130 ?_
    refine e_iload_n dX8_image_131 rfl ?_
    refine e_imul dX8_image_132 ?_
    refine e_aload_n dX8_image_133 rfl ?_
    refine e_getf fX8_57 X.obj rfl dX8_image_134 ?_
    refine e_iload_n dX8_image_137 rfl ?_
    refine e_ial X.a14 (by omega) (by omega) rfl ((congrArg _ (show ((k : Int)).toNat = k by omega)).trans (congrFun (show _ = ar 14 from hA 14 (by decide)) (k))) dX8_image_138 ?_
    refine e_iastore X.a25 (by omega) (by omega) rfl dX8_image_139 ?_
    refine X.sto25 (fun h9 X9 => ?_)
    replace X := X9
    clear X9
    refine e_aload_n dX8_image_140 rfl ?_
    refine e_getf fX8_90 X.obj rfl dX8_image_141 ?_
    refine e_iconst dX8_image_144 ?_
    refine e_iload_n dX8_image_145 rfl ?_
    refine e_imul dX8_image_146 ?_
    refine e_iconst dX8_image_147 ?_
    refine e_iadd dX8_image_148 ?_
    refine e_aload_n dX8_image_149 rfl ?_
    refine e_getf fX8_60 X.obj rfl dX8_image_150 ?_
    refine e_iload_n dX8_image_153 rfl ?_
    refine e_ial X.a15 (by omega) (by omega) rfl ((congrArg _ (show ((k : Int)).toNat = k by omega)).trans (congrFun (show _ = ar 15 from hA 15 (by decide)) (k))) dX8_image_154 ?_
    refine e_iastore X.a25 (by omega) (by omega) rfl dX8_image_155 ?_
    refine X.sto25 (fun h9 X9 => ?_)
    replace X := X9
    clear X9
    refine e_aload_n dX8_image_156 rfl ?_
    refine e_getf fX8_90 X.obj rfl dX8_image_157 ?_
    refine e_iconst dX8_image_160 ?_
    refine e_iload_n dX8_image_161 rfl ?_
    refine e_imul dX8_image_162 ?_
    refine e_iconst dX8_image_163 ?_
    refine e_iadd dX8_image_164 ?_
    refine e_aload_n dX8_image_165 rfl ?_
    refine e_getf fX8_63 X.obj rfl dX8_image_166 ?_
    refine e_iload_n dX8_image_169 rfl ?_
    refine e_ial X.a16 (by omega) (by omega) rfl ((congrArg _ (show ((k : Int)).toNat = k by omega)).trans (congrFun (show _ = ar 16 from hA 16 (by decide)) (k))) dX8_image_170 ?_
    refine e_iastore X.a25 (by omega) (by omega) rfl dX8_image_171 ?_
    refine X.sto25 (fun h9 X9 => ?_)
    replace X := X9
    clear X9
    refine e_aload_n dX8_image_172 rfl ?_
    refine e_getf fX8_90 X.obj rfl dX8_image_173 ?_
    refine e_iconst dX8_image_176 ?_
    refine e_iload_n dX8_image_177 rfl ?_
    refine e_imul dX8_image_178 ?_
    refine e_iconst dX8_image_179 ?_
    refine e_iadd dX8_image_180 ?_
    refine e_aload_n dX8_image_181 rfl ?_
    refine e_getf fX8_66 X.obj rfl dX8_image_182 ?_
    refine e_iload_n dX8_image_185 rfl ?_
    refine e_ial X.a17 (by omega) (by omega) rfl ((congrArg _ (show ((k : Int)).toNat = k by omega)).trans (congrFun (show _ = ar 17 from hA 17 (by decide)) (k))) dX8_image_186 ?_
    refine e_iastore X.a25 (by omega) (by omega) rfl dX8_image_187 ?_
    refine X.sto25 (fun h9 X9 => ?_)
    replace X := X9
    clear X9
    refine e_iinc dX8_image_188 rfl ?_
    refine e_goto (tgt := 120) dX8_image_191 rfl ?_
    refine e_loc [(1, .int (iN (k + 1 : Nat))), (0, .ref m)] ⟨rfl, rfl, trivial⟩ (ih (k + 1) _ _ X (fun j hj => ?_) (fun q hq => ?_) (by omega))
    · have hj2 : j ≠ 25 := by simpa using hj
      rw [uA_n (by omega), uA_n (by omega), uA_n (by omega), uA_n (by omega)]
      exact hA j hj
    · refine ⟨?_, ?_, ?_, ?_⟩
      · show (uI (uI (uI (uI (ar1 25) (4 * (k : Int)).toNat (ar 14 (k))) (4 * (k : Int) + 1).toNat (ar 15 (k))) (4 * (k : Int) + 2).toNat (ar 16 (k))) (4 * (k : Int) + 3).toNat (ar 17 (k))) (4 * q) = ar 14 (q)
        by_cases c : q = k
        · subst c
          rw [uI_n _ _ (show 4 * q ≠ (4 * (q : Int) + 3).toNat by omega), uI_n _ _ (show 4 * q ≠ (4 * (q : Int) + 2).toNat by omega), uI_n _ _ (show 4 * q ≠ (4 * (q : Int) + 1).toNat by omega), show (4 * (q : Int)).toNat = 4 * q by omega, uI_s]
        · rw [uI_n _ _ (show 4 * q ≠ (4 * (k : Int) + 3).toNat by omega), uI_n _ _ (show 4 * q ≠ (4 * (k : Int) + 2).toNat by omega), uI_n _ _ (show 4 * q ≠ (4 * (k : Int) + 1).toNat by omega), uI_n _ _ (show 4 * q ≠ (4 * (k : Int)).toNat by omega)]
          exact (hI q (by omega)).1
      · show (uI (uI (uI (uI (ar1 25) (4 * (k : Int)).toNat (ar 14 (k))) (4 * (k : Int) + 1).toNat (ar 15 (k))) (4 * (k : Int) + 2).toNat (ar 16 (k))) (4 * (k : Int) + 3).toNat (ar 17 (k))) (4 * q + 1) = ar 15 (q)
        by_cases c : q = k
        · subst c
          rw [uI_n _ _ (show 4 * q + 1 ≠ (4 * (q : Int) + 3).toNat by omega), uI_n _ _ (show 4 * q + 1 ≠ (4 * (q : Int) + 2).toNat by omega), show (4 * (q : Int) + 1).toNat = 4 * q + 1 by omega, uI_s]
        · rw [uI_n _ _ (show 4 * q + 1 ≠ (4 * (k : Int) + 3).toNat by omega), uI_n _ _ (show 4 * q + 1 ≠ (4 * (k : Int) + 2).toNat by omega), uI_n _ _ (show 4 * q + 1 ≠ (4 * (k : Int) + 1).toNat by omega), uI_n _ _ (show 4 * q + 1 ≠ (4 * (k : Int)).toNat by omega)]
          exact (hI q (by omega)).2.1
      · show (uI (uI (uI (uI (ar1 25) (4 * (k : Int)).toNat (ar 14 (k))) (4 * (k : Int) + 1).toNat (ar 15 (k))) (4 * (k : Int) + 2).toNat (ar 16 (k))) (4 * (k : Int) + 3).toNat (ar 17 (k))) (4 * q + 2) = ar 16 (q)
        by_cases c : q = k
        · subst c
          rw [uI_n _ _ (show 4 * q + 2 ≠ (4 * (q : Int) + 3).toNat by omega), show (4 * (q : Int) + 2).toNat = 4 * q + 2 by omega, uI_s]
        · rw [uI_n _ _ (show 4 * q + 2 ≠ (4 * (k : Int) + 3).toNat by omega), uI_n _ _ (show 4 * q + 2 ≠ (4 * (k : Int) + 2).toNat by omega), uI_n _ _ (show 4 * q + 2 ≠ (4 * (k : Int) + 1).toNat by omega), uI_n _ _ (show 4 * q + 2 ≠ (4 * (k : Int)).toNat by omega)]
          exact (hI q (by omega)).2.2.1
      · show (uI (uI (uI (uI (ar1 25) (4 * (k : Int)).toNat (ar 14 (k))) (4 * (k : Int) + 1).toNat (ar 15 (k))) (4 * (k : Int) + 2).toNat (ar 16 (k))) (4 * (k : Int) + 3).toNat (ar 17 (k))) (4 * q + 3) = ar 17 (q)
        by_cases c : q = k
        · subst c
          rw [show (4 * (q : Int) + 3).toNat = 4 * q + 3 by omega, uI_s]
        · rw [uI_n _ _ (show 4 * q + 3 ≠ (4 * (k : Int) + 3).toNat by omega), uI_n _ _ (show 4 * q + 3 ≠ (4 * (k : Int) + 2).toNat by omega), uI_n _ _ (show 4 * q + 3 ≠ (4 * (k : Int) + 1).toNat by omega), uI_n _ _ (show 4 * q + 3 ≠ (4 * (k : Int)).toNat by omega)]
          exact (hI q (by omega)).2.2.2
set_option maxRecDepth 20000 in
theorem M_image (X : mdX G sc0 ar m h0 h) (hR : mdR sc0 ar P E S b P2 E2 S2 F) : Run G mX8_image [.ref m] none h 0 0 (mZ G (0, (P.length : Int)) P E S 1 P E S F m h0) := by
  refine run_of rfl plX8 rfl ?_
  refine e_aload_n dX8_image_0 rfl ?_
  refine e_iconst dX8_image_1 ?_
  refine e_putf pfX8_1 X.obj rfl rfl rfl dX8_image_2 ?_
  refine X.pto (q := 0) (fun h9 X9 => ?_) rfl
  replace X := X9
  clear X9
  replace hR := hR.t0 0
  have ht : uI sc0 0 0 0 = 0 := uI_s _ _ _
  generalize uI sc0 0 0 = sc at X hR ht
  refine e_iconst dX8_image_5 ?_
  refine e_istore_n dX8_image_6 rfl ?_
  refine e_loc [(1, .int (iN (0 : Nat))), (0, .ref m)] ⟨rfl, rfl, trivial⟩ (im_1 (fun ar1 h X hA1 hI1 => ?_) _ 0 _ _ X (fun _ _ => rfl) (fun q hq => absurd hq (Nat.not_lt_zero _)) (Nat.zero_add _))
  refine e_iconst dX8_image_55 ?_
  refine e_istore_n dX8_image_56 rfl ?_
  refine e_loc [(1, .int (iN (0 : Nat))), (0, .ref m)] ⟨rfl, rfl, trivial⟩ (im_2 (fun ar2 h X hA2 hI2 => ?_) _ 0 _ _ X (fun _ _ => rfl) (fun q hq => absurd hq (Nat.not_lt_zero _)) (Nat.zero_add _))
  refine e_iconst dX8_image_93 ?_
  refine e_istore_n dX8_image_94 rfl ?_
  refine e_loc [(1, .int (iN (0 : Nat))), (0, .ref m)] ⟨rfl, rfl, trivial⟩ (im_3 (fun ar3 h X hA3 hI3 => ?_) _ 0 _ _ X (fun _ _ => rfl) (fun q hq => absurd hq (Nat.not_lt_zero _)) (Nat.zero_add _))
  refine e_iconst dX8_image_118 ?_
  refine e_istore_n dX8_image_119 rfl ?_
  refine e_loc [(1, .int (iN (0 : Nat))), (0, .ref m)] ⟨rfl, rfl, trivial⟩ (im_4 (fun ar4 h X hA4 hI4 => ?_) _ 0 _ _ X (fun _ _ => rfl) (fun q hq => absurd hq (Nat.not_lt_zero _)) (Nat.zero_add _))
  refine e_aload_n dX8_image_194 rfl ?_
  refine e_aload_n dX8_image_195 rfl ?_
  refine e_getf fX8_108 X.obj rfl dX8_image_196 ?_
  rw [hR.1.1]
  refine e_putf pfX8_93 X.obj rfl rfl rfl dX8_image_199 ?_
  refine X.pto (q := 43) (fun h9 X9 => ?_) rfl
  replace X := X9
  clear X9
  refine e_aload_n dX8_image_202 rfl ?_
  refine e_aload_n dX8_image_203 rfl ?_
  refine e_getf fX8_281 X.obj rfl dX8_image_204 ?_
  rw [show uI sc 43 (P.length : Int) 33 = ((E.length / 2 : Nat) : Int) from hR.2.1.1]
  refine e_putf pfX8_313 X.obj rfl rfl rfl dX8_image_207 ?_
  refine X.pto (q := 44) (fun h9 X9 => ?_) rfl
  replace X := X9
  clear X9
  refine e_aload_n dX8_image_210 rfl ?_
  refine e_getf fX8_108 X.obj rfl dX8_image_211 ?_
  rw [show uI (uI sc 43 (P.length : Int)) 44 ((E.length / 2 : Nat) : Int) 4 = (P.length : Int) from hR.1.1]
  refine e_iret rfl dX8_image_214 (by decide) (by decide) ?_
  have g : ∀ j, j ∉ [19, 20, 21, 22, 23, 24, 25] → ar4 j = ar j := fun j hj => by
    have hj2 : j ≠ 19 ∧ j ≠ 20 ∧ j ≠ 21 ∧ j ≠ 22 ∧ j ≠ 23 ∧ j ≠ 24 ∧ j ≠ 25 := by simpa using hj
    rw [hA4 j (by simp; omega), hA3 j (by simp; omega), hA2 j (by simp; omega), hA1 j (by simp; omega)]
  have k19 : ar4 19 = ar1 19 := by rw [hA4 19 (by decide), hA3 19 (by decide), hA2 19 (by decide)]
  have k20 : ar4 20 = ar1 20 := by rw [hA4 20 (by decide), hA3 20 (by decide), hA2 20 (by decide)]
  have k21 : ar4 21 = ar1 21 := by rw [hA4 21 (by decide), hA3 21 (by decide), hA2 21 (by decide)]
  have k22 : ar4 22 = ar2 22 := by rw [hA4 22 (by decide), hA3 22 (by decide)]
  have k23 : ar4 23 = ar2 23 := by rw [hA4 23 (by decide), hA3 23 (by decide)]
  have k24 : ar4 24 = ar3 24 := hA4 24 (by decide)
  have j9 : ar1 9 = ar 9 := hA1 9 (by decide)
  have j10 : ar1 10 = ar 10 := hA1 10 (by decide)
  have j11 : ar2 11 = ar 11 := by rw [hA2 11 (by decide), hA1 11 (by decide)]
  have j14 : ar3 14 = ar 14 := by rw [hA3 14 (by decide), hA2 14 (by decide), hA1 14 (by decide)]
  have j15 : ar3 15 = ar 15 := by rw [hA3 15 (by decide), hA2 15 (by decide), hA1 15 (by decide)]
  have j16 : ar3 16 = ar 16 := by rw [hA3 16 (by decide), hA2 16 (by decide), hA1 16 (by decide)]
  have j17 : ar3 17 = ar 17 := by rw [hA3 17 (by decide), hA2 17 (by decide), hA1 17 (by decide)]
  obtain ⟨⟨p1, p2, p3, p4⟩, ⟨e1, e2, e3, e4, e5⟩, hS, hI, hF⟩ := hR
  refine ⟨rfl, rfl, _, _, X, ⟨⟨p1, p2, p3, ?_⟩, ⟨e1, e2, e3, e4, ?_⟩, ?_, ⟨Or.inr rfl, fun w => absurd w (by decide), fun _ => ⟨rfl, p2, p3, fun p hp => ?_, rfl, e2, e3, e4, fun l hl => ?_, fun q hq => ?_⟩⟩, hF.to (g 5 (by decide)) (g 6 (by decide)) (g 7 (by decide))⟩, ht⟩
  · rw [g 0 (by decide), g 1 (by decide), g 2 (by decide)]
    exact p4
  · rw [g 14 (by decide), g 15 (by decide), g 16 (by decide), g 17 (by decide)]
    exact e5
  · unfold mdS
    rw [g 9 (by decide), g 10 (by decide), g 11 (by decide)]
    exact hS
  · rw [k19, k20, k21]
    have := hI1 p (by omega)
    rw [this.1, this.2.1, this.2.2]
    exact p4 p hp
  · have := hI4 l (by omega)
    rw [this.1, this.2.1, this.2.2.1, this.2.2.2, j14, j15, j16, j17]
    exact e5 l hl
  · obtain ⟨s1, s2, s3, s4⟩ := hS q hq
    rw [k24, hI3 q hq, j11]
    refine ⟨s1, s2, s3, fun k hk => ?_⟩
    have := hI2 (16 * q + k) (by omega)
    rw [k22, k23, this.1, this.2, j9, j10]
    exact s4 k hk
set_option maxRecDepth 20000 in
theorem rs_1 {Z : g_Z} (kk : ∀ ar1 h, mdX G sc ar1 m h0 h → (∀ j, j ∉ [0, 1, 2] → ar1 j = ar j) → (∀ q, q < 60 → ar1 0 (q) = ar 19 (q) ∧ ar1 1 (q) = ar 20 (q) ∧ ar1 2 (q) = ar 21 (q)) → Ev (g_B G mX8_restore 0 0 Z) 0 0 none h 78 [(0, .ref m)] []) : ∀ (n k : Nat) (ar1 : Nat → Nat → Int) (h : g_hp), mdX G sc ar1 m h0 h → (∀ j, j ∉ [0, 1, 2] → ar1 j = ar j) → (∀ q, q < k → ar1 0 (q) = ar 19 (q) ∧ ar1 1 (q) = ar 20 (q) ∧ ar1 2 (q) = ar 21 (q)) → k + n = 60 → Ev (g_B G mX8_restore 0 0 Z) 0 0 none h 30 [(1, .int (iN (k : Nat))), (0, .ref m)] [] := by
  intro n
  induction n with
  | zero =>
    intro k ar1 h X hA hI hkn
    have e9 : k = 60 := by omega
    subst e9
    refine e_iload_n dX8_restore_30 rfl ?_
    refine e_bipush dX8_restore_31 (by decide) ?_
    refine e_icmp_ge (tgt := 78) ⟨by omega, by omega⟩ ⟨by omega, by omega⟩ dX8_restore_33 rfl (fun c_33 => ?_) (fun c_33 => absurd (by omega) c_33)
    exact e_loc [(0, .ref m)] ⟨rfl, trivial⟩ (kk _ _ X hA hI)
  | succ n ih =>
    intro k ar1 h X hA hI hkn
    refine e_iload_n dX8_restore_30 rfl ?_
    refine e_bipush dX8_restore_31 (by decide) ?_
    refine e_icmp_ge (tgt := 78) ⟨by omega, by omega⟩ ⟨by omega, by omega⟩ dX8_restore_33 rfl (fun c_33 => absurd c_33 (by omega)) (fun c_33 => ?_)
    refine e_aload_n dX8_restore_36 rfl ?_
    refine e_getf fX8_13 X.obj rfl dX8_restore_37 ?_
    refine e_iload_n dX8_restore_40 rfl ?_
    refine e_aload_n dX8_restore_41 rfl ?_
    refine e_getf fX8_72 X.obj rfl dX8_restore_42 ?_
    refine e_iload_n dX8_restore_45 rfl ?_
    refine e_ial X.a19 (by omega) (by omega) rfl ((congrArg _ (show ((k : Int)).toNat = k by omega)).trans (congrFun (show _ = ar 19 from hA 19 (by decide)) (k))) dX8_restore_46 ?_
    refine e_iastore X.a0 (by omega) (by omega) rfl dX8_restore_47 ?_
    refine X.sto0 (fun h9 X9 => ?_)
    replace X := X9
    clear X9
    refine e_aload_n dX8_restore_48 rfl ?_
    refine e_getf fX8_17 X.obj rfl dX8_restore_49 ?_
    refine e_iload_n dX8_restore_52 rfl ?_
    refine e_aload_n dX8_restore_53 rfl ?_
    refine e_getf fX8_75 X.obj rfl dX8_restore_54 ?_
    refine e_iload_n dX8_restore_57 rfl ?_
    refine e_ial X.a20 (by omega) (by omega) rfl ((congrArg _ (show ((k : Int)).toNat = k by omega)).trans (congrFun (show _ = ar 20 from hA 20 (by decide)) (k))) dX8_restore_58 ?_
    refine e_iastore X.a1 (by omega) (by omega) rfl dX8_restore_59 ?_
    refine X.sto1 (fun h9 X9 => ?_)
    replace X := X9
    clear X9
    refine e_aload_n dX8_restore_60 rfl ?_
    refine e_getf fX8_20 X.obj rfl dX8_restore_61 ?_
    refine e_iload_n dX8_restore_64 rfl ?_
    refine e_aload_n dX8_restore_65 rfl ?_
    refine e_getf fX8_78 X.obj rfl dX8_restore_66 ?_
    refine e_iload_n dX8_restore_69 rfl ?_
    refine e_ial X.a21 (by omega) (by omega) rfl ((congrArg _ (show ((k : Int)).toNat = k by omega)).trans (congrFun (show _ = ar 21 from hA 21 (by decide)) (k))) dX8_restore_70 ?_
    refine e_iastore X.a2 (by omega) (by omega) rfl dX8_restore_71 ?_
    refine X.sto2 (fun h9 X9 => ?_)
    replace X := X9
    clear X9
    refine e_iinc dX8_restore_72 rfl ?_
    refine e_goto (tgt := 30) dX8_restore_75 rfl ?_
    refine e_loc [(1, .int (iN (k + 1 : Nat))), (0, .ref m)] ⟨rfl, rfl, trivial⟩ (ih (k + 1) _ _ X (fun j hj => ?_) (fun q hq => ?_) (by omega))
    · have hj2 : j ≠ 0 ∧ j ≠ 1 ∧ j ≠ 2 := by simpa using hj
      rw [uA_n (by omega), uA_n (by omega), uA_n (by omega)]
      exact hA j hj
    · refine ⟨?_, ?_, ?_⟩
      · show (uI (ar1 0) ((k : Int)).toNat (ar 19 (k))) (q) = ar 19 (q)
        by_cases c : q = k
        · subst c
          rw [show ((q : Int)).toNat = q by omega, uI_s]
        · rw [uI_n _ _ (show q ≠ ((k : Int)).toNat by omega)]
          exact (hI q (by omega)).1
      · show (uI (ar1 1) ((k : Int)).toNat (ar 20 (k))) (q) = ar 20 (q)
        by_cases c : q = k
        · subst c
          rw [show ((q : Int)).toNat = q by omega, uI_s]
        · rw [uI_n _ _ (show q ≠ ((k : Int)).toNat by omega)]
          exact (hI q (by omega)).2.1
      · show (uI (ar1 2) ((k : Int)).toNat (ar 21 (k))) (q) = ar 21 (q)
        by_cases c : q = k
        · subst c
          rw [show ((q : Int)).toNat = q by omega, uI_s]
        · rw [uI_n _ _ (show q ≠ ((k : Int)).toNat by omega)]
          exact (hI q (by omega)).2.2
set_option maxRecDepth 20000 in
theorem rs_2 {Z : g_Z} (kk : ∀ ar1 h, mdX G sc ar1 m h0 h → (∀ j, j ∉ [9, 10] → ar1 j = ar j) → (∀ q, q < 64 → ar1 9 (q) = ar 22 (q) ∧ ar1 10 (q) = ar 23 (q)) → Ev (g_B G mX8_restore 0 0 Z) 0 0 none h 116 [(0, .ref m)] []) : ∀ (n k : Nat) (ar1 : Nat → Nat → Int) (h : g_hp), mdX G sc ar1 m h0 h → (∀ j, j ∉ [9, 10] → ar1 j = ar j) → (∀ q, q < k → ar1 9 (q) = ar 22 (q) ∧ ar1 10 (q) = ar 23 (q)) → k + n = 64 → Ev (g_B G mX8_restore 0 0 Z) 0 0 none h 80 [(1, .int (iN (k : Nat))), (0, .ref m)] [] := by
  intro n
  induction n with
  | zero =>
    intro k ar1 h X hA hI hkn
    have e9 : k = 64 := by omega
    subst e9
    refine e_iload_n dX8_restore_80 rfl ?_
    refine e_bipush dX8_restore_81 (by decide) ?_
    refine e_icmp_ge (tgt := 116) ⟨by omega, by omega⟩ ⟨by omega, by omega⟩ dX8_restore_83 rfl (fun c_83 => ?_) (fun c_83 => absurd (by omega) c_83)
    exact e_loc [(0, .ref m)] ⟨rfl, trivial⟩ (kk _ _ X hA hI)
  | succ n ih =>
    intro k ar1 h X hA hI hkn
    refine e_iload_n dX8_restore_80 rfl ?_
    refine e_bipush dX8_restore_81 (by decide) ?_
    refine e_icmp_ge (tgt := 116) ⟨by omega, by omega⟩ ⟨by omega, by omega⟩ dX8_restore_83 rfl (fun c_83 => absurd c_83 (by omega)) (fun c_83 => ?_)
    refine e_aload_n dX8_restore_86 rfl ?_
    refine e_getf fX8_42 X.obj rfl dX8_restore_87 ?_
    refine e_iload_n dX8_restore_90 rfl ?_
    refine e_aload_n dX8_restore_91 rfl ?_
    refine e_getf fX8_81 X.obj rfl dX8_restore_92 ?_
    refine e_iload_n dX8_restore_95 rfl ?_
    refine e_ial X.a22 (by omega) (by omega) rfl ((congrArg _ (show ((k : Int)).toNat = k by omega)).trans (congrFun (show _ = ar 22 from hA 22 (by decide)) (k))) dX8_restore_96 ?_
    refine e_iastore X.a9 (by omega) (by omega) rfl dX8_restore_97 ?_
    refine X.sto9 (fun h9 X9 => ?_)
    replace X := X9
    clear X9
    refine e_aload_n dX8_restore_98 rfl ?_
    refine e_getf fX8_45 X.obj rfl dX8_restore_99 ?_
    refine e_iload_n dX8_restore_102 rfl ?_
    refine e_aload_n dX8_restore_103 rfl ?_
    refine e_getf fX8_84 X.obj rfl dX8_restore_104 ?_
    refine e_iload_n dX8_restore_107 rfl ?_
    refine e_ial X.a23 (by omega) (by omega) rfl ((congrArg _ (show ((k : Int)).toNat = k by omega)).trans (congrFun (show _ = ar 23 from hA 23 (by decide)) (k))) dX8_restore_108 ?_
    refine e_iastore X.a10 (by omega) (by omega) rfl dX8_restore_109 ?_
    refine X.sto10 (fun h9 X9 => ?_)
    replace X := X9
    clear X9
    refine e_iinc dX8_restore_110 rfl ?_
    refine e_goto (tgt := 80) dX8_restore_113 rfl ?_
    refine e_loc [(1, .int (iN (k + 1 : Nat))), (0, .ref m)] ⟨rfl, rfl, trivial⟩ (ih (k + 1) _ _ X (fun j hj => ?_) (fun q hq => ?_) (by omega))
    · have hj2 : j ≠ 9 ∧ j ≠ 10 := by simpa using hj
      rw [uA_n (by omega), uA_n (by omega)]
      exact hA j hj
    · refine ⟨?_, ?_⟩
      · show (uI (ar1 9) ((k : Int)).toNat (ar 22 (k))) (q) = ar 22 (q)
        by_cases c : q = k
        · subst c
          rw [show ((q : Int)).toNat = q by omega, uI_s]
        · rw [uI_n _ _ (show q ≠ ((k : Int)).toNat by omega)]
          exact (hI q (by omega)).1
      · show (uI (ar1 10) ((k : Int)).toNat (ar 23 (k))) (q) = ar 23 (q)
        by_cases c : q = k
        · subst c
          rw [show ((q : Int)).toNat = q by omega, uI_s]
        · rw [uI_n _ _ (show q ≠ ((k : Int)).toNat by omega)]
          exact (hI q (by omega)).2
set_option maxRecDepth 20000 in
theorem rs_3 {Z : g_Z} (kk : ∀ ar1 h, mdX G sc ar1 m h0 h → (∀ j, j ∉ [11] → ar1 j = ar j) → (∀ q, q < 4 → ar1 11 (q) = ar 24 (q)) → Ev (g_B G mX8_restore 0 0 Z) 0 0 none h 141 [(0, .ref m)] []) : ∀ (n k : Nat) (ar1 : Nat → Nat → Int) (h : g_hp), mdX G sc ar1 m h0 h → (∀ j, j ∉ [11] → ar1 j = ar j) → (∀ q, q < k → ar1 11 (q) = ar 24 (q)) → k + n = 4 → Ev (g_B G mX8_restore 0 0 Z) 0 0 none h 118 [(1, .int (iN (k : Nat))), (0, .ref m)] [] := by
  intro n
  induction n with
  | zero =>
    intro k ar1 h X hA hI hkn
    have e9 : k = 4 := by omega
    subst e9
    refine e_iload_n dX8_restore_118 rfl ?_
    refine e_iconst dX8_restore_119 ?_
    refine e_icmp_ge (tgt := 141) ⟨by omega, by omega⟩ ⟨by omega, by omega⟩ dX8_restore_120 rfl (fun c_120 => ?_) (fun c_120 => absurd (by omega) c_120)
    exact e_loc [(0, .ref m)] ⟨rfl, trivial⟩ (kk _ _ X hA hI)
  | succ n ih =>
    intro k ar1 h X hA hI hkn
    refine e_iload_n dX8_restore_118 rfl ?_
    refine e_iconst dX8_restore_119 ?_
    refine e_icmp_ge (tgt := 141) ⟨by omega, by omega⟩ ⟨by omega, by omega⟩ dX8_restore_120 rfl (fun c_120 => absurd c_120 (by omega)) (fun c_120 => ?_)
    refine e_aload_n dX8_restore_123 rfl ?_
    refine e_getf fX8_48 X.obj rfl dX8_restore_124 ?_
    refine e_iload_n dX8_restore_127 rfl ?_
    refine e_aload_n dX8_restore_128 rfl ?_
    refine e_getf fX8_87 X.obj rfl dX8_restore_129 ?_
    refine e_iload_n dX8_restore_132 rfl ?_
    refine e_ial X.a24 (by omega) (by omega) rfl ((congrArg _ (show ((k : Int)).toNat = k by omega)).trans (congrFun (show _ = ar 24 from hA 24 (by decide)) (k))) dX8_restore_133 ?_
    refine e_iastore X.a11 (by omega) (by omega) rfl dX8_restore_134 ?_
    refine X.sto11 (fun h9 X9 => ?_)
    replace X := X9
    clear X9
    refine e_iinc dX8_restore_135 rfl ?_
    refine e_goto (tgt := 118) dX8_restore_138 rfl ?_
    refine e_loc [(1, .int (iN (k + 1 : Nat))), (0, .ref m)] ⟨rfl, rfl, trivial⟩ (ih (k + 1) _ _ X (fun j hj => ?_) (fun q hq => ?_) (by omega))
    · have hj2 : j ≠ 11 := by simpa using hj
      rw [uA_n (by omega)]
      exact hA j hj
    · show (uI (ar1 11) ((k : Int)).toNat (ar 24 (k))) (q) = ar 24 (q)
      by_cases c : q = k
      · subst c
        rw [show ((q : Int)).toNat = q by omega, uI_s]
      · rw [uI_n _ _ (show q ≠ ((k : Int)).toNat by omega)]
        exact (hI q (by omega))
set_option maxRecDepth 20000 in
theorem rs_4 {Z : g_Z} (kk : ∀ ar1 h, mdX G sc ar1 m h0 h → (∀ j, j ∉ [14, 15, 16, 17] → ar1 j = ar j) → (∀ q, q < 20 → ar1 14 (q) = ar 25 (4 * q) ∧ ar1 15 (q) = ar 25 (4 * q + 1) ∧ ar1 16 (q) = ar 25 (4 * q + 2) ∧ ar1 17 (q) = ar 25 (4 * q + 3)) → Ev (g_B G mX8_restore 0 0 Z) 0 0 none h 217 [(0, .ref m)] []) : ∀ (n k : Nat) (ar1 : Nat → Nat → Int) (h : g_hp), mdX G sc ar1 m h0 h → (∀ j, j ∉ [14, 15, 16, 17] → ar1 j = ar j) → (∀ q, q < k → ar1 14 (q) = ar 25 (4 * q) ∧ ar1 15 (q) = ar 25 (4 * q + 1) ∧ ar1 16 (q) = ar 25 (4 * q + 2) ∧ ar1 17 (q) = ar 25 (4 * q + 3)) → k + n = 20 → Ev (g_B G mX8_restore 0 0 Z) 0 0 none h 143 [(1, .int (iN (k : Nat))), (0, .ref m)] [] := by
  intro n
  induction n with
  | zero =>
    intro k ar1 h X hA hI hkn
    have e9 : k = 20 := by omega
    subst e9
    refine e_iload_n dX8_restore_143 rfl ?_
    refine e_bipush dX8_restore_144 (by decide) ?_
    refine e_icmp_ge (tgt := 217) ⟨by omega, by omega⟩ ⟨by omega, by omega⟩ dX8_restore_146 rfl (fun c_146 => ?_) (fun c_146 => absurd (by omega) c_146)
    exact e_loc [(0, .ref m)] ⟨rfl, trivial⟩ (kk _ _ X hA hI)
  | succ n ih =>
    intro k ar1 h X hA hI hkn
    refine e_iload_n dX8_restore_143 rfl ?_
    refine e_bipush dX8_restore_144 (by decide) ?_
    refine e_icmp_ge (tgt := 217) ⟨by omega, by omega⟩ ⟨by omega, by omega⟩ dX8_restore_146 rfl (fun c_146 => absurd c_146 (by omega)) (fun c_146 => ?_)
    refine e_aload_n dX8_restore_149 rfl ?_
    refine e_getf fX8_57 X.obj rfl dX8_restore_150 ?_
    refine e_iload_n dX8_restore_153 rfl ?_
    refine e_aload_n dX8_restore_154 rfl ?_
    refine e_getf fX8_90 X.obj rfl dX8_restore_155 ?_
    refine e_iconst dX8_restore_158 ?_
    refine e_iload_n dX8_restore_159 rfl ?_
    refine e_imul dX8_restore_160 ?_
    refine e_ial X.a25 (by omega) (by omega) rfl ((congrArg _ (show (4 * (k : Int)).toNat = 4 * k by omega)).trans (congrFun (show _ = ar 25 from hA 25 (by decide)) (4 * k))) dX8_restore_161 ?_
    refine e_iastore X.a14 (by omega) (by omega) rfl dX8_restore_162 ?_
    refine X.sto14 (fun h9 X9 => ?_)
    replace X := X9
    clear X9
    refine e_aload_n dX8_restore_163 rfl ?_
    refine e_getf fX8_60 X.obj rfl dX8_restore_164 ?_
    refine e_iload_n dX8_restore_167 rfl ?_
    refine e_aload_n dX8_restore_168 rfl ?_
    refine e_getf fX8_90 X.obj rfl dX8_restore_169 ?_
    refine e_iconst dX8_restore_172 ?_
    refine e_iload_n dX8_restore_173 rfl ?_
    refine e_imul dX8_restore_174 ?_
    refine e_iconst dX8_restore_175 ?_
    refine e_iadd dX8_restore_176 ?_
    refine e_ial X.a25 (by omega) (by omega) rfl ((congrArg _ (show (4 * (k : Int) + 1).toNat = 4 * k + 1 by omega)).trans (congrFun (show _ = ar 25 from hA 25 (by decide)) (4 * k + 1))) dX8_restore_177 ?_
    refine e_iastore X.a15 (by omega) (by omega) rfl dX8_restore_178 ?_
    refine X.sto15 (fun h9 X9 => ?_)
    replace X := X9
    clear X9
    refine e_aload_n dX8_restore_179 rfl ?_
    refine e_getf fX8_63 X.obj rfl dX8_restore_180 ?_
    refine e_iload_n dX8_restore_183 rfl ?_
    refine e_aload_n dX8_restore_184 rfl ?_
    refine e_getf fX8_90 X.obj rfl dX8_restore_185 ?_
    refine e_iconst dX8_restore_188 ?_
    refine e_iload_n dX8_restore_189 rfl ?_
    refine e_imul dX8_restore_190 ?_
    refine e_iconst dX8_restore_191 ?_
    refine e_iadd dX8_restore_192 ?_
    refine e_ial X.a25 (by omega) (by omega) rfl ((congrArg _ (show (4 * (k : Int) + 2).toNat = 4 * k + 2 by omega)).trans (congrFun (show _ = ar 25 from hA 25 (by decide)) (4 * k + 2))) dX8_restore_193 ?_
    refine e_iastore X.a16 (by omega) (by omega) rfl dX8_restore_194 ?_
    refine X.sto16 (fun h9 X9 => ?_)
    replace X := X9
    clear X9
    refine e_aload_n dX8_restore_195 rfl ?_
    refine e_getf fX8_66 X.obj rfl dX8_restore_196 ?_
    refine e_iload_n dX8_restore_199 rfl ?_
    refine e_aload_n dX8_restore_200 rfl ?_
    refine e_getf fX8_90 X.obj rfl dX8_restore_201 ?_
    refine e_iconst dX8_restore_204 ?_
    refine e_iload_n dX8_restore_205 rfl ?_
    refine e_imul dX8_restore_206 ?_
    refine e_iconst dX8_restore_207 ?_
    refine e_iadd dX8_restore_208 ?_
    refine e_ial X.a25 (by omega) (by omega) rfl ((congrArg _ (show (4 * (k : Int) + 3).toNat = 4 * k + 3 by omega)).trans (congrFun (show _ = ar 25 from hA 25 (by decide)) (4 * k + 3))) dX8_restore_209 ?_
    refine e_iastore X.a17 (by omega) (by omega) rfl dX8_restore_210 ?_
    refine X.sto17 (fun h9 X9 => ?_)
    replace X := X9
    clear X9
    refine e_iinc dX8_restore_211 rfl ?_
    refine e_goto (tgt := 143) dX8_restore_214 rfl ?_
    refine e_loc [(1, .int (iN (k + 1 : Nat))), (0, .ref m)] ⟨rfl, rfl, trivial⟩ (ih (k + 1) _ _ X (fun j hj => ?_) (fun q hq => ?_) (by omega))
    · have hj2 : j ≠ 14 ∧ j ≠ 15 ∧ j ≠ 16 ∧ j ≠ 17 := by simpa using hj
      rw [uA_n (by omega), uA_n (by omega), uA_n (by omega), uA_n (by omega)]
      exact hA j hj
    · refine ⟨?_, ?_, ?_, ?_⟩
      · show (uI (ar1 14) ((k : Int)).toNat (ar 25 (4 * k))) (q) = ar 25 (4 * q)
        by_cases c : q = k
        · subst c
          rw [show ((q : Int)).toNat = q by omega, uI_s]
        · rw [uI_n _ _ (show q ≠ ((k : Int)).toNat by omega)]
          exact (hI q (by omega)).1
      · show (uI (ar1 15) ((k : Int)).toNat (ar 25 (4 * k + 1))) (q) = ar 25 (4 * q + 1)
        by_cases c : q = k
        · subst c
          rw [show ((q : Int)).toNat = q by omega, uI_s]
        · rw [uI_n _ _ (show q ≠ ((k : Int)).toNat by omega)]
          exact (hI q (by omega)).2.1
      · show (uI (ar1 16) ((k : Int)).toNat (ar 25 (4 * k + 2))) (q) = ar 25 (4 * q + 2)
        by_cases c : q = k
        · subst c
          rw [show ((q : Int)).toNat = q by omega, uI_s]
        · rw [uI_n _ _ (show q ≠ ((k : Int)).toNat by omega)]
          exact (hI q (by omega)).2.2.1
      · show (uI (ar1 17) ((k : Int)).toNat (ar 25 (4 * k + 3))) (q) = ar 25 (4 * q + 3)
        by_cases c : q = k
        · subst c
          rw [show ((q : Int)).toNat = q by omega, uI_s]
        · rw [uI_n _ _ (show q ≠ ((k : Int)).toNat by omega)]
          exact (hI q (by omega)).2.2.2
set_option maxRecDepth 20000 in
theorem M_restore (X : mdX G sc0 ar m h0 h) (hR : mdR sc0 ar P E S b P2 E2 S2 F) : Run G mX8_restore [.ref m] none h 0 0 (mZ G (k_restore b P2) (if b = 0 then P else P2) (if b = 0 then E else E2) (if b = 0 then S else S2) b P2 E2 S2 F m h0) := by
  refine run_of rfl plX8 rfl ?_
  refine e_aload_n dX8_restore_0 rfl ?_
  refine e_iconst dX8_restore_1 ?_
  refine e_putf pfX8_1 X.obj rfl rfl rfl dX8_restore_2 ?_
  refine X.pto (q := 0) (fun h9 X9 => ?_) rfl
  replace X := X9
  clear X9
  replace hR := hR.t0 0
  have ht : uI sc0 0 0 0 = 0 := uI_s _ _ _
  generalize uI sc0 0 0 = sc at X hR ht
  refine e_aload_n dX8_restore_5 rfl ?_
  refine e_aload_n dX8_restore_6 rfl ?_
  refine e_getf fX8_93 X.obj rfl dX8_restore_7 ?_
  have hK := hR.2.2.2.1
  refine e_iconst dX8_restore_10 ?_
  
  by_cases c_b : ¬ b = 0
  · have b1 := hK.1.resolve_left c_b
    obtain ⟨i1, i2, i3, i4, i5, i6, i7, i8, i9, i10⟩ := hK.2.2 b1
    rw [i1]
    refine e_icmp_eq (tgt := 18) ⟨by omega, by omega⟩ ⟨by decide, by decide⟩ dX8_restore_11 rfl (fun c_0 => absurd (show ¬ (P2.length : Int) = -1 by omega) (fun w => w c_0)) (fun c_0 => ?_)
    refine e_iconst dX8_restore_14 ?_
    refine e_top (bP (¬ b = 0)) (bP_t c_b).symm ?_
    refine e_goto (tgt := 19) dX8_restore_15 rfl ?_
    refine e_iconst dX8_restore_19 ?_
    refine e_pureV qcX8_104 X.obj rfl rfl (S_fails_t X c_b ht) rfl rfl rfl rfl dX8_restore_20 ?_
    refine e_if_eq (tgt := 28) ⟨by decide, by decide⟩ dX8_restore_23 rfl (fun c_23 => ?_) (fun c_23 => absurd rfl c_23)
    refine e_iconst dX8_restore_28 ?_
    refine e_istore_n dX8_restore_29 rfl ?_
    refine e_loc [(1, .int (iN (0 : Nat))), (0, .ref m)] ⟨rfl, rfl, trivial⟩ (rs_1 (fun ar1 h X hA1 hI1 => ?_) _ 0 _ _ X (fun _ _ => rfl) (fun q hq => absurd hq (Nat.not_lt_zero _)) (Nat.zero_add _))
    refine e_iconst dX8_restore_78 ?_
    refine e_istore_n dX8_restore_79 rfl ?_
    refine e_loc [(1, .int (iN (0 : Nat))), (0, .ref m)] ⟨rfl, rfl, trivial⟩ (rs_2 (fun ar2 h X hA2 hI2 => ?_) _ 0 _ _ X (fun _ _ => rfl) (fun q hq => absurd hq (Nat.not_lt_zero _)) (Nat.zero_add _))
    refine e_iconst dX8_restore_116 ?_
    refine e_istore_n dX8_restore_117 rfl ?_
    refine e_loc [(1, .int (iN (0 : Nat))), (0, .ref m)] ⟨rfl, rfl, trivial⟩ (rs_3 (fun ar3 h X hA3 hI3 => ?_) _ 0 _ _ X (fun _ _ => rfl) (fun q hq => absurd hq (Nat.not_lt_zero _)) (Nat.zero_add _))
    refine e_iconst dX8_restore_141 ?_
    refine e_istore_n dX8_restore_142 rfl ?_
    refine e_loc [(1, .int (iN (0 : Nat))), (0, .ref m)] ⟨rfl, rfl, trivial⟩ (rs_4 (fun ar4 h X hA4 hI4 => ?_) _ 0 _ _ X (fun _ _ => rfl) (fun q hq => absurd hq (Nat.not_lt_zero _)) (Nat.zero_add _))
    refine e_aload_n dX8_restore_217 rfl ?_
    refine e_aload_n dX8_restore_218 rfl ?_
    refine e_getf fX8_93 X.obj rfl dX8_restore_219 ?_
    rw [show sc 43 = (P2.length : Int) from i1]
    refine e_putf pfX8_108 X.obj rfl rfl rfl dX8_restore_222 ?_
    refine X.pto (q := 4) (fun h9 X9 => ?_) rfl
    replace X := X9
    clear X9
    refine e_aload_n dX8_restore_225 rfl ?_
    refine e_aload_n dX8_restore_226 rfl ?_
    refine e_getf fX8_313 X.obj rfl dX8_restore_227 ?_
    rw [show uI sc 4 (P2.length : Int) 44 = ((E2.length / 2 : Nat) : Int) from i5]
    refine e_putf pfX8_281 X.obj rfl rfl rfl dX8_restore_230 ?_
    refine X.pto (q := 33) (fun h9 X9 => ?_) rfl
    replace X := X9
    clear X9
    refine e_aload_n dX8_restore_233 rfl ?_
    refine e_getf fX8_108 X.obj rfl dX8_restore_234 ?_
    rw [show uI (uI sc 4 (P2.length : Int)) 33 ((E2.length / 2 : Nat) : Int) 4 = (P2.length : Int) from rfl]
    refine e_iret rfl dX8_restore_237 (by decide) (by decide) ?_
    have g : ∀ j, j ∉ [0, 1, 2, 9, 10, 11, 14, 15, 16, 17] → ar4 j = ar j := fun j hj => by
      have hj2 : j ≠ 0 ∧ j ≠ 1 ∧ j ≠ 2 ∧ j ≠ 9 ∧ j ≠ 10 ∧ j ≠ 11 ∧ j ≠ 14 ∧ j ≠ 15 ∧ j ≠ 16 ∧ j ≠ 17 := by simpa using hj
      rw [hA4 j (by simp; omega), hA3 j (by simp; omega), hA2 j (by simp; omega), hA1 j (by simp; omega)]
    have k0 : ar4 0 = ar1 0 := by rw [hA4 0 (by decide), hA3 0 (by decide), hA2 0 (by decide)]
    have k1 : ar4 1 = ar1 1 := by rw [hA4 1 (by decide), hA3 1 (by decide), hA2 1 (by decide)]
    have k2 : ar4 2 = ar1 2 := by rw [hA4 2 (by decide), hA3 2 (by decide), hA2 2 (by decide)]
    have k9 : ar4 9 = ar2 9 := by rw [hA4 9 (by decide), hA3 9 (by decide)]
    have k10 : ar4 10 = ar2 10 := by rw [hA4 10 (by decide), hA3 10 (by decide)]
    have k11 : ar4 11 = ar3 11 := hA4 11 (by decide)
    have j22 : ar1 22 = ar 22 := hA1 22 (by decide)
    have j23 : ar1 23 = ar 23 := hA1 23 (by decide)
    have j24 : ar2 24 = ar 24 := by rw [hA2 24 (by decide), hA1 24 (by decide)]
    have j25 : ar3 25 = ar 25 := by rw [hA3 25 (by decide), hA2 25 (by decide), hA1 25 (by decide)]
    have hF := hR.2.2.2.2
    refine mz (show (k_restore b P2) = (0, (P2.length : Int)) from if_neg c_b) ⟨rfl, rfl, _, _, X, ?_, ht⟩
    rw [if_neg c_b, if_neg c_b, if_neg c_b]
    refine ⟨⟨rfl, i2, i3, fun p hp => ?_⟩, ⟨rfl, i6, i7, i8, fun l hl => ?_⟩, fun q hq => ?_, ?_, hF.to (g 5 (by decide)) (g 6 (by decide)) (g 7 (by decide))⟩
    · rw [k0, k1, k2]
      have := hI1 p (by omega)
      rw [this.1, this.2.1, this.2.2]
      exact i4 p hp
    · have := hI4 l (by omega)
      rw [this.1, this.2.1, this.2.2.1, this.2.2.2, j25]
      exact i9 l hl
    · obtain ⟨s1, s2, s3, s4⟩ := i10 q hq
      rw [k11, hI3 q hq, j24]
      refine ⟨s1, s2, s3, fun k hk => ?_⟩
      have := hI2 (16 * q + k) (by omega)
      rw [k9, k10, this.1, this.2, j22, j23]
      exact s4 k hk
    · have hK2 : mdI sc ar b P2 E2 S2 := hK
      unfold mdI at hK2 ⊢
      rw [g 19 (by decide), g 20 (by decide), g 21 (by decide), g 22 (by decide), g 23 (by decide), g 24 (by decide), g 25 (by decide)]
      exact hK2
  rw [hK.2.1 (Decidable.of_not_not c_b)]
  refine e_icmp_eq (tgt := 18) ⟨by decide, by decide⟩ ⟨by decide, by decide⟩ dX8_restore_11 rfl (fun c_0 => ?_) (fun c_0 => absurd rfl c_0)
  refine e_iconst dX8_restore_18 ?_
  refine e_top (bP (¬ b = 0)) (bP_f c_b).symm ?_
  refine e_iconst dX8_restore_19 ?_
  refine e_doesV qcX8_104 X.obj rfl rfl (S_fails_f X c_b ht ⟨by decide, by decide⟩) rfl rfl rfl rfl dX8_restore_20 ?_
  intro v h9 q9
  obtain ⟨rfl, X⟩ := q9
  refine e_if_eq (tgt := 28) ⟨by decide, by decide⟩ dX8_restore_23 rfl (fun c_23 => absurd c_23 (by decide)) (fun c_23 => ?_)
  refine e_iconst dX8_restore_26 ?_
  refine e_iret rfl dX8_restore_27 (by decide) (by decide) ?_
  exact mz (show (k_restore b P2) = (1, 0) from (if_pos (Decidable.of_not_not c_b))) ⟨rfl, rfl, _, _, X, (by rw [if_pos (Decidable.of_not_not c_b), if_pos (Decidable.of_not_not c_b), if_pos (Decidable.of_not_not c_b)]; exact hR.t0 _), uI_s _ _ _⟩
end MSEVENTEEN
