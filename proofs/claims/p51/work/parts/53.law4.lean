/-! The law: the width -/
theorem r64_tw {ax ay bx b' cx cy : Int} (h1 : b1k ax) (h2 : b1k ay) (h3 : b1k bx) (h4 : b1k b') (h5 : b1k cx) (h6 : b1k cy) : r64 ((bx - ax) * (cy - ay) - (b' - ay) * (cx - ax)) := by
  have h := tw_r h1 h2 h3 h4 h5 h6
  unfold tw at h
  exact ⟨Int.le_trans (by decide) h.1, Int.lt_of_le_of_lt h.2 (by decide)⟩
theorem okb {F : PL} (hS : okS F) {i : Nat} (hi : i < F.length) : b1k (pX F i) ∧ b1k (pY F i) := by
  have := hS i hi
  exact ⟨⟨by omega, by omega⟩, ⟨by omega, by omega⟩⟩
theorem r64_mm {a c : Int} (h1 : 0 ≤ a ∧ a ≤ 1638400000000) (h2 : 0 ≤ c ∧ c ≤ 1280000) : r64 (a * c) := by
  have m := mul_bd (a := a) (b := c) (A := 1638400000000) (B := 1280000) ⟨by omega, h1.2⟩ ⟨by omega, h2.2⟩
  exact ⟨Int.le_trans (by decide) m.1, Int.lt_of_le_of_lt m.2 (by decide)⟩
theorem sqw_pos {F : PL} (he : ∀ i, i < F.length → 0 < sqL F i) : ∀ n, 0 < n → n ≤ F.length → 0 < (sqw F n).2
  | 0, h, _ => absurd h (Nat.lt_irrefl _)
  | n + 1, _, hn => by
    by_cases c : sqC F n
    · rw [sqw_t c]
      exact he n (by omega)
    · rw [sqw_n c]
      exact sqw_pos he n (Nat.pos_of_ne_zero fun w => c (Or.inl w)) (by omega)
theorem sqW_mul {F : PL} (hS : okS F) (hu : 0 < (sqw F F.length).2) : sqW F False * (sqw F F.length).2 = (sqw F F.length).1 * sqW F True ∧ (0 ≤ sqW F False ∧ sqW F False ≤ 1638400000000) ∧ (0 ≤ sqW F True ∧ sqW F True ≤ 1280000) := by
  have w := sqw_bd hS F.length (Nat.le_refl _)
  have d1 : (sqD F : Int) ∣ (sqw F F.length).1 := Int.dvd_natAbs.mp (Int.natCast_dvd_natCast.mpr (Nat.gcd_dvd_left _ _))
  have d2 : (sqD F : Int) ∣ (sqw F F.length).2 := Int.dvd_natAbs.mp (Int.natCast_dvd_natCast.mpr (Nat.gcd_dvd_right _ _))
  have d0 : 0 < sqD F := Nat.gcd_pos_of_pos_right _ (by omega)
  have e1 : sqW F False = (sqw F F.length).1.tdiv (sqD F) := by
    unfold sqW
    rw [if_neg (by omega), if_neg (fun h => h)]
  have e2 : sqW F True = (sqw F F.length).2.tdiv (sqD F) := by
    unfold sqW
    rw [if_neg (by omega), if_pos trivial]
  rw [e1, e2]
  generalize (sqw F F.length).1 = a at d1 w
  generalize (sqw F F.length).2 = c at d2 w hu
  generalize sqD F = D at d0 d1 d2
  obtain ⟨q1, rfl⟩ := d1
  obtain ⟨q2, rfl⟩ := d2
  rw [Int.mul_tdiv_cancel_left q1 (by omega), Int.mul_tdiv_cancel_left q2 (by omega)]
  have h9 : (1 : Int) ≤ D := by omega
  have p1 : 0 ≤ q1 := nn_of (k := (D : Int)) (by omega) w.1.1
  have p2 : 0 ≤ q2 := nn_of (k := (D : Int)) (by omega) w.2.1
  have l1 := Int.mul_le_mul_of_nonneg_right h9 p1
  have l2 := Int.mul_le_mul_of_nonneg_right h9 p2
  rw [Int.one_mul] at l1 l2
  refine ⟨by rw [← Int.mul_assoc, Int.mul_comm q1], ⟨p1, by omega⟩, p2, by omega⟩
section LAW4
variable {G : g_X} {x pt sd cr : Int} {HP XS YS GX GY FX FY : Nat → Int} {P E : PL} {S : Nat → PL} {b : Int} {P2 E2 : PL} {S2 : Nat → PL} {F : PL} {l : Nat} {h : g_hp}
set_option maxRecDepth 20000 in
theorem iw_inner (W : lwW G x pt sd cr HP XS YS GX GY FX FY P E S b P2 E2 S2 F l h) (hc : cr = F.length) (hl : F.length ≤ 80) (hS : okS F) (hx : ∀ i, i < F.length → FX i = pX F i ∧ FY i = pY F i) {ar : Int} (ha : 0 < ar) (ra : r32 ar) {k9 : Nat} (hk : k9 < F.length) (kk : Ev (g_B G mL_isWide 4 (6 * 4) (zQ (fun v h1 => v = .int (iN 1) ∧ lwW G x pt sd cr HP XS YS GX GY FX FY P E S b P2 E2 S2 F l h1))) 0 (6 * 0) none h 123 [(8, .long (lI (sqR F k9))), (7, .int (iN ((nxt F.length k9 : Nat) : Int))), (6, .int (iN (k9 : Int))), (4, .long (lI (sqw F k9).2)), (2, .long (lI (sqw F k9).1)), (1, .int (iN ar)), (0, .ref l)] []) : ∀ (n j : Nat), j + n = F.length → Ev (g_B G mL_isWide 4 (6 * 4) (zQ (fun v h1 => v = .int (iN 1) ∧ lwW G x pt sd cr HP XS YS GX GY FX FY P E S b P2 E2 S2 F l h1))) 0 (6 * 0) none h 34 [(10, .int (iN ((j : Nat) : Int))), (8, .long (lI (rch F k9 (j)))), (7, .int (iN ((nxt F.length k9 : Nat) : Int))), (6, .int (iN (k9 : Int))), (4, .long (lI (sqw F k9).2)), (2, .long (lI (sqw F k9).1)), (1, .int (iN ar)), (0, .ref l)] []
  | 0, j, e => by
    have e2 : j = F.length := by omega
    subst e2
    subst hc
    refine e_iload dL_isWide_34 rfl ?_
    refine e_aload_n dL_isWide_36 rfl ?_
    refine e_getf fL_71 W.obj rfl dL_isWide_37 ?_
    refine e_icmp_ge (tgt := 123) ⟨by omega, by omega⟩ ⟨by omega, by omega⟩ dL_isWide_40 rfl (fun c_9 => ?_) (fun c_9 => absurd (by omega) c_9)
    exact e_loc [(8, .long (lI (sqR F k9))), (7, .int (iN ((nxt F.length k9 : Nat) : Int))), (6, .int (iN (k9 : Int))), (4, .long (lI (sqw F k9).2)), (2, .long (lI (sqw F k9).1)), (1, .int (iN ar)), (0, .ref l)] ⟨rfl, rfl, rfl, rfl, rfl, rfl, rfl, trivial⟩ kk
  | n + 1, j, e => by
    have ih := iw_inner W hc hl hS hx ha ra hk kk n (j + 1) (by omega)
    have hn := nxt_lt hk
    have ek := hx k9 hk
    have ea := hx (nxt F.length k9) hn
    have ej := hx j (by omega)
    have bk := okb hS hk
    have ba := okb hS hn
    have bj := okb hS (show j < F.length by omega)
    have hr := rch_bd (L := F) (B := 1280000) (by decide) k9 (n := j) (fun i hi => (tw3_s hS hk hn (show i < F.length by omega)).2)
    have r1 : r64 (rch F k9 j) := ⟨by omega, by omega⟩
    clear hr
    subst hc
    refine e_iload dL_isWide_34 rfl ?_
    refine e_aload_n dL_isWide_36 rfl ?_
    refine e_getf fL_71 W.obj rfl dL_isWide_37 ?_
    refine e_icmp_ge (tgt := 123) ⟨by omega, by omega⟩ ⟨by omega, by omega⟩ dL_isWide_40 rfl (fun c_9 => absurd c_9 (by omega)) (fun c_9 => ?_)
    refine e_lload dL_isWide_43 rfl ?_
    refine e_aload_n dL_isWide_45 rfl ?_
    refine e_getf fL_32 W.obj rfl dL_isWide_46 ?_
    refine e_iload dL_isWide_49 rfl ?_
    refine e_iaE W.fx (by omega) rfl ea.1 dL_isWide_51 ?_
    refine e_aload_n dL_isWide_52 rfl ?_
    refine e_getf fL_32 W.obj rfl dL_isWide_53 ?_
    refine e_iload dL_isWide_56 rfl ?_
    refine e_iaE W.fx (by omega) rfl ek.1 dL_isWide_58 ?_
    refine e_isub dL_isWide_59 ?_
    refine e_i2l ⟨by omega, by omega⟩ dL_isWide_60 ?_
    refine e_aload_n dL_isWide_61 rfl ?_
    refine e_getf fL_35 W.obj rfl dL_isWide_62 ?_
    refine e_iload dL_isWide_65 rfl ?_
    refine e_iaE W.fy (by omega) rfl ej.2 dL_isWide_67 ?_
    refine e_aload_n dL_isWide_68 rfl ?_
    refine e_getf fL_35 W.obj rfl dL_isWide_69 ?_
    refine e_iload dL_isWide_72 rfl ?_
    refine e_iaE W.fy (by omega) rfl ek.2 dL_isWide_74 ?_
    refine e_isub dL_isWide_75 ?_
    refine e_i2l ⟨by omega, by omega⟩ dL_isWide_76 ?_
    refine e_lmul dL_isWide_77 ?_
    refine e_aload_n dL_isWide_78 rfl ?_
    refine e_getf fL_35 W.obj rfl dL_isWide_79 ?_
    refine e_iload dL_isWide_82 rfl ?_
    refine e_iaE W.fy (by omega) rfl ea.2 dL_isWide_84 ?_
    refine e_aload_n dL_isWide_85 rfl ?_
    refine e_getf fL_35 W.obj rfl dL_isWide_86 ?_
    refine e_iload dL_isWide_89 rfl ?_
    refine e_iaE W.fy (by omega) rfl ek.2 dL_isWide_91 ?_
    refine e_isub dL_isWide_92 ?_
    refine e_i2l ⟨by omega, by omega⟩ dL_isWide_93 ?_
    refine e_aload_n dL_isWide_94 rfl ?_
    refine e_getf fL_32 W.obj rfl dL_isWide_95 ?_
    refine e_iload dL_isWide_98 rfl ?_
    refine e_iaE W.fx (by omega) rfl ej.1 dL_isWide_100 ?_
    refine e_aload_n dL_isWide_101 rfl ?_
    refine e_getf fL_32 W.obj rfl dL_isWide_102 ?_
    refine e_iload dL_isWide_105 rfl ?_
    refine e_iaE W.fx (by omega) rfl ek.1 dL_isWide_107 ?_
    refine e_isub dL_isWide_108 ?_
    refine e_i2l ⟨by omega, by omega⟩ dL_isWide_109 ?_
    refine e_lmul dL_isWide_110 ?_
    refine e_lsub dL_isWide_111 ?_
    refine e_mmaxL r1 (r64_tw bk.1 bk.2 ba.1 ba.2 bj.1 bj.2) qcL_104 rfl dL_isWide_112 ?_
    refine e_lstore dL_isWide_115 rfl ?_
    refine e_iinc dL_isWide_117 rfl ?_
    refine e_goto (tgt := 34) dL_isWide_120 rfl ?_
    exact e_loc [(10, .int (iN ((j + 1 : Nat) : Int))), (8, .long (lI (rch F k9 (j + 1)))), (7, .int (iN ((nxt F.length k9 : Nat) : Int))), (6, .int (iN (k9 : Int))), (4, .long (lI (sqw F k9).2)), (2, .long (lI (sqw F k9).1)), (1, .int (iN ar)), (0, .ref l)] ⟨rfl, rfl, rfl, rfl, rfl, rfl, rfl, rfl, trivial⟩ ih
set_option maxRecDepth 20000 in
theorem iw_outer (W : lwW G x pt sd cr HP XS YS GX GY FX FY P E S b P2 E2 S2 F l h) (hc : cr = F.length) (hl : F.length ≤ 80) (hS : okS F) (hx : ∀ i, i < F.length → FX i = pX F i ∧ FY i = pY F i) {ar : Int} (ha : 0 < ar) (ra : r32 ar) (he : ∀ i, i < F.length → 0 < sqL F i) (kk : Ev (g_B G mL_isWide 4 (6 * 4) (zQ (fun v h1 => v = .int (iN 1) ∧ lwW G x pt sd cr HP XS YS GX GY FX FY P E S b P2 E2 S2 F l h1))) 0 (6 * 0) none h 234 [(4, .long (lI (sqw F F.length).2)), (2, .long (lI (sqw F F.length).1)), (1, .int (iN ar)), (0, .ref l)] []) : ∀ (n k9 : Nat), k9 + n = F.length → Ev (g_B G mL_isWide 4 (6 * 4) (zQ (fun v h1 => v = .int (iN 1) ∧ lwW G x pt sd cr HP XS YS GX GY FX FY P E S b P2 E2 S2 F l h1))) 0 (6 * 0) none h 8 [(6, .int (iN ((k9 : Nat) : Int))), (4, .long (lI (sqw F (k9)).2)), (2, .long (lI (sqw F (k9)).1)), (1, .int (iN ar)), (0, .ref l)] []
  | 0, k9, e => by
    have e2 : k9 = F.length := by omega
    subst e2
    subst hc
    refine e_iload dL_isWide_8 rfl ?_
    refine e_aload_n dL_isWide_10 rfl ?_
    refine e_getf fL_71 W.obj rfl dL_isWide_11 ?_
    refine e_icmp_ge (tgt := 234) ⟨by omega, by omega⟩ ⟨by omega, by omega⟩ dL_isWide_14 rfl (fun c_9 => ?_) (fun c_9 => absurd (by omega) c_9)
    exact e_loc [(4, .long (lI (sqw F F.length).2)), (2, .long (lI (sqw F F.length).1)), (1, .int (iN ar)), (0, .ref l)] ⟨rfl, rfl, rfl, rfl, trivial⟩ kk
  | n + 1, k9, e => by
    have ih := iw_outer W hc hl hS hx ha ra he kk n (k9 + 1) (by omega)
    have hk : k9 < F.length := by omega
    have hn := nxt_lt hk
    have ek := hx k9 hk
    have ea := hx (nxt F.length k9) hn
    have bk := okb hS hk
    have ba := okb hS hn
    have inn := fun q => iw_inner W hc hl hS hx ha ra hk q F.length 0 (Nat.zero_add _)
    have hw := sqw_bd hS k9 (by omega)
    have hw2 : r64 (sqw F k9).2 := ⟨by omega, by omega⟩
    have hp : k9 ≠ 0 → 0 < (sqw F k9).2 := fun w => sqw_pos he k9 (Nat.pos_of_ne_zero w) (by omega)
    have hz : k9 = 0 → (sqw F k9).2 = 0 := fun w => by
      rw [w]
      rfl
    have m1 := r64_mm (sqR2_bd hS hk) hw.2
    have m2 := r64_mm hw.1 (sqL_bd hS hk)
    have et := tm_nxt hk
    clear hw
    subst hc
    refine e_iload dL_isWide_8 rfl ?_
    refine e_aload_n dL_isWide_10 rfl ?_
    refine e_getf fL_71 W.obj rfl dL_isWide_11 ?_
    refine e_icmp_ge (tgt := 234) ⟨by omega, by omega⟩ ⟨by omega, by omega⟩ dL_isWide_14 rfl (fun c_9 => absurd c_9 (by omega)) (fun c_9 => ?_)
    refine e_iload dL_isWide_17 rfl ?_
    refine e_iconst dL_isWide_19 ?_
    refine e_iadd dL_isWide_20 ?_
    refine e_aload_n dL_isWide_21 rfl ?_
    refine e_getf fL_71 W.obj rfl dL_isWide_22 ?_
    refine e_irem ⟨by omega, by omega⟩ ⟨by omega, by omega⟩ (by omega) dL_isWide_25 ?_
    rw [et]
    refine e_istore dL_isWide_26 rfl ?_
    refine e_lconst dL_isWide_28 ?_
    refine e_lstore dL_isWide_29 rfl ?_
    refine e_iconst dL_isWide_31 ?_
    refine e_istore dL_isWide_32 rfl ?_
    refine e_loc [(10, .int (iN ((0 : Nat) : Int))), (8, .long (lI (rch F k9 (0)))), (7, .int (iN ((nxt F.length k9 : Nat) : Int))), (6, .int (iN (k9 : Int))), (4, .long (lI (sqw F k9).2)), (2, .long (lI (sqw F k9).1)), (1, .int (iN ar)), (0, .ref l)] ⟨rfl, rfl, rfl, rfl, rfl, rfl, rfl, rfl, trivial⟩ ?_
    refine inn ?_
    refine e_aload_n dL_isWide_123 rfl ?_
    refine e_getf fL_32 W.obj rfl dL_isWide_124 ?_
    refine e_iload dL_isWide_127 rfl ?_
    refine e_iaE W.fx (by omega) rfl ea.1 dL_isWide_129 ?_
    refine e_aload_n dL_isWide_130 rfl ?_
    refine e_getf fL_32 W.obj rfl dL_isWide_131 ?_
    refine e_iload dL_isWide_134 rfl ?_
    refine e_iaE W.fx (by omega) rfl ek.1 dL_isWide_136 ?_
    refine e_isub dL_isWide_137 ?_
    refine e_i2l ⟨by omega, by omega⟩ dL_isWide_138 ?_
    refine e_aload_n dL_isWide_139 rfl ?_
    refine e_getf fL_32 W.obj rfl dL_isWide_140 ?_
    refine e_iload dL_isWide_143 rfl ?_
    refine e_iaE W.fx (by omega) rfl ea.1 dL_isWide_145 ?_
    refine e_aload_n dL_isWide_146 rfl ?_
    refine e_getf fL_32 W.obj rfl dL_isWide_147 ?_
    refine e_iload dL_isWide_150 rfl ?_
    refine e_iaE W.fx (by omega) rfl ek.1 dL_isWide_152 ?_
    refine e_isub dL_isWide_153 ?_
    refine e_i2l ⟨by omega, by omega⟩ dL_isWide_154 ?_
    refine e_lmul dL_isWide_155 ?_
    refine e_aload_n dL_isWide_156 rfl ?_
    refine e_getf fL_35 W.obj rfl dL_isWide_157 ?_
    refine e_iload dL_isWide_160 rfl ?_
    refine e_iaE W.fy (by omega) rfl ea.2 dL_isWide_162 ?_
    refine e_aload_n dL_isWide_163 rfl ?_
    refine e_getf fL_35 W.obj rfl dL_isWide_164 ?_
    refine e_iload dL_isWide_167 rfl ?_
    refine e_iaE W.fy (by omega) rfl ek.2 dL_isWide_169 ?_
    refine e_isub dL_isWide_170 ?_
    refine e_i2l ⟨by omega, by omega⟩ dL_isWide_171 ?_
    refine e_aload_n dL_isWide_172 rfl ?_
    refine e_getf fL_35 W.obj rfl dL_isWide_173 ?_
    refine e_iload dL_isWide_176 rfl ?_
    refine e_iaE W.fy (by omega) rfl ea.2 dL_isWide_178 ?_
    refine e_aload_n dL_isWide_179 rfl ?_
    refine e_getf fL_35 W.obj rfl dL_isWide_180 ?_
    refine e_iload dL_isWide_183 rfl ?_
    refine e_iaE W.fy (by omega) rfl ek.2 dL_isWide_185 ?_
    refine e_isub dL_isWide_186 ?_
    refine e_i2l ⟨by omega, by omega⟩ dL_isWide_187 ?_
    refine e_lmul dL_isWide_188 ?_
    refine e_ladd dL_isWide_189 ?_
    refine e_lstore dL_isWide_190 rfl ?_
    refine e_lload dL_isWide_192 rfl ?_
    refine e_lconst dL_isWide_194 ?_
    refine e_lif_le (tgt := 218) hw2 r64_0 dL_isWide_195 dL_isWide_196 rfl (fun c_195 => ?_) (fun c_195 => ?_)
    · refine e_lload dL_isWide_218 rfl ?_
      refine e_lload dL_isWide_220 rfl ?_
      refine e_lmul dL_isWide_222 ?_
      refine e_lstore_n dL_isWide_223 rfl ?_
      refine e_lload dL_isWide_224 rfl ?_
      refine e_lstore dL_isWide_226 rfl ?_
      have hC : sqC F k9 := Or.inl (Classical.byContradiction fun w => absurd (hp w) (by omega))
      refine e_iinc dL_isWide_228 rfl ?_
      refine e_goto (tgt := 8) dL_isWide_231 rfl ?_
      rw [sqw_t hC] at ih
      exact e_loc [(6, .int (iN ((k9 + 1 : Nat) : Int))), (4, .long (lI (sqL F k9))), (2, .long (lI (sqR F k9 * sqR F k9))), (1, .int (iN ar)), (0, .ref l)] ⟨rfl, rfl, rfl, rfl, rfl, trivial⟩ ih
    · refine e_lload dL_isWide_199 rfl ?_
      refine e_lload dL_isWide_201 rfl ?_
      refine e_lmul dL_isWide_203 ?_
      refine e_lload dL_isWide_204 rfl ?_
      refine e_lmul dL_isWide_206 ?_
      refine e_lload_n dL_isWide_207 rfl ?_
      refine e_lload dL_isWide_208 rfl ?_
      refine e_lmul dL_isWide_210 ?_
      refine e_lif_lt (tgt := 218) m1 m2 dL_isWide_211 dL_isWide_212 rfl (fun c_211 => ?_) (fun c_211 => ?_)
      · refine e_lload dL_isWide_218 rfl ?_
        refine e_lload dL_isWide_220 rfl ?_
        refine e_lmul dL_isWide_222 ?_
        refine e_lstore_n dL_isWide_223 rfl ?_
        refine e_lload dL_isWide_224 rfl ?_
        refine e_lstore dL_isWide_226 rfl ?_
        have hC : sqC F k9 := Or.inr c_211
        refine e_iinc dL_isWide_228 rfl ?_
        refine e_goto (tgt := 8) dL_isWide_231 rfl ?_
        rw [sqw_t hC] at ih
        exact e_loc [(6, .int (iN ((k9 + 1 : Nat) : Int))), (4, .long (lI (sqL F k9))), (2, .long (lI (sqR F k9 * sqR F k9))), (1, .int (iN ar)), (0, .ref l)] ⟨rfl, rfl, rfl, rfl, rfl, trivial⟩ ih
      · refine e_goto (tgt := 228) dL_isWide_215 rfl ?_
        have hC : ¬ sqC F k9 := fun w => w.elim (fun w => absurd (hz w) (by omega)) c_211
        refine e_iinc dL_isWide_228 rfl ?_
        refine e_goto (tgt := 8) dL_isWide_231 rfl ?_
        rw [sqw_n hC] at ih
        exact e_loc [(6, .int (iN ((k9 + 1 : Nat) : Int))), (4, .long (lI ((sqw F k9).2))), (2, .long (lI ((sqw F k9).1))), (1, .int (iN ar)), (0, .ref l)] ⟨rfl, rfl, rfl, rfl, rfl, trivial⟩ ih
set_option maxRecDepth 20000 in
theorem L_isWide (W : lwW G x pt sd cr HP XS YS GX GY FX FY P E S b P2 E2 S2 F l h) (hc : cr = F.length) (hl : F.length ≤ 80) (hS : okS F) (hx : ∀ i, i < F.length → FX i = pX F i ∧ FY i = pY F i) {ar : Int} (ha : 0 < ar) (ra : r32 ar) (h3 : 3 ≤ F.length) (he : ∀ i, i < F.length → 0 < sqL F i) (hn : ¬ bxF F ≤ 0 → vf_n32 (FP.fdiv (FP.i2f (iN (da F))) (FP.i2f (iN (bxF F))))) (hf0 : Op.cmpValue (FP.fcmp (k_fills F) FP.fconst0) .l = iN 1) {v9 : Int} (hv9 : v9 = 0 ∨ v9 = -1) (hf1 : Op.cmpValue (FP.fcmp (k_fills F) FP.fconst1) .g = iN v9) : Run G mL_isWide [.ref l, .int (iN ar)] none h 4 (6 * 4) (zQ (fun v h1 => v = .int (iN 1) ∧ lwW G x pt sd cr HP XS YS GX GY FX FY P E S b P2 E2 S2 F l h1)) := by
  have hu := sqw_pos he F.length (by omega) (Nat.le_refl _)
  obtain ⟨em, b1, b2⟩ := sqW_mul hS hu
  have hw := sqw_bd hS F.length (Nat.le_refl _)
  have m1 := r64_mm b1 hw.2
  have m2 := r64_mm hw.1 b2
  refine run_L rfl plL rfl ?_
  refine e_lconst dL_isWide_0 ?_
  refine e_lstore_n dL_isWide_1 rfl ?_
  refine e_lconst dL_isWide_2 ?_
  refine e_lstore dL_isWide_3 rfl ?_
  refine e_iconst dL_isWide_5 ?_
  refine e_istore dL_isWide_6 rfl ?_
  refine e_loc [(6, .int (iN ((0 : Nat) : Int))), (4, .long (lI (sqw F (0)).2)), (2, .long (lI (sqw F (0)).1)), (1, .int (iN ar)), (0, .ref l)] ⟨rfl, rfl, rfl, rfl, rfl, trivial⟩ ?_
  refine iw_outer W hc hl hS hx ha ra he ?_ F.length 0 (Nat.zero_add _)
  refine e_iload_n dL_isWide_234 rfl ?_
  refine e_if_le (tgt := 291) ra dL_isWide_235 rfl (fun c => absurd ha (by omega)) (fun _ => ?_)
  refine e_aload_n dL_isWide_238 rfl ?_
  refine e_getf fL_10 W.obj rfl dL_isWide_239 ?_
  refine e_iconst dL_isWide_242 ?_
  refine e_hs W qcL_108 rfl (fun _ _ _ _ _ _ _ _ _ X => D_width X (u := False) h3 hS) rfl rfl rfl rfl (by omega) dL_isWide_243 (fun h W => ?_)
  refine e_lload dL_isWide_246 rfl ?_
  refine e_lmul dL_isWide_248 ?_
  refine e_lload_n dL_isWide_249 rfl ?_
  refine e_aload_n dL_isWide_250 rfl ?_
  refine e_getf fL_10 W.obj rfl dL_isWide_251 ?_
  refine e_iconst dL_isWide_254 ?_
  refine e_hs W qcL_108 rfl (fun _ _ _ _ _ _ _ _ _ X => D_width X (u := True) h3 hS) rfl rfl rfl rfl (by omega) dL_isWide_255 (fun h W => ?_)
  refine e_lmul dL_isWide_258 ?_
  refine e_lif_ne (tgt := 291) m1 m2 dL_isWide_259 dL_isWide_260 rfl (fun c => absurd em c) (fun _ => ?_)
  refine e_aload_n dL_isWide_263 rfl ?_
  refine e_getf fL_10 W.obj rfl dL_isWide_264 ?_
  refine e_hs W qcL_112 rfl (fun _ _ _ _ _ _ _ _ _ X => D_fills X hn) rfl rfl rfl rfl (by omega) dL_isWide_267 (fun h W => ?_)
  refine e_fconst0 dL_isWide_270 ?_
  refine e_fcmp hf0 dL_isWide_271 ?_
  refine e_if_le (tgt := 291) ⟨by omega, by omega⟩ dL_isWide_272 rfl (fun c => absurd c (by omega)) (fun _ => ?_)
  refine e_aload_n dL_isWide_275 rfl ?_
  refine e_getf fL_10 W.obj rfl dL_isWide_276 ?_
  refine e_hs W qcL_112 rfl (fun _ _ _ _ _ _ _ _ _ X => D_fills X hn) rfl rfl rfl rfl (by omega) dL_isWide_279 (fun h W => ?_)
  refine e_fconst1 dL_isWide_282 ?_
  refine e_fcmp hf1 dL_isWide_283 ?_
  refine e_if_gt (tgt := 291) ⟨by omega, by omega⟩ dL_isWide_284 rfl (fun c => absurd c (by omega)) (fun _ => ?_)
  refine e_iconst dL_isWide_287 ?_
  refine e_goto (tgt := 292) dL_isWide_288 rfl ?_
  refine e_zret rfl (Or.inr rfl) dL_isWide_292 (by decide) (by decide) ?_
  exact ⟨rfl, _, rfl, rfl, W⟩
end LAW4
