/-! The reference: the width -/
abbrev itW (F : PL) (k i : Nat) : Int := rnE F k * (pY F i - pY F k) - rsE F k * (pX F i - pX F k)
def mstN (F : PL) (k : Nat) : Nat → Int
  | 0 => 0
  | i + 1 => if mstN F k i < itW F k i then itW F k i else mstN F k i
abbrev dnW (F : PL) (k : Nat) : Int := rnE F k * rnE F k + rsE F k * rsE F k
abbrev mW (F : PL) (k : Nat) : Int := mstN F k F.length
def wdM (u0 : Int) (F : PL) : Nat → Int × Int
  | 0 => (u0, 0)
  | k + 1 => if 0 < (wdM u0 F k).2 ∧ (wdM u0 F k).1 * dnW F k ≤ mW F k * mW F k * (wdM u0 F k).2 then wdM u0 F k else (mW F k * mW F k, dnW F k)
abbrev wdG (U D : Int) : Int := (Nat.gcd U.natAbs D.natAbs : Nat)
theorem itW_bd {F : PL} (h : okS F) {k i : Nat} (hk : k < F.length) (hi : i < F.length) : -1280000 ≤ itW F k i ∧ itW F k i ≤ 1280000 := by
  have b1 := h k hk
  have b2 := h _ (nxt_lt hk)
  have b3 := h i hi
  have m1 := mul_bd (a := rnE F k) (b := pY F i - pY F k) (A := 800) (B := 800) ⟨by show _ ≤ _ - _; omega, by show _ - _ ≤ _; omega⟩ ⟨by omega, by omega⟩
  have m2 := mul_bd (a := rsE F k) (b := pX F i - pX F k) (A := 800) (B := 800) ⟨by show _ ≤ _ - _; omega, by show _ - _ ≤ _; omega⟩ ⟨by omega, by omega⟩
  unfold itW
  omega
theorem mstN_bd {F : PL} (h : okS F) {k : Nat} (hk : k < F.length) : ∀ i, i ≤ F.length → 0 ≤ mstN F k i ∧ mstN F k i ≤ 1280000
  | 0, _ => ⟨Int.le_refl 0, by show (0 : Int) ≤ 1280000; decide⟩
  | i + 1, hi => by
    have h1 := mstN_bd h hk i (by omega)
    have h2 := itW_bd h hk (show i < F.length by omega)
    unfold mstN
    split <;> omega
theorem dnW_bd {F : PL} (h : okS F) {k : Nat} (hk : k < F.length) : 0 ≤ dnW F k ∧ dnW F k ≤ 1280000 := by
  have := sqL_bd h hk
  exact this
theorem mW2_bd {F : PL} (h : okS F) {k : Nat} (hk : k < F.length) : 0 ≤ mW F k * mW F k ∧ mW F k * mW F k ≤ 1638400000000 := by
  have u : 0 ≤ mW F k ∧ mW F k ≤ 1280000 := mstN_bd h hk F.length (Nat.le_refl _)
  have m := mul_bd (a := mW F k) (b := mW F k) (A := 1280000) (B := 1280000) ⟨by omega, u.2⟩ ⟨by omega, u.2⟩
  exact ⟨Int.mul_nonneg u.1 u.1, by omega⟩
theorem wdM_bd {F : PL} (h : okS F) (u0 : Int) : ∀ k, k ≤ F.length → (0 ≤ (wdM u0 F k).2 ∧ (wdM u0 F k).2 ≤ 1280000) ∧ (0 < k → 0 ≤ (wdM u0 F k).1 ∧ (wdM u0 F k).1 ≤ 1638400000000) ∧ (k = 0 → wdM u0 F k = (u0, 0))
  | 0, _ => ⟨⟨Int.le_refl 0, by show (0 : Int) ≤ 1280000; decide⟩, fun w => absurd w (Nat.lt_irrefl _), fun _ => rfl⟩
  | k + 1, hk => by
    have h1 := wdM_bd h u0 k (by omega)
    have h2 := dnW_bd h (show k < F.length by omega)
    have h3 := mW2_bd h (show k < F.length by omega)
    refine ⟨?_, fun _ => ?_, fun w => absurd w (by omega)⟩
    · unfold wdM
      split
      · exact h1.1
      · exact h2
    · unfold wdM
      split
      · rename_i c
        by_cases k0 : k = 0
        · rw [h1.2.2 k0] at c
          exact absurd c.1 (Int.lt_irrefl 0)
        · exact h1.2.1 (by omega)
      · exact h3
section MTEN
variable {G : g_X} {sc sc0 : Nat → Int} {ar : Nat → Nat → Int} {m : Nat} {h0 h : g_hp} {P E : PL} {S : Nat → PL} {b : Int} {P2 E2 : PL} {S2 : Nat → PL} {F : PL}
set_option maxRecDepth 20000 in
theorem fw_inner {Z : g_Z} {z : Option Nat} (X : mdX G sc ar m h0 h) (hF : mdH ar 0 F) {k : Nat} (hk : k < F.length) (kk : Ev (g_B G mX8_findsWidth 0 0 Z) 0 0 z h 126 [(7, .long (lI (mW F k))), (3, .long (lI (rnE F k))), (5, .long (lI (rsE F k))), (2, .int (iN (k : Nat))), (1, .int (iN F.length)), (0, .ref m)] []) : ∀ (n i : Nat), i + n = F.length → Ev (g_B G mX8_findsWidth 0 0 Z) 0 0 z h 64 [(9, .int (iN (i : Nat))), (7, .long (lI (mstN F k (i)))), (3, .long (lI (rnE F k))), (5, .long (lI (rsE F k))), (2, .int (iN (k : Nat))), (1, .int (iN F.length)), (0, .ref m)] [] := by
  obtain ⟨f1, f2, f3, f4⟩ := hF
  have g4 : ∀ k, k < F.length → ar 5 k = pX F k ∧ ar 6 k = pY F k := fun k hk => by have := f4 k hk; rw [show 200 * 0 + k = k by omega] at this; exact this
  intro n
  induction n with
  | zero =>
    intro i hin
    have e9 : i = F.length := by omega
    subst e9
    refine e_iload dX8_findsWidth_64 rfl ?_
    refine e_iload_n dX8_findsWidth_66 rfl ?_
    refine e_icmp_ge (tgt := 126) ⟨by omega, by omega⟩ ⟨by omega, by omega⟩ dX8_findsWidth_67 rfl (fun c_67 => ?_) (fun c_67 => absurd (by omega) c_67)
    exact e_loc [(7, .long (lI (mW F k))), (3, .long (lI (rnE F k))), (5, .long (lI (rsE F k))), (2, .int (iN (k : Nat))), (1, .int (iN F.length)), (0, .ref m)] ⟨rfl, rfl, rfl, rfl, rfl, rfl, trivial⟩ kk
  | succ n ih =>
    intro i hin
    have hi : i < F.length := by omega
    have b1 := itW_bd f3 hk hi
    have b2 := mstN_bd f3 hk i (by omega)
    refine e_iload dX8_findsWidth_64 rfl ?_
    refine e_iload_n dX8_findsWidth_66 rfl ?_
    refine e_icmp_ge (tgt := 126) ⟨by omega, by omega⟩ ⟨by omega, by omega⟩ dX8_findsWidth_67 rfl (fun c_67 => absurd c_67 (by omega)) (fun c_67 => ?_)
    refine e_lload_n dX8_findsWidth_70 rfl ?_
    refine e_aload_n dX8_findsWidth_71 rfl ?_
    refine e_getf fX8_32 X.obj rfl dX8_findsWidth_72 ?_
    refine e_iload dX8_findsWidth_75 rfl ?_
    refine e_ial X.a6 (by omega) (by omega) rfl (g4 i hi).2 dX8_findsWidth_77 ?_
    refine e_aload_n dX8_findsWidth_78 rfl ?_
    refine e_getf fX8_32 X.obj rfl dX8_findsWidth_79 ?_
    refine e_iload_n dX8_findsWidth_82 rfl ?_
    refine e_ial X.a6 (by omega) (by omega) rfl (g4 k hk).2 dX8_findsWidth_83 ?_
    refine e_isub dX8_findsWidth_84 ?_
    have c1 := f3 i hi
    have c2 := f3 k hk
    refine e_i2l ⟨by omega, by omega⟩ dX8_findsWidth_85 ?_
    refine e_lmul dX8_findsWidth_86 ?_
    refine e_lload dX8_findsWidth_87 rfl ?_
    refine e_aload_n dX8_findsWidth_89 rfl ?_
    refine e_getf fX8_29 X.obj rfl dX8_findsWidth_90 ?_
    refine e_iload dX8_findsWidth_93 rfl ?_
    refine e_ial X.a5 (by omega) (by omega) rfl (g4 i hi).1 dX8_findsWidth_95 ?_
    refine e_aload_n dX8_findsWidth_96 rfl ?_
    refine e_getf fX8_29 X.obj rfl dX8_findsWidth_97 ?_
    refine e_iload_n dX8_findsWidth_100 rfl ?_
    refine e_ial X.a5 (by omega) (by omega) rfl (g4 k hk).1 dX8_findsWidth_101 ?_
    refine e_isub dX8_findsWidth_102 ?_
    refine e_i2l ⟨by omega, by omega⟩ dX8_findsWidth_103 ?_
    refine e_lmul dX8_findsWidth_104 ?_
    refine e_lsub dX8_findsWidth_105 ?_
    rw [show rnE F k * (pY F i - pY F k) - rsE F k * (pX F i - pX F k) = itW F k i from rfl]
    refine e_lstore dX8_findsWidth_106 rfl ?_
    refine e_lload dX8_findsWidth_108 rfl ?_
    refine e_lload dX8_findsWidth_110 rfl ?_
    refine e_lif_le (tgt := 120) ⟨by omega, by omega⟩ ⟨by omega, by omega⟩ dX8_findsWidth_112 dX8_findsWidth_113 rfl (fun c_112 => ?_) (fun c_112 => ?_)
    · have e6 : mstN F k (i + 1) = mstN F k i := if_neg (Int.not_lt.mpr c_112)
      refine e_iinc dX8_findsWidth_120 rfl ?_
      refine e_goto (tgt := 64) dX8_findsWidth_123 rfl ?_
      exact e_loc [(9, .int (iN (i + 1 : Nat))), (7, .long (lI (mstN F k (i + 1)))), (3, .long (lI (rnE F k))), (5, .long (lI (rsE F k))), (2, .int (iN (k : Nat))), (1, .int (iN F.length)), (0, .ref m)] ⟨rfl, by rw [e6]; rfl, rfl, rfl, rfl, rfl, rfl, trivial⟩ (ih (i + 1) (by omega))
    · have e6 : mstN F k (i + 1) = itW F k i := if_pos (Int.not_le.mp c_112)
      refine e_lload dX8_findsWidth_116 rfl ?_
      refine e_lstore dX8_findsWidth_118 rfl ?_
      refine e_iinc dX8_findsWidth_120 rfl ?_
      refine e_goto (tgt := 64) dX8_findsWidth_123 rfl ?_
      exact e_loc [(9, .int (iN (i + 1 : Nat))), (7, .long (lI (mstN F k (i + 1)))), (3, .long (lI (rnE F k))), (5, .long (lI (rsE F k))), (2, .int (iN (k : Nat))), (1, .int (iN F.length)), (0, .ref m)] ⟨rfl, by rw [e6]; rfl, rfl, rfl, rfl, rfl, rfl, trivial⟩ (ih (i + 1) (by omega))
set_option maxRecDepth 20000 in
theorem fw_outer {Z : g_Z} {z : Option Nat} {u0 : Int} (hF : mdH ar 0 F) (kk : ∀ sc1 h, mdX G sc1 ar m h0 h → sc1 12 = (wdM u0 F F.length).1 → sc1 13 = (wdM u0 F F.length).2 → agr [12, 13] [] sc ar sc1 ar → Ev (g_B G mX8_findsWidth 0 0 Z) 0 0 z h 191 [(0, .ref m)] []) : ∀ (n k : Nat) (sc1 : Nat → Int) (h : g_hp), mdX G sc1 ar m h0 h → sc1 12 = (wdM u0 F k).1 → sc1 13 = (wdM u0 F k).2 → agr [12, 13] [] sc ar sc1 ar → k + n = F.length → Ev (g_B G mX8_findsWidth 0 0 Z) 0 0 z h 14 [(2, .int (iN (k : Nat))), (1, .int (iN F.length)), (0, .ref m)] [] := by
  have hF9 := hF
  obtain ⟨f1, f2, f3, f4⟩ := hF
  have g4 : ∀ k, k < F.length → ar 5 k = pX F k ∧ ar 6 k = pY F k := fun k hk => by have := f4 k hk; rw [show 200 * 0 + k = k by omega] at this; exact this
  intro n
  induction n with
  | zero =>
    intro k sc1 h X h12 h13 hA hkn
    have e9 : k = F.length := by omega
    rw [e9] at h12 h13
    refine e_iload_n dX8_findsWidth_14 rfl ?_
    refine e_iload_n dX8_findsWidth_15 rfl ?_
    refine e_icmp_ge (tgt := 191) ⟨by omega, by omega⟩ ⟨by omega, by omega⟩ dX8_findsWidth_16 rfl (fun c_16 => ?_) (fun c_16 => absurd (by omega) c_16)
    exact e_loc [(0, .ref m)] ⟨rfl, trivial⟩ (kk _ _ X h12 h13 hA)
  | succ n ih =>
    intro k sc1 h X h12 h13 hA hkn
    have hk : k < F.length := by omega
    have hn := nxt_lt hk
    have b1 := f3 k hk
    have b2 := f3 _ hn
    have b3 := wdM_bd f3 u0 k (by omega)
    have b4 := dnW_bd f3 hk
    have b5 := mW2_bd f3 hk
    have eW : wdM u0 F (k + 1) = if 0 < (wdM u0 F k).2 ∧ (wdM u0 F k).1 * dnW F k ≤ mW F k * mW F k * (wdM u0 F k).2 then wdM u0 F k else (mW F k * mW F k, dnW F k) := rfl
    refine e_iload_n dX8_findsWidth_14 rfl ?_
    refine e_iload_n dX8_findsWidth_15 rfl ?_
    refine e_icmp_ge (tgt := 191) ⟨by omega, by omega⟩ ⟨by omega, by omega⟩ dX8_findsWidth_16 rfl (fun c_16 => absurd c_16 (by omega)) (fun c_16 => ?_)
    refine e_aload_n dX8_findsWidth_19 rfl ?_
    refine e_getf fX8_29 X.obj rfl dX8_findsWidth_20 ?_
    refine e_iload_n dX8_findsWidth_23 rfl ?_
    refine e_iconst dX8_findsWidth_24 ?_
    refine e_iadd dX8_findsWidth_25 ?_
    refine e_iload_n dX8_findsWidth_26 rfl ?_
    refine e_irem ⟨by omega, by omega⟩ ⟨by omega, by omega⟩ (by omega) dX8_findsWidth_27 ?_
    rw [tmod_nxt hk]
    refine e_ial X.a5 (by omega) (by omega) rfl (g4 _ hn).1 dX8_findsWidth_28 ?_
    refine e_aload_n dX8_findsWidth_29 rfl ?_
    refine e_getf fX8_29 X.obj rfl dX8_findsWidth_30 ?_
    refine e_iload_n dX8_findsWidth_33 rfl ?_
    refine e_ial X.a5 (by omega) (by omega) rfl (g4 k hk).1 dX8_findsWidth_34 ?_
    refine e_isub dX8_findsWidth_35 ?_
    rw [show pX F (nxt F.length k) - pX F k = rnE F k from rfl]
    refine e_i2l ⟨by show _ ≤ _ - _; omega, by show _ - _ < _; omega⟩ dX8_findsWidth_36 ?_
    refine e_lstore_n dX8_findsWidth_37 rfl ?_
    refine e_aload_n dX8_findsWidth_38 rfl ?_
    refine e_getf fX8_32 X.obj rfl dX8_findsWidth_39 ?_
    refine e_iload_n dX8_findsWidth_42 rfl ?_
    refine e_iconst dX8_findsWidth_43 ?_
    refine e_iadd dX8_findsWidth_44 ?_
    refine e_iload_n dX8_findsWidth_45 rfl ?_
    refine e_irem ⟨by omega, by omega⟩ ⟨by omega, by omega⟩ (by omega) dX8_findsWidth_46 ?_
    rw [tmod_nxt hk]
    refine e_ial X.a6 (by omega) (by omega) rfl (g4 _ hn).2 dX8_findsWidth_47 ?_
    refine e_aload_n dX8_findsWidth_48 rfl ?_
    refine e_getf fX8_32 X.obj rfl dX8_findsWidth_49 ?_
    refine e_iload_n dX8_findsWidth_52 rfl ?_
    refine e_ial X.a6 (by omega) (by omega) rfl (g4 k hk).2 dX8_findsWidth_53 ?_
    refine e_isub dX8_findsWidth_54 ?_
    rw [show pY F (nxt F.length k) - pY F k = rsE F k from rfl]
    refine e_i2l ⟨by show _ ≤ _ - _; omega, by show _ - _ < _; omega⟩ dX8_findsWidth_55 ?_
    refine e_lstore dX8_findsWidth_56 rfl ?_
    refine e_lconst dX8_findsWidth_58 ?_
    refine e_lstore dX8_findsWidth_59 rfl ?_
    refine e_iconst dX8_findsWidth_61 ?_
    refine e_istore dX8_findsWidth_62 rfl ?_
    refine e_loc [(9, .int (iN (0 : Nat))), (7, .long (lI (mstN F k (0)))), (3, .long (lI (rnE F k))), (5, .long (lI (rsE F k))), (2, .int (iN (k : Nat))), (1, .int (iN F.length)), (0, .ref m)] ⟨rfl, rfl, rfl, rfl, rfl, rfl, rfl, trivial⟩ (fw_inner X hF9 hk ?_ _ 0 (Nat.zero_add _))
    refine e_lload_n dX8_findsWidth_126 rfl ?_
    refine e_lload_n dX8_findsWidth_127 rfl ?_
    refine e_lmul dX8_findsWidth_128 ?_
    refine e_lload dX8_findsWidth_129 rfl ?_
    refine e_lload dX8_findsWidth_131 rfl ?_
    refine e_lmul dX8_findsWidth_133 ?_
    refine e_ladd dX8_findsWidth_134 ?_
    rw [show rnE F k * rnE F k + rsE F k * rsE F k = dnW F k from rfl]
    generalize hd9 : dnW F k = dn at b4 eW ⊢
    have b6 := mstN_bd f3 hk F.length (Nat.le_refl _)
    generalize hm9 : mW F k = mw at b5 b6 eW ⊢
    generalize hw9 : wdM u0 F k = wd at b3 eW h12 h13 ⊢
    have m1 := mul_bd (a := mw * mw) (b := wd.2) (A := 1638400000000) (B := 1280000) ⟨by omega, by omega⟩ ⟨by omega, by omega⟩
    refine e_lstore dX8_findsWidth_135 rfl ?_
    refine e_aload_n dX8_findsWidth_137 rfl ?_
    refine e_getf fX8_185 X.obj rfl dX8_findsWidth_138 ?_
    rw [h13]
    refine e_lconst dX8_findsWidth_141 ?_
    refine e_lif_le (tgt := 170) ⟨by omega, by omega⟩ ⟨by decide, by decide⟩ dX8_findsWidth_142 dX8_findsWidth_143 rfl (fun c_142 => ?_) (fun c_142 => ?_)
    · have e6 : wdM u0 F (k + 1) = (mw * mw, dn) := eW.trans (if_neg (fun w => absurd w.1 (by omega)))
      refine e_aload_n dX8_findsWidth_170 rfl ?_
      refine e_lload dX8_findsWidth_171 rfl ?_
      refine e_lload dX8_findsWidth_173 rfl ?_
      refine e_lmul dX8_findsWidth_175 ?_
      refine e_putf pfX8_189 X.obj rfl rfl rfl dX8_findsWidth_176 ?_
      refine X.ptoL (q := 12) (fun h9 X9 => ?_) rfl
      replace X := X9
      clear X9
      refine e_aload_n dX8_findsWidth_179 rfl ?_
      refine e_lload dX8_findsWidth_180 rfl ?_
      refine e_putf pfX8_185 X.obj rfl rfl rfl dX8_findsWidth_182 ?_
      refine X.ptoL (q := 13) (fun h9 X9 => ?_) rfl
      replace X := X9
      clear X9
      refine e_iinc dX8_findsWidth_185 rfl ?_
      refine e_goto (tgt := 14) dX8_findsWidth_188 rfl ?_
      first | exact e_loc [(2, .int (iN (k + 1 : Nat))), (1, .int (iN F.length)), (0, .ref m)] ⟨rfl, rfl, rfl, trivial⟩ (ih (k + 1) _ _ X (by rw [e6]; rfl) (by rw [e6]; rfl) ((hA.pk (by decide)).pk (by decide)) (by omega)) | exact e_loc [(2, .int (iN (k + 1 : Nat))), (1, .int (iN F.length)), (0, .ref m)] ⟨rfl, rfl, rfl, trivial⟩ (ih (k + 1) _ _ X (by rw [e6]; exact h12) (by rw [e6]; exact h13) hA (by omega))
    · have b7 := b3.2.1 (Nat.pos_of_ne_zero (fun w => by have := b3.2.2 w; rw [this] at c_142; exact c_142 (Int.le_refl 0)))
      have m2 := mul_bd (a := wd.1) (b := dn) (A := 1638400000000) (B := 1280000) ⟨by omega, by omega⟩ ⟨by omega, by omega⟩
      refine e_lload dX8_findsWidth_146 rfl ?_
      refine e_lload dX8_findsWidth_148 rfl ?_
      refine e_lmul dX8_findsWidth_150 ?_
      refine e_aload_n dX8_findsWidth_151 rfl ?_
      refine e_getf fX8_185 X.obj rfl dX8_findsWidth_152 ?_
      rw [h13]
      refine e_lmul dX8_findsWidth_155 ?_
      refine e_aload_n dX8_findsWidth_156 rfl ?_
      refine e_getf fX8_189 X.obj rfl dX8_findsWidth_157 ?_
      rw [h12]
      refine e_lload dX8_findsWidth_160 rfl ?_
      refine e_lmul dX8_findsWidth_162 ?_
      refine e_lif_lt (tgt := 170) ⟨by omega, by omega⟩ ⟨by omega, by omega⟩ dX8_findsWidth_163 dX8_findsWidth_164 rfl (fun c_163 => ?_) (fun c_163 => ?_)
      · have e6 : wdM u0 F (k + 1) = (mw * mw, dn) := eW.trans (if_neg (fun w => absurd w.2 (Int.not_le.mpr c_163)))
        refine e_aload_n dX8_findsWidth_170 rfl ?_
        refine e_lload dX8_findsWidth_171 rfl ?_
        refine e_lload dX8_findsWidth_173 rfl ?_
        refine e_lmul dX8_findsWidth_175 ?_
        refine e_putf pfX8_189 X.obj rfl rfl rfl dX8_findsWidth_176 ?_
        refine X.ptoL (q := 12) (fun h9 X9 => ?_) rfl
        replace X := X9
        clear X9
        refine e_aload_n dX8_findsWidth_179 rfl ?_
        refine e_lload dX8_findsWidth_180 rfl ?_
        refine e_putf pfX8_185 X.obj rfl rfl rfl dX8_findsWidth_182 ?_
        refine X.ptoL (q := 13) (fun h9 X9 => ?_) rfl
        replace X := X9
        clear X9
        refine e_iinc dX8_findsWidth_185 rfl ?_
        refine e_goto (tgt := 14) dX8_findsWidth_188 rfl ?_
        first | exact e_loc [(2, .int (iN (k + 1 : Nat))), (1, .int (iN F.length)), (0, .ref m)] ⟨rfl, rfl, rfl, trivial⟩ (ih (k + 1) _ _ X (by rw [e6]; rfl) (by rw [e6]; rfl) ((hA.pk (by decide)).pk (by decide)) (by omega)) | exact e_loc [(2, .int (iN (k + 1 : Nat))), (1, .int (iN F.length)), (0, .ref m)] ⟨rfl, rfl, rfl, trivial⟩ (ih (k + 1) _ _ X (by rw [e6]; exact h12) (by rw [e6]; exact h13) hA (by omega))
      · have e6 : wdM u0 F (k + 1) = wd := eW.trans (if_pos ⟨Int.not_le.mp c_142, Int.not_lt.mp c_163⟩)
        refine e_goto (tgt := 185) dX8_findsWidth_167 rfl ?_
        refine e_iinc dX8_findsWidth_185 rfl ?_
        refine e_goto (tgt := 14) dX8_findsWidth_188 rfl ?_
        first | exact e_loc [(2, .int (iN (k + 1 : Nat))), (1, .int (iN F.length)), (0, .ref m)] ⟨rfl, rfl, rfl, trivial⟩ (ih (k + 1) _ _ X (by rw [e6]; rfl) (by rw [e6]; rfl) ((hA.pk (by decide)).pk (by decide)) (by omega)) | exact e_loc [(2, .int (iN (k + 1 : Nat))), (1, .int (iN F.length)), (0, .ref m)] ⟨rfl, rfl, rfl, trivial⟩ (ih (k + 1) _ _ X (by rw [e6]; exact h12) (by rw [e6]; exact h13) hA (by omega))
set_option maxRecDepth 20000 in
theorem fw_gcd {Z : g_Z} {z : Option Nat} {D : Nat} (kk : Ev (g_B G mX8_findsWidth 0 0 Z) 0 0 z h 225 [(2, .long (lI (D : Nat))), (0, .ref m)] []) : ∀ (n p q : Nat), q ≤ n → p < 2000000000000 → q < 2000000000000 → Nat.gcd p q = D → Ev (g_B G mX8_findsWidth 0 0 Z) 0 0 z h 202 [(4, .long (lI (q : Nat))), (2, .long (lI (p : Nat))), (0, .ref m)] [] := by
  intro n
  induction n with
  | zero =>
    intro p q hn hp hq hD
    have e9 : q = 0 := by omega
    subst e9
    rw [Nat.gcd_zero_right] at hD
    subst hD
    refine e_lload dX8_findsWidth_202 rfl ?_
    refine e_lconst dX8_findsWidth_204 ?_
    refine e_lif_le (tgt := 225) ⟨by omega, by omega⟩ ⟨by decide, by decide⟩ dX8_findsWidth_205 dX8_findsWidth_206 rfl (fun c_g => ?_) (fun c_g => absurd (by omega) c_g)
    exact e_loc [(2, .long (lI (_ : Nat))), (0, .ref m)] ⟨rfl, rfl, trivial⟩ kk
  | succ n ih =>
    intro p q hn hp hq hD
    refine e_lload dX8_findsWidth_202 rfl ?_
    refine e_lconst dX8_findsWidth_204 ?_
    refine e_lif_le (tgt := 225) ⟨by omega, by omega⟩ ⟨by decide, by decide⟩ dX8_findsWidth_205 dX8_findsWidth_206 rfl (fun c_g => ?_) (fun c_g => ?_)
    · have e9 : q = 0 := by omega
      subst e9
      rw [Nat.gcd_zero_right] at hD
      subst hD
      exact e_loc [(2, .long (lI (_ : Nat))), (0, .ref m)] ⟨rfl, rfl, trivial⟩ kk
    · have hl := Nat.mod_lt p (show 0 < q by omega)
      refine e_lload_n dX8_findsWidth_209 rfl ?_
      refine e_lload dX8_findsWidth_210 rfl ?_
      refine e_lrem ⟨by omega, by omega⟩ ⟨by omega, by omega⟩ (by omega) dX8_findsWidth_212 ?_
      rw [show ((p : Int)).tmod (q : Int) = ((p % q : Nat) : Int) from rfl]
      refine e_lstore dX8_findsWidth_213 rfl ?_
      refine e_lload dX8_findsWidth_215 rfl ?_
      refine e_lstore_n dX8_findsWidth_217 rfl ?_
      refine e_lload dX8_findsWidth_218 rfl ?_
      refine e_lstore dX8_findsWidth_220 rfl ?_
      refine e_goto (tgt := 202) dX8_findsWidth_222 rfl ?_
      exact e_loc [(4, .long (lI ((p % q : Nat) : Int))), (2, .long (lI (q : Nat))), (0, .ref m)] ⟨rfl, rfl, rfl, trivial⟩ (ih q (p % q) (by omega) hq (by omega) (by rw [Nat.gcd_comm, ← Nat.gcd_rec, Nat.gcd_comm]; exact hD))
set_option maxRecDepth 20000 in
theorem S_findsWidth (X : mdX G sc ar m h0 h) (hF : mdH ar 0 F) (h3 : 0 < F.length) (hD0 : ∀ u0, 0 < (wdM u0 F F.length).2) : Does G mX8_findsWidth [.ref m] h (fun v h1 => v = none ∧ ∃ sc2 u0, mdX G sc2 ar m h0 h1 ∧ sc2 12 = (wdM u0 F F.length).1.tdiv (wdG (wdM u0 F F.length).1 (wdM u0 F F.length).2) ∧ sc2 13 = (wdM u0 F F.length).2.tdiv (wdG (wdM u0 F F.length).1 (wdM u0 F F.length).2) ∧ agr [12, 13] [] sc ar sc2 ar) := by
  obtain ⟨f1, f2, f3, f4⟩ := id hF
  intro z
  refine run_of rfl plX8 rfl ?_
  refine e_aload_n dX8_findsWidth_0 rfl ?_
  refine e_getf fX8_35 X.obj rfl dX8_findsWidth_1 ?_
  refine e_iconst dX8_findsWidth_4 ?_
  refine e_ial X.a7 (by omega) (by omega) rfl f1 dX8_findsWidth_5 ?_
  refine e_istore_n dX8_findsWidth_6 rfl ?_
  refine e_aload_n dX8_findsWidth_7 rfl ?_
  refine e_lconst dX8_findsWidth_8 ?_
  refine e_putf pfX8_185 X.obj rfl rfl rfl dX8_findsWidth_9 ?_
  refine X.ptoL (q := 13) (fun h9 X9 => ?_) rfl
  replace X := X9
  clear X9
  refine e_iconst dX8_findsWidth_12 ?_
  refine e_istore_n dX8_findsWidth_13 rfl ?_
  refine e_loc [(2, .int (iN (0 : Nat))), (1, .int (iN F.length)), (0, .ref m)] ⟨rfl, rfl, rfl, trivial⟩ (fw_outer (u0 := sc 12) hF (fun sc1 h X h12 h13 hA => ?_) _ 0 _ _ X rfl rfl (agr.rf.pk (by decide)) (Nat.zero_add _))
  generalize sc 12 = u0 at h12 h13
  refine e_aload_n dX8_findsWidth_191 rfl ?_
  refine e_getf fX8_189 X.obj rfl dX8_findsWidth_192 ?_
  rw [h12]
  refine e_lstore_n dX8_findsWidth_195 rfl ?_
  refine e_aload_n dX8_findsWidth_196 rfl ?_
  refine e_getf fX8_185 X.obj rfl dX8_findsWidth_197 ?_
  rw [h13]
  refine e_lstore dX8_findsWidth_200 rfl ?_
  have b1 := wdM_bd f3 u0 F.length (Nat.le_refl _)
  have b2 := b1.2.1 h3
  have b3 := hD0 u0
  obtain ⟨Pn, hP9⟩ : ∃ Pn : Nat, (wdM u0 F F.length).1 = (Pn : Int) := ⟨(wdM u0 F F.length).1.toNat, by omega⟩
  obtain ⟨Q, hQ9⟩ : ∃ Q : Nat, (wdM u0 F F.length).2 = (Q : Int) := ⟨(wdM u0 F F.length).2.toNat, by omega⟩
  rw [hP9] at h12 b2 ⊢
  rw [hQ9] at h13 b3 b1 ⊢
  have hg1 : 0 < Nat.gcd Pn Q := Nat.gcd_pos_of_pos_right _ (by omega)
  have hg2 : Nat.gcd Pn Q ≤ Q := Nat.gcd_le_right _ (by omega)
  refine e_loc [(4, .long (lI (Q : Nat))), (2, .long (lI (Pn : Nat))), (0, .ref m)] ⟨rfl, rfl, rfl, trivial⟩ (fw_gcd (D := Nat.gcd Pn Q) ?_ Q Pn Q (Nat.le_refl _) (by omega) (by omega) rfl)
  have eG : wdG (Pn : Int) (Q : Int) = ((Nat.gcd Pn Q : Nat) : Int) := rfl
  generalize Nat.gcd Pn Q = g at hg1 hg2 eG ⊢
  refine e_aload_n dX8_findsWidth_225 rfl ?_
  refine e_dup dX8_findsWidth_226 rfl ?_
  refine e_getf fX8_189 X.obj rfl dX8_findsWidth_227 ?_
  rw [h12]
  refine e_lload_n dX8_findsWidth_230 rfl ?_
  refine e_ldiv ⟨by omega, by omega⟩ ⟨by omega, by omega⟩ (by omega) dX8_findsWidth_231 ?_
  refine e_putf pfX8_189 X.obj rfl rfl rfl dX8_findsWidth_232 ?_
  refine X.ptoL (q := 12) (fun h9 X9 => ?_) rfl
  replace X := X9
  clear X9
  refine e_aload_n dX8_findsWidth_235 rfl ?_
  refine e_dup dX8_findsWidth_236 rfl ?_
  refine e_getf fX8_185 X.obj rfl dX8_findsWidth_237 ?_
  rw [show uI sc1 12 _ 13 = (Q : Int) from h13]
  refine e_lload_n dX8_findsWidth_240 rfl ?_
  refine e_ldiv ⟨by omega, by omega⟩ ⟨by omega, by omega⟩ (by omega) dX8_findsWidth_241 ?_
  refine e_putf pfX8_185 X.obj rfl rfl rfl dX8_findsWidth_242 ?_
  refine X.ptoL (q := 13) (fun h9 X9 => ?_) rfl
  replace X := X9
  clear X9
  refine e_vret rfl dX8_findsWidth_245 (by decide) (by decide) ?_
  exact ⟨none, rfl, rfl, rfl, _, u0, X, by rw [hP9, hQ9, eG]; rfl, by rw [hP9, hQ9, eG]; rfl, (hA.pk (by decide)).pk (by decide)⟩
abbrev mZL (G : g_X) (R : Nat × Int) (P E : PL) (S : Nat → PL) (b : Int) (P2 E2 : PL) (S2 : Nat → PL) (F : PL) (m : Nat) (h0 : g_hp) : g_Z := fun oc z1 h1 => z1 = none ∧ oc = .inl (some (.long (lI R.2))) ∧ ∃ sc ar, mdX G sc ar m h0 h1 ∧ mdR sc ar P E S b P2 E2 S2 F ∧ sc 0 = R.1
theorem mzL {G : g_X} {k R : Nat × Int} {P E : PL} {S : Nat → PL} {b : Int} {P2 E2 : PL} {S2 : Nat → PL} {F : PL} {m : Nat} {h0 : g_hp} {oc : g_O} {z : Option Nat} {h : g_hp} (e : k = R) (w : mZL G R P E S b P2 E2 S2 F m h0 oc z h) : mZL G k P E S b P2 E2 S2 F m h0 oc z h := e ▸ w
set_option maxRecDepth 20000 in
theorem M_width (X : mdX G sc0 ar m h0 h) (hR : mdR sc0 ar P E S b P2 E2 S2 F) {u : Prop} [Decidable u] (hm : 3 ≤ F.length → (∀ u0, 0 < (wdM u0 F F.length).2) ∧ ∀ u0, sqW F u = if u then (wdM u0 F F.length).2.tdiv (wdG (wdM u0 F F.length).1 (wdM u0 F F.length).2) else (wdM u0 F F.length).1.tdiv (wdG (wdM u0 F F.length).1 (wdM u0 F F.length).2)) : Run G mX8_width [.ref m, .int (iN (bP u))] none h 0 0 (mZL G (k_width F u) P E S b P2 E2 S2 F m h0) := by
  refine run_of rfl plX8 rfl ?_
  refine e_aload_n dX8_width_0 rfl ?_
  refine e_iconst dX8_width_1 ?_
  refine e_putf pfX8_1 X.obj rfl rfl rfl dX8_width_2 ?_
  refine X.pto (q := 0) (fun h9 X9 => ?_) rfl
  replace X := X9
  clear X9
  replace hR := hR.t0 0
  have ht : uI sc0 0 0 0 = 0 := uI_s _ _ _
  generalize uI sc0 0 0 = sc at X hR ht
  obtain ⟨f1, f2, f3, f4⟩ := id hR.2.2.2.2
  have g4 : ∀ k, k < F.length → ar 5 k = pX F k ∧ ar 6 k = pY F k := fun k hk => by have := f4 k hk; rw [show 200 * 0 + k = k by omega] at this; exact this
  refine e_aload_n dX8_width_5 rfl ?_
  refine e_aload_n dX8_width_6 rfl ?_
  refine e_getf fX8_35 X.obj rfl dX8_width_7 ?_
  refine e_iconst dX8_width_10 ?_
  refine e_ial X.a7 (by omega) (by omega) rfl f1 dX8_width_11 ?_
  refine e_iconst dX8_width_12 ?_
  
  by_cases c_13 : 2 < F.length
  · refine e_icmp_le (tgt := 20) ⟨by omega, by omega⟩ ⟨by omega, by omega⟩ dX8_width_13 rfl (fun c_0 => absurd c_0 (by omega)) (fun c_0 => ?_)
    refine e_iconst dX8_width_16 ?_
    refine e_top (bP (2 < F.length)) (bP_t c_13).symm ?_
    refine e_goto (tgt := 21) dX8_width_17 rfl ?_
    refine e_iconst dX8_width_21 ?_
    refine e_pureV qcX8_104 X.obj rfl rfl (S_fails_t X c_13 ht) rfl rfl rfl rfl dX8_width_22 ?_
    refine e_if_eq (tgt := 30) ⟨by decide, by decide⟩ dX8_width_25 rfl (fun c_25 => ?_) (fun c_25 => absurd rfl c_25)
    refine e_aload_n dX8_width_30 rfl ?_
    refine e_doesV qcX8_192 X.obj rfl rfl (S_findsWidth X hR.2.2.2.2 (by omega) (hm (by omega)).1) rfl rfl rfl rfl dX8_width_31 ?_
    intro v h9 q9
    obtain ⟨rfl, sc2, u0, X, w12, w13, hA⟩ := q9
    have eU := (hm (by omega)).2 u0
    refine e_iload_n dX8_width_34 rfl ?_
    refine e_ifP_eq (tgt := 45) dX8_width_35 rfl (fun c_35 => ?_) (fun c_35 => ?_)
    · have e6 : sqW F u = sc2 12 := eU.trans ((if_neg c_35).trans w12.symm)
      refine e_aload_n dX8_width_45 rfl ?_
      refine e_getf fX8_189 X.obj rfl dX8_width_46 ?_
      refine e_lret rfl dX8_width_49 (by decide) (by decide) ?_
      rw [← e6]
      exact mzL (show (k_width F u) = (0, sqW F u) from if_neg (by omega)) ⟨rfl, rfl, _, _, X, hR.to (hA.wk (by decide) (by decide)) hR.2.2.2.2, (hA.1 0 (by decide)).trans ht⟩
    · have e6 : sqW F u = sc2 13 := eU.trans ((if_pos c_35).trans w13.symm)
      refine e_aload_n dX8_width_38 rfl ?_
      refine e_getf fX8_185 X.obj rfl dX8_width_39 ?_
      refine e_goto (tgt := 49) dX8_width_42 rfl ?_
      refine e_lret rfl dX8_width_49 (by decide) (by decide) ?_
      rw [← e6]
      exact mzL (show (k_width F u) = (0, sqW F u) from if_neg (by omega)) ⟨rfl, rfl, _, _, X, hR.to (hA.wk (by decide) (by decide)) hR.2.2.2.2, (hA.1 0 (by decide)).trans ht⟩
  refine e_icmp_le (tgt := 20) ⟨by omega, by omega⟩ ⟨by omega, by omega⟩ dX8_width_13 rfl (fun c_0 => ?_) (fun c_0 => absurd (by omega) c_0)
  refine e_iconst dX8_width_20 ?_
  refine e_top (bP (2 < F.length)) (bP_f c_13).symm ?_
  refine e_iconst dX8_width_21 ?_
  refine e_doesV qcX8_104 X.obj rfl rfl (S_fails_f X c_13 ht ⟨by decide, by decide⟩) rfl rfl rfl rfl dX8_width_22 ?_
  intro v h9 q9
  obtain ⟨rfl, X⟩ := q9
  refine e_if_eq (tgt := 30) ⟨by decide, by decide⟩ dX8_width_25 rfl (fun c_25 => absurd c_25 (by decide)) (fun c_25 => ?_)
  refine e_lconst dX8_width_28 ?_
  refine e_lret rfl dX8_width_29 (by decide) (by decide) ?_
  exact mzL (show (k_width F u) = (1, 0) from (if_pos (by omega))) ⟨rfl, rfl, _, _, X, hR.t0 _, uI_s _ _ _⟩
end MTEN
