/-! The reference: sides of hulls, wrapping -/
theorem tmod_nxt {k n : Nat} (hk : k < n) : ((k : Int) + 1).tmod (n : Int) = ((nxt n k : Nat) : Int) := by
  show (((k + 1) % n : Nat) : Int) = _
  unfold nxt
  by_cases c : k + 1 < n
  · rw [if_pos c, Nat.mod_eq_of_lt c]
  · rw [if_neg c, show k + 1 = n by omega, Nat.mod_self]
abbrev hOn (F : PL) (x y : Int) (i : Nat) : Prop := on (pX F i) (pY F i) (pX F (nxt F.length i)) (pY F (nxt F.length i)) x y
abbrev hSg (F : PL) (x y : Int) (i : Nat) : Int := sg (tw (pX F i) (pY F i) (pX F (nxt F.length i)) (pY F (nxt F.length i)) x y)
def lsN (F : PL) (x y : Int) : Nat → Int
  | 0 => 1
  | n + 1 => if hSg F x y n < lsN F x y n then hSg F x y n else lsN F x y n
theorem lsN_bd (F : PL) (x y : Int) : ∀ n, -1 ≤ lsN F x y n ∧ lsN F x y n ≤ 1
  | 0 => ⟨by show (-1 : Int) ≤ 1; decide, Int.le_refl 1⟩
  | n + 1 => by
    have h1 := lsN_bd F x y n
    have h2 := sg_bd (tw (pX F n) (pY F n) (pX F (nxt F.length n)) (pY F (nxt F.length n)) x y)
    unfold lsN
    split
    · exact h2
    · exact h1
noncomputable def sdI (F : PL) (x y : Int) : Int := cif (∃ i, i < F.length ∧ hOn F x y i) 0 (if F.length < 3 ∨ lsN F x y F.length < 1 then -1 else 1)
theorem sdI_bd (F : PL) (x y : Int) : -1 ≤ sdI F x y ∧ sdI F x y ≤ 1 := by
  unfold sdI
  by_cases c : ∃ i, i < F.length ∧ hOn F x y i
  · rw [cif_t c]; exact ⟨by decide, by decide⟩
  · rw [cif_f c]; split <;> exact ⟨by decide, by decide⟩
section MFIVE
variable {G : g_X} {sc : Nat → Int} {ar : Nat → Nat → Int} {m : Nat} {h0 h : g_hp}
set_option maxRecDepth 20000 in
theorem sd_loop {z : Option Nat} {f : Nat} {F : PL} (X : mdX G sc ar m h0 h) (hF : mdH ar f F) (hf : f < 3) {x y : Int} (hx : r32 x) (hy : r32 y) : ∀ (n k : Nat), k + n = F.length → (∀ i, i < k → ¬ hOn F x y i) → Ev (g_B G mX8_side 0 0 (fun o z1 h1 => o = .inl (some (.int (iN (sdI F x y)))) ∧ z1 = z ∧ h1 = h)) 0 0 z h 14 [(6, .int (iN (k : Nat))), (5, .int (iN (lsN F x y (k)))), (4, .int (iN F.length)), (0, .ref m), (1, .int (iN f)), (2, .int (iN x)), (3, .int (iN y))] [] := by
  obtain ⟨f1, f2, f3, f4⟩ := hF
  have hx1 := hx.1
  have hx2 := hx.2
  have hy1 := hy.1
  have hy2 := hy.2
  intro n
  induction n with
  | zero =>
    intro k hkn hno
    have e9 : k = F.length := by omega
    subst e9
    have hb := lsN_bd F x y F.length
    have e7 : sdI F x y = if F.length < 3 ∨ lsN F x y F.length < 1 then -1 else 1 := cif_f (fun ⟨i, hi, w⟩ => hno i hi w)
    refine e_iload dX8_side_14 rfl ?_
    refine e_iload dX8_side_16 rfl ?_
    refine e_icmp_ge (tgt := 148) ⟨by omega, by omega⟩ ⟨by omega, by omega⟩ dX8_side_18 rfl (fun c_18 => ?_) (fun c_18 => absurd (by omega) c_18)
    refine e_iload dX8_side_148 rfl ?_
    refine e_iconst dX8_side_150 ?_
    refine e_icmp_lt (tgt := 160) ⟨by omega, by omega⟩ ⟨by omega, by omega⟩ dX8_side_151 rfl (fun c_151 => ?_) (fun c_151 => ?_)
    · have e6 : (if F.length < 3 ∨ lsN F x y F.length < 1 then (-1 : Int) else 1) = -1 := if_pos (Or.inl (by omega))
      refine e_iconst dX8_side_160 ?_
      refine e_goto (tgt := 165) dX8_side_161 rfl ?_
      refine e_iret rfl dX8_side_165 (by decide) (by decide) ?_
      exact ⟨by rw [e7, e6], rfl, rfl⟩
    · refine e_iload dX8_side_154 rfl ?_
      refine e_iconst dX8_side_156 ?_
      refine e_icmp_ge (tgt := 164) ⟨by omega, by omega⟩ ⟨by omega, by omega⟩ dX8_side_157 rfl (fun c_157 => ?_) (fun c_157 => ?_)
      · have e6 : (if F.length < 3 ∨ lsN F x y F.length < 1 then (-1 : Int) else 1) = 1 := if_neg (by omega)
        refine e_iconst dX8_side_164 ?_
        refine e_iret rfl dX8_side_165 (by decide) (by decide) ?_
        exact ⟨by rw [e7, e6], rfl, rfl⟩
      · have e6 : (if F.length < 3 ∨ lsN F x y F.length < 1 then (-1 : Int) else 1) = -1 := if_pos (Or.inr (Int.not_le.mp c_157))
        refine e_iconst dX8_side_160 ?_
        refine e_goto (tgt := 165) dX8_side_161 rfl ?_
        refine e_iret rfl dX8_side_165 (by decide) (by decide) ?_
        exact ⟨by rw [e7, e6], rfl, rfl⟩
  | succ n ih =>
    intro k hkn hno
    have hk : k < F.length := by omega
    have hn := nxt_lt hk
    have b1 := f3 k hk
    have b2 := f3 _ hn
    have hb := lsN_bd F x y k
    have hs := sg_bd (tw (pX F k) (pY F k) (pX F (nxt F.length k)) (pY F (nxt F.length k)) x y)
    refine e_iload dX8_side_14 rfl ?_
    refine e_iload dX8_side_16 rfl ?_
    refine e_icmp_ge (tgt := 148) ⟨by omega, by omega⟩ ⟨by omega, by omega⟩ dX8_side_18 rfl (fun c_18 => absurd c_18 (by omega)) (fun c_18 => ?_)
    refine e_sipush dX8_side_21 (by decide) ?_
    refine e_iload_n dX8_side_24 rfl ?_
    refine e_imul dX8_side_25 ?_
    refine e_iload dX8_side_26 rfl ?_
    refine e_iadd dX8_side_28 ?_
    refine e_istore dX8_side_29 rfl ?_
    refine e_sipush dX8_side_31 (by decide) ?_
    refine e_iload_n dX8_side_34 rfl ?_
    refine e_imul dX8_side_35 ?_
    refine e_iload dX8_side_36 rfl ?_
    refine e_iconst dX8_side_38 ?_
    refine e_iadd dX8_side_39 ?_
    refine e_iload dX8_side_40 rfl ?_
    refine e_irem ⟨by omega, by omega⟩ ⟨by omega, by omega⟩ (by omega) dX8_side_42 ?_
    rw [tmod_nxt hk]
    refine e_iadd dX8_side_43 ?_
    refine e_istore dX8_side_44 rfl ?_
    refine e_aload_n dX8_side_46 rfl ?_
    refine e_getf fX8_29 X.obj rfl dX8_side_47 ?_
    refine e_iload dX8_side_50 rfl ?_
    refine e_ial X.a5 (by omega) (by omega) rfl ((congrArg _ (show (200 * ((f : Nat) : Int) + ((k : Nat) : Int)).toNat = 200 * f + k by omega)).trans (f4 k hk).1) dX8_side_52 ?_
    refine e_i2l ⟨by omega, by omega⟩ dX8_side_53 ?_
    refine e_aload_n dX8_side_54 rfl ?_
    refine e_getf fX8_32 X.obj rfl dX8_side_55 ?_
    refine e_iload dX8_side_58 rfl ?_
    refine e_ial X.a6 (by omega) (by omega) rfl ((congrArg _ (show (200 * ((f : Nat) : Int) + ((k : Nat) : Int)).toNat = 200 * f + k by omega)).trans (f4 k hk).2) dX8_side_60 ?_
    refine e_i2l ⟨by omega, by omega⟩ dX8_side_61 ?_
    refine e_aload_n dX8_side_62 rfl ?_
    refine e_getf fX8_29 X.obj rfl dX8_side_63 ?_
    refine e_iload dX8_side_66 rfl ?_
    refine e_ial X.a5 (by omega) (by omega) rfl ((congrArg _ (show (200 * ((f : Nat) : Int) + (((nxt F.length k) : Nat) : Int)).toNat = 200 * f + (nxt F.length k) by omega)).trans (f4 (nxt F.length k) hn).1) dX8_side_68 ?_
    refine e_i2l ⟨by omega, by omega⟩ dX8_side_69 ?_
    refine e_aload_n dX8_side_70 rfl ?_
    refine e_getf fX8_32 X.obj rfl dX8_side_71 ?_
    refine e_iload dX8_side_74 rfl ?_
    refine e_ial X.a6 (by omega) (by omega) rfl ((congrArg _ (show (200 * ((f : Nat) : Int) + (((nxt F.length k) : Nat) : Int)).toNat = 200 * f + (nxt F.length k) by omega)).trans (f4 (nxt F.length k) hn).2) dX8_side_76 ?_
    refine e_i2l ⟨by omega, by omega⟩ dX8_side_77 ?_
    refine e_iload_n dX8_side_78 rfl ?_
    refine e_i2l ⟨by omega, by omega⟩ dX8_side_79 ?_
    refine e_iload_n dX8_side_80 rfl ?_
    refine e_i2l ⟨by omega, by omega⟩ dX8_side_81 ?_
    refine e_pureS qcX8_169 (S_misOn ⟨by omega, by omega⟩ ⟨by omega, by omega⟩ ⟨by omega, by omega⟩ ⟨by omega, by omega⟩ ⟨by omega, by omega⟩ ⟨by omega, by omega⟩ ) rfl rfl rfl rfl dX8_side_82 ?_
    refine e_ifP_eq (tgt := 90) dX8_side_85 rfl (fun c_85 => ?_) (fun c_85 => ?_)
    · refine e_aload_n dX8_side_90 rfl ?_
      refine e_getf fX8_29 X.obj rfl dX8_side_91 ?_
      refine e_iload dX8_side_94 rfl ?_
      refine e_ial X.a5 (by omega) (by omega) rfl ((congrArg _ (show (200 * ((f : Nat) : Int) + ((k : Nat) : Int)).toNat = 200 * f + k by omega)).trans (f4 k hk).1) dX8_side_96 ?_
      refine e_i2l ⟨by omega, by omega⟩ dX8_side_97 ?_
      refine e_aload_n dX8_side_98 rfl ?_
      refine e_getf fX8_32 X.obj rfl dX8_side_99 ?_
      refine e_iload dX8_side_102 rfl ?_
      refine e_ial X.a6 (by omega) (by omega) rfl ((congrArg _ (show (200 * ((f : Nat) : Int) + ((k : Nat) : Int)).toNat = 200 * f + k by omega)).trans (f4 k hk).2) dX8_side_104 ?_
      refine e_i2l ⟨by omega, by omega⟩ dX8_side_105 ?_
      refine e_aload_n dX8_side_106 rfl ?_
      refine e_getf fX8_29 X.obj rfl dX8_side_107 ?_
      refine e_iload dX8_side_110 rfl ?_
      refine e_ial X.a5 (by omega) (by omega) rfl ((congrArg _ (show (200 * ((f : Nat) : Int) + (((nxt F.length k) : Nat) : Int)).toNat = 200 * f + (nxt F.length k) by omega)).trans (f4 (nxt F.length k) hn).1) dX8_side_112 ?_
      refine e_i2l ⟨by omega, by omega⟩ dX8_side_113 ?_
      refine e_aload_n dX8_side_114 rfl ?_
      refine e_getf fX8_32 X.obj rfl dX8_side_115 ?_
      refine e_iload dX8_side_118 rfl ?_
      refine e_ial X.a6 (by omega) (by omega) rfl ((congrArg _ (show (200 * ((f : Nat) : Int) + (((nxt F.length k) : Nat) : Int)).toNat = 200 * f + (nxt F.length k) by omega)).trans (f4 (nxt F.length k) hn).2) dX8_side_120 ?_
      refine e_i2l ⟨by omega, by omega⟩ dX8_side_121 ?_
      refine e_iload_n dX8_side_122 rfl ?_
      refine e_i2l ⟨by omega, by omega⟩ dX8_side_123 ?_
      refine e_iload_n dX8_side_124 rfl ?_
      refine e_i2l ⟨by omega, by omega⟩ dX8_side_125 ?_
      refine e_pureS qcX8_132 (S_turns (twr ⟨by omega, by omega⟩ ⟨by omega, by omega⟩ ⟨by omega, by omega⟩ ⟨by omega, by omega⟩ ⟨by omega, by omega⟩ ⟨by omega, by omega⟩ )) rfl rfl rfl rfl dX8_side_126 ?_
      refine e_istore dX8_side_129 rfl ?_
      refine e_iload dX8_side_131 rfl ?_
      refine e_iload dX8_side_133 rfl ?_
      refine e_icmp_ge (tgt := 142) ⟨by omega, by omega⟩ ⟨by omega, by omega⟩ dX8_side_135 rfl (fun c_135 => ?_) (fun c_135 => ?_)
      · have e6 : lsN F x y (k + 1) = lsN F x y k := if_neg (Int.not_lt.mpr c_135)
        refine e_iinc dX8_side_142 rfl ?_
        refine e_goto (tgt := 14) dX8_side_145 rfl ?_
        exact e_loc [(6, .int (iN (k + 1 : Nat))), (5, .int (iN (lsN F x y (k + 1)))), (4, .int (iN F.length)), (0, .ref m), (1, .int (iN f)), (2, .int (iN x)), (3, .int (iN y))] ⟨rfl, by rw [e6]; rfl, rfl, rfl, rfl, rfl, rfl, trivial⟩ (ih (k + 1) (by omega) (fun i hi => if c : i < k then hno i c else by rw [show i = k by omega]; exact c_85))
      · have e6 : lsN F x y (k + 1) = hSg F x y k := if_pos (Int.not_le.mp c_135)
        refine e_iload dX8_side_138 rfl ?_
        refine e_istore dX8_side_140 rfl ?_
        refine e_iinc dX8_side_142 rfl ?_
        refine e_goto (tgt := 14) dX8_side_145 rfl ?_
        exact e_loc [(6, .int (iN (k + 1 : Nat))), (5, .int (iN (lsN F x y (k + 1)))), (4, .int (iN F.length)), (0, .ref m), (1, .int (iN f)), (2, .int (iN x)), (3, .int (iN y))] ⟨rfl, by rw [e6]; rfl, rfl, rfl, rfl, rfl, rfl, trivial⟩ (ih (k + 1) (by omega) (fun i hi => if c : i < k then hno i c else by rw [show i = k by omega]; exact c_85))
    · refine e_iconst dX8_side_88 ?_
      refine e_iret rfl dX8_side_89 (by decide) (by decide) ?_
      exact ⟨by rw [show sdI F x y = 0 from cif_t ⟨k, hk, c_85⟩], rfl, rfl⟩
set_option maxRecDepth 20000 in
theorem S_mside {f : Nat} {F : PL} (X : mdX G sc ar m h0 h) (hF : mdH ar f F) (hf : f < 3) {x y : Int} (hx : r32 x) (hy : r32 y) : Pure G mX8_side [.ref m, .int (iN f), .int (iN x), .int (iN y)] h (.int (iN (sdI F x y))) := by
  have f1 := hF.1
  intro z
  refine run_of rfl plX8 rfl ?_
  refine e_aload_n dX8_side_0 rfl ?_
  refine e_getf fX8_35 X.obj rfl dX8_side_1 ?_
  refine e_iload_n dX8_side_4 rfl ?_
  refine e_ial X.a7 (by omega) (by omega) rfl f1 dX8_side_5 ?_
  refine e_istore dX8_side_6 rfl ?_
  refine e_iconst dX8_side_8 ?_
  refine e_istore dX8_side_9 rfl ?_
  refine e_iconst dX8_side_11 ?_
  refine e_istore dX8_side_12 rfl ?_
  exact e_loc [(6, .int (iN (0 : Nat))), (5, .int (iN (lsN F x y (0)))), (4, .int (iN F.length)), (0, .ref m), (1, .int (iN f)), (2, .int (iN x)), (3, .int (iN y))] ⟨rfl, rfl, rfl, rfl, rfl, rfl, rfl, trivial⟩ (sd_loop X hF hf hx hy _ 0 (Nat.zero_add _) (fun i hi => absurd hi (Nat.not_lt_zero _)))
set_option maxRecDepth 20000 in
theorem db_loop {z : Option Nat} {f : Nat} {F : PL} (X : mdX G sc ar m h0 h) (hF : mdH ar f F) (hf : f < 3) : ∀ (n k : Nat), k + n = F.length → Ev (g_B G mX8_doubled 0 0 (fun o z1 h1 => o = .inl (some (.int (iN (da F)))) ∧ z1 = z ∧ h1 = h)) 0 0 z h 4 [(3, .int (iN (k : Nat))), (2, .int (iN (sumN (daT F) (k)))), (0, .ref m), (1, .int (iN f))] [] := by
  obtain ⟨f1, f2, f3, f4⟩ := hF
  intro n
  induction n with
  | zero =>
    intro k hkn
    have e9 : k = F.length := by omega
    subst e9
    refine e_iload_n dX8_doubled_4 rfl ?_
    refine e_aload_n dX8_doubled_5 rfl ?_
    refine e_getf fX8_35 X.obj rfl dX8_doubled_6 ?_
    refine e_iload_n dX8_doubled_9 rfl ?_
    refine e_ial X.a7 (by omega) (by omega) rfl f1 dX8_doubled_10 ?_
    refine e_icmp_ge (tgt := 81) ⟨by omega, by omega⟩ ⟨by omega, by omega⟩ dX8_doubled_11 rfl (fun c_11 => ?_) (fun c_11 => absurd (by omega) c_11)
    refine e_iload_n dX8_doubled_81 rfl ?_
    refine e_iret rfl dX8_doubled_82 (by decide) (by decide) ?_
    exact ⟨rfl, rfl, rfl⟩
  | succ n ih =>
    intro k hkn
    have hk : k < F.length := by omega
    have hn := nxt_lt hk
    refine e_iload_n dX8_doubled_4 rfl ?_
    refine e_aload_n dX8_doubled_5 rfl ?_
    refine e_getf fX8_35 X.obj rfl dX8_doubled_6 ?_
    refine e_iload_n dX8_doubled_9 rfl ?_
    refine e_ial X.a7 (by omega) (by omega) rfl f1 dX8_doubled_10 ?_
    refine e_icmp_ge (tgt := 81) ⟨by omega, by omega⟩ ⟨by omega, by omega⟩ dX8_doubled_11 rfl (fun c_11 => absurd c_11 (by omega)) (fun c_11 => ?_)
    refine e_sipush dX8_doubled_14 (by decide) ?_
    refine e_iload_n dX8_doubled_17 rfl ?_
    refine e_imul dX8_doubled_18 ?_
    refine e_iload_n dX8_doubled_19 rfl ?_
    refine e_iadd dX8_doubled_20 ?_
    refine e_istore dX8_doubled_21 rfl ?_
    refine e_sipush dX8_doubled_23 (by decide) ?_
    refine e_iload_n dX8_doubled_26 rfl ?_
    refine e_imul dX8_doubled_27 ?_
    refine e_iload_n dX8_doubled_28 rfl ?_
    refine e_iconst dX8_doubled_29 ?_
    refine e_iadd dX8_doubled_30 ?_
    refine e_aload_n dX8_doubled_31 rfl ?_
    refine e_getf fX8_35 X.obj rfl dX8_doubled_32 ?_
    refine e_iload_n dX8_doubled_35 rfl ?_
    refine e_ial X.a7 (by omega) (by omega) rfl f1 dX8_doubled_36 ?_
    refine e_irem ⟨by omega, by omega⟩ ⟨by omega, by omega⟩ (by omega) dX8_doubled_37 ?_
    rw [tmod_nxt hk]
    refine e_iadd dX8_doubled_38 ?_
    refine e_istore dX8_doubled_39 rfl ?_
    refine e_iload_n dX8_doubled_41 rfl ?_
    refine e_aload_n dX8_doubled_42 rfl ?_
    refine e_getf fX8_29 X.obj rfl dX8_doubled_43 ?_
    refine e_iload dX8_doubled_46 rfl ?_
    refine e_ial X.a5 (by omega) (by omega) rfl ((congrArg _ (show (200 * ((f : Nat) : Int) + ((k : Nat) : Int)).toNat = 200 * f + k by omega)).trans (f4 k hk).1) dX8_doubled_48 ?_
    refine e_aload_n dX8_doubled_49 rfl ?_
    refine e_getf fX8_32 X.obj rfl dX8_doubled_50 ?_
    refine e_iload dX8_doubled_53 rfl ?_
    refine e_ial X.a6 (by omega) (by omega) rfl ((congrArg _ (show (200 * ((f : Nat) : Int) + (((nxt F.length k) : Nat) : Int)).toNat = 200 * f + (nxt F.length k) by omega)).trans (f4 (nxt F.length k) hn).2) dX8_doubled_55 ?_
    refine e_imul dX8_doubled_56 ?_
    refine e_aload_n dX8_doubled_57 rfl ?_
    refine e_getf fX8_32 X.obj rfl dX8_doubled_58 ?_
    refine e_iload dX8_doubled_61 rfl ?_
    refine e_ial X.a6 (by omega) (by omega) rfl ((congrArg _ (show (200 * ((f : Nat) : Int) + ((k : Nat) : Int)).toNat = 200 * f + k by omega)).trans (f4 k hk).2) dX8_doubled_63 ?_
    refine e_aload_n dX8_doubled_64 rfl ?_
    refine e_getf fX8_29 X.obj rfl dX8_doubled_65 ?_
    refine e_iload dX8_doubled_68 rfl ?_
    refine e_ial X.a5 (by omega) (by omega) rfl ((congrArg _ (show (200 * ((f : Nat) : Int) + (((nxt F.length k) : Nat) : Int)).toNat = 200 * f + (nxt F.length k) by omega)).trans (f4 (nxt F.length k) hn).1) dX8_doubled_70 ?_
    refine e_imul dX8_doubled_71 ?_
    refine e_isub dX8_doubled_72 ?_
    refine e_iadd dX8_doubled_73 ?_
    refine e_istore_n dX8_doubled_74 rfl ?_
    refine e_iinc dX8_doubled_75 rfl ?_
    refine e_goto (tgt := 4) dX8_doubled_78 rfl ?_
    exact e_loc [(3, .int (iN (k + 1 : Nat))), (2, .int (iN (sumN (daT F) (k + 1)))), (0, .ref m), (1, .int (iN f))] ⟨rfl, rfl, rfl, rfl, trivial⟩ (ih (k + 1) (by omega))
set_option maxRecDepth 20000 in
theorem S_doubled {f : Nat} {F : PL} (X : mdX G sc ar m h0 h) (hF : mdH ar f F) (hf : f < 3) : Pure G mX8_doubled [.ref m, .int (iN f)] h (.int (iN (da F))) := by
  intro z
  refine run_of rfl plX8 rfl ?_
  refine e_iconst dX8_doubled_0 ?_
  refine e_istore_n dX8_doubled_1 rfl ?_
  refine e_iconst dX8_doubled_2 ?_
  refine e_istore_n dX8_doubled_3 rfl ?_
  exact e_loc [(3, .int (iN (0 : Nat))), (2, .int (iN (sumN (daT F) (0)))), (0, .ref m), (1, .int (iN f))] ⟨rfl, rfl, rfl, rfl, trivial⟩ (db_loop X hF hf _ 0 (Nat.zero_add _))
def isI (F H : PL) : Prop := ∃ k, k < F.length ∧ 0 ≤ sdI H (pX F k) (pY F k)
set_option maxRecDepth 20000 in
theorem ii_loop {z : Option Nat} {f g : Nat} {F H : PL} (X : mdX G sc ar m h0 h) (hF : mdH ar f F) (hf : f < 3) (hG : mdH ar g H) (hg : g < 3) : ∀ (n k : Nat), k + n = F.length → (∀ i, i < k → ¬ 0 ≤ sdI H (pX F i) (pY F i)) → Ev (g_B G mX8_isIn 0 0 (fun o z1 h1 => o = .inl (some (.int (iN (bC (isI F H))))) ∧ z1 = z ∧ h1 = h)) 0 0 z h 2 [(3, .int (iN (k : Nat))), (0, .ref m), (1, .int (iN f)), (2, .int (iN g))] [] := by
  obtain ⟨f1, f2, f3, f4⟩ := hF
  intro n
  induction n with
  | zero =>
    intro k hkn hno
    have e9 : k = F.length := by omega
    subst e9
    have e7 : bC (isI F H) = 0 := bC_f (fun ⟨i, hi, w⟩ => hno i hi w)
    refine e_iload_n dX8_isIn_2 rfl ?_
    refine e_aload_n dX8_isIn_3 rfl ?_
    refine e_getf fX8_35 X.obj rfl dX8_isIn_4 ?_
    refine e_iload_n dX8_isIn_7 rfl ?_
    refine e_ial X.a7 (by omega) (by omega) rfl f1 dX8_isIn_8 ?_
    refine e_icmp_ge (tgt := 52) ⟨by omega, by omega⟩ ⟨by omega, by omega⟩ dX8_isIn_9 rfl (fun c_9 => ?_) (fun c_9 => absurd (by omega) c_9)
    refine e_iconst dX8_isIn_52 ?_
    refine e_zret rfl (by first | exact Or.inl rfl | exact Or.inr rfl | exact bP_01 _) dX8_isIn_53 (by decide) (by decide) ?_
    exact ⟨by rw [e7], rfl, rfl⟩
  | succ n ih =>
    intro k hkn hno
    have hk : k < F.length := by omega
    have b1 := f3 k hk
    have hs := sdI_bd H (pX F k) (pY F k)
    refine e_iload_n dX8_isIn_2 rfl ?_
    refine e_aload_n dX8_isIn_3 rfl ?_
    refine e_getf fX8_35 X.obj rfl dX8_isIn_4 ?_
    refine e_iload_n dX8_isIn_7 rfl ?_
    refine e_ial X.a7 (by omega) (by omega) rfl f1 dX8_isIn_8 ?_
    refine e_icmp_ge (tgt := 52) ⟨by omega, by omega⟩ ⟨by omega, by omega⟩ dX8_isIn_9 rfl (fun c_9 => absurd c_9 (by omega)) (fun c_9 => ?_)
    refine e_aload_n dX8_isIn_12 rfl ?_
    refine e_iload_n dX8_isIn_13 rfl ?_
    refine e_aload_n dX8_isIn_14 rfl ?_
    refine e_getf fX8_29 X.obj rfl dX8_isIn_15 ?_
    refine e_sipush dX8_isIn_18 (by decide) ?_
    refine e_iload_n dX8_isIn_21 rfl ?_
    refine e_imul dX8_isIn_22 ?_
    refine e_iload_n dX8_isIn_23 rfl ?_
    refine e_iadd dX8_isIn_24 ?_
    refine e_ial X.a5 (by omega) (by omega) rfl ((congrArg _ (show (200 * ((f : Nat) : Int) + ((k : Nat) : Int)).toNat = 200 * f + k by omega)).trans (f4 k hk).1) dX8_isIn_25 ?_
    refine e_aload_n dX8_isIn_26 rfl ?_
    refine e_getf fX8_32 X.obj rfl dX8_isIn_27 ?_
    refine e_sipush dX8_isIn_30 (by decide) ?_
    refine e_iload_n dX8_isIn_33 rfl ?_
    refine e_imul dX8_isIn_34 ?_
    refine e_iload_n dX8_isIn_35 rfl ?_
    refine e_iadd dX8_isIn_36 ?_
    refine e_ial X.a6 (by omega) (by omega) rfl ((congrArg _ (show (200 * ((f : Nat) : Int) + ((k : Nat) : Int)).toNat = 200 * f + k by omega)).trans (f4 k hk).2) dX8_isIn_37 ?_
    refine e_pureV qcX8_162 X.obj rfl rfl (S_mside X hG hg ⟨by omega, by omega⟩ ⟨by omega, by omega⟩) rfl rfl rfl rfl dX8_isIn_38 ?_
    refine e_if_lt (tgt := 46) ⟨by omega, by omega⟩ dX8_isIn_41 rfl (fun c_41 => ?_) (fun c_41 => ?_)
    · refine e_iinc dX8_isIn_46 rfl ?_
      refine e_goto (tgt := 2) dX8_isIn_49 rfl ?_
      exact e_loc [(3, .int (iN (k + 1 : Nat))), (0, .ref m), (1, .int (iN f)), (2, .int (iN g))] ⟨rfl, rfl, rfl, rfl, trivial⟩ (ih (k + 1) (by omega) (fun i hi => if c : i < k then hno i c else by rw [show i = k by omega]; exact Int.not_le.mpr c_41))
    · refine e_iconst dX8_isIn_44 ?_
      refine e_zret rfl (by first | exact Or.inl rfl | exact Or.inr rfl | exact bP_01 _) dX8_isIn_45 (by decide) (by decide) ?_
      exact ⟨by rw [show bC (isI F H) = 1 from bC_t ⟨k, hk, Int.not_lt.mp c_41⟩], rfl, rfl⟩
set_option maxRecDepth 20000 in
theorem S_isIn {f g : Nat} {F H : PL} (X : mdX G sc ar m h0 h) (hF : mdH ar f F) (hf : f < 3) (hG : mdH ar g H) (hg : g < 3) : Pure G mX8_isIn [.ref m, .int (iN f), .int (iN g)] h (.int (iN (bC (isI F H)))) := by
  intro z
  refine run_of rfl plX8 rfl ?_
  refine e_iconst dX8_isIn_0 ?_
  refine e_istore_n dX8_isIn_1 rfl ?_
  exact e_loc [(3, .int (iN (0 : Nat))), (0, .ref m), (1, .int (iN f)), (2, .int (iN g))] ⟨rfl, rfl, rfl, rfl, trivial⟩ (ii_loop X hF hf hG hg _ 0 (Nat.zero_add _) (fun i hi => absurd hi (Nat.not_lt_zero _)))
abbrev lexL (Q : PL) (i j : Nat) : Prop := pX Q i < pX Q j ∨ (pX Q i = pX Q j ∧ pY Q i < pY Q j)
/-- the first place in order of the first n + 1 -/
def fiN (Q : PL) : Nat → Nat
  | 0 => 0
  | n + 1 => if lexL Q (n + 1) (fiN Q n) then n + 1 else fiN Q n
theorem fiN_le (Q : PL) : ∀ n, fiN Q n ≤ n
  | 0 => Nat.le_refl _
  | n + 1 => by
    have := fiN_le Q n
    unfold fiN
    split <;> omega
abbrev sgQ (Q : PL) (i j k : Nat) : Int := sg (tw (pX Q i) (pY Q i) (pX Q j) (pY Q j) (pX Q k) (pY Q k))
theorem farQ_bd {Q : PL} (h : okS Q) {i j : Nat} (hi : i < Q.length) (hj : j < Q.length) : 0 ≤ farQ Q i j ∧ farQ Q i j ≤ 1600 := by
  have b1 := h i hi
  have b2 := h j hj
  show 0 ≤ ((_ : Nat) : Int) + ((_ : Nat) : Int) ∧ ((_ : Nat) : Int) + ((_ : Nat) : Int) ≤ 1600
  omega
/-- whether k is farther to the right, seen from i, than j -/
def gwU (Q : PL) (i j k : Nat) : Prop := (if j = i then 0 else sgQ Q i j k) < 0 ∨ ((if j = i then 0 else sgQ Q i j k) = 0 ∧ farQ Q i j < farQ Q i k)
noncomputable def nxG (Q : PL) (i : Nat) : Nat → Nat
  | 0 => i
  | k + 1 => cif (gwU Q i (nxG Q i k) k) k (nxG Q i k)
theorem nxG_lt {Q : PL} {i : Nat} (hi : i < Q.length) : ∀ k, k ≤ Q.length → nxG Q i k < Q.length
  | 0, _ => hi
  | k + 1, hk => by
    unfold nxG
    by_cases c : gwU Q i (nxG Q i k) k
    · rw [cif_t c]; omega
    · rw [cif_f c]; exact nxG_lt hi k (by omega)
noncomputable def wq (Q : PL) : Nat → Nat
  | 0 => fiN Q (Q.length - 1)
  | i + 1 => nxG Q (wq Q i) Q.length
theorem wq_lt {Q : PL} (h : 0 < Q.length) : ∀ i, wq Q i < Q.length
  | 0 => by have := fiN_le Q (Q.length - 1); show fiN Q (Q.length - 1) < _; omega
  | i + 1 => nxG_lt (wq_lt h i) _ (Nat.le_refl _)
abbrev sameQ (Q : PL) (i j : Nat) : Prop := pX Q i = pX Q j ∧ pY Q i = pY Q j
/-- the way round ends after n places -/
def gwc (Q : PL) (n : Nat) : Prop := n ≤ 200 ∧ (Q.length = 0 → n = 0) ∧ (0 < Q.length → 0 < n ∧ sameQ Q (wq Q n) (wq Q 0) ∧ ∀ i, 0 < i → i < n → ¬ sameQ Q (wq Q i) (wq Q 0))
noncomputable def gwL (Q : PL) (n : Nat) : PL := (List.range n).map (fun i => (pX Q (wq Q i), pY Q (wq Q i), 0))
theorem gwL_len (Q : PL) (n : Nat) : (gwL Q n).length = n := by unfold gwL; rw [List.length_map, List.length_range]
theorem gwL_at {Q : PL} {n k : Nat} (hk : k < n) : pX (gwL Q n) k = pX Q (wq Q k) ∧ pY (gwL Q n) k = pY Q (wq Q k) := by
  unfold gwL pX pY
  simp [List.getD, hk]
set_option maxRecDepth 20000 in
theorem wr_first {Z : g_Z} {z : Option Nat} {f : Nat} {Q : PL} (X : mdX G sc ar m h0 h) (hQ : mdQ sc ar Q) (kk : Ev (g_B G mX8_wraps 0 0 Z) 0 0 z h 65 [(2, .int (iN (fiN Q (Q.length - 1) : Nat))), (0, .ref m), (1, .int (iN f))] []) : ∀ (n k : Nat), k + n = Q.length - 1 → Ev (g_B G mX8_wraps 0 0 Z) 0 0 z h 4 [(3, .int (iN (k + 1 : Nat))), (2, .int (iN (fiN Q (k) : Nat))), (0, .ref m), (1, .int (iN f))] [] := by
  obtain ⟨q1, q2, q3, q4⟩ := hQ
  intro n
  induction n with
  | zero =>
    intro k hkn
    have e9 : k = Q.length - 1 := by omega
    rw [e9]
    refine e_iload_n dX8_wraps_4 rfl ?_
    refine e_aload_n dX8_wraps_5 rfl ?_
    refine e_getf fX8_136 X.obj rfl dX8_wraps_6 ?_
    rw [q1]
    refine e_icmp_ge (tgt := 65) ⟨by omega, by omega⟩ ⟨by omega, by omega⟩ dX8_wraps_9 rfl (fun c_9 => ?_) (fun c_9 => absurd (by omega) c_9)
    exact e_loc [(2, .int (iN (fiN Q (Q.length - 1) : Nat))), (0, .ref m), (1, .int (iN f))] ⟨rfl, rfl, rfl, trivial⟩ kk
  | succ n ih =>
    intro k hkn
    have hk : k + 1 < Q.length := by omega
    have hi : fiN Q k < Q.length := by have := fiN_le Q k; omega
    have b1 := q3 _ hk
    have b2 := q3 _ hi
    refine e_iload_n dX8_wraps_4 rfl ?_
    refine e_aload_n dX8_wraps_5 rfl ?_
    refine e_getf fX8_136 X.obj rfl dX8_wraps_6 ?_
    rw [q1]
    refine e_icmp_ge (tgt := 65) ⟨by omega, by omega⟩ ⟨by omega, by omega⟩ dX8_wraps_9 rfl (fun c_9 => absurd c_9 (by omega)) (fun c_9 => ?_)
    refine e_aload_n dX8_wraps_12 rfl ?_
    refine e_getf fX8_23 X.obj rfl dX8_wraps_13 ?_
    refine e_iload_n dX8_wraps_16 rfl ?_
    refine e_ial X.a3 (by omega) (by omega) rfl (q4 _ hk).1 dX8_wraps_17 ?_
    refine e_aload_n dX8_wraps_18 rfl ?_
    refine e_getf fX8_23 X.obj rfl dX8_wraps_19 ?_
    refine e_iload_n dX8_wraps_22 rfl ?_
    refine e_ial X.a3 (by omega) (by omega) rfl (q4 _ hi).1 dX8_wraps_23 ?_
    refine e_icmp_lt (tgt := 57) ⟨by omega, by omega⟩ ⟨by omega, by omega⟩ dX8_wraps_24 rfl (fun c_24 => ?_) (fun c_24 => ?_)
    · have e6 : fiN Q (k + 1) = k + 1 := if_pos (Or.inl c_24)
      refine e_iload_n dX8_wraps_57 rfl ?_
      refine e_istore_n dX8_wraps_58 rfl ?_
      refine e_iinc dX8_wraps_59 rfl ?_
      refine e_goto (tgt := 4) dX8_wraps_62 rfl ?_
      exact e_loc [(3, .int (iN (k + 1 + 1 : Nat))), (2, .int (iN (fiN Q (k + 1) : Nat))), (0, .ref m), (1, .int (iN f))] ⟨rfl, by rw [e6]; rfl, rfl, rfl, trivial⟩ (ih (k + 1) (by omega))
    · refine e_aload_n dX8_wraps_27 rfl ?_
      refine e_getf fX8_23 X.obj rfl dX8_wraps_28 ?_
      refine e_iload_n dX8_wraps_31 rfl ?_
      refine e_ial X.a3 (by omega) (by omega) rfl (q4 _ hk).1 dX8_wraps_32 ?_
      refine e_aload_n dX8_wraps_33 rfl ?_
      refine e_getf fX8_23 X.obj rfl dX8_wraps_34 ?_
      refine e_iload_n dX8_wraps_37 rfl ?_
      refine e_ial X.a3 (by omega) (by omega) rfl (q4 _ hi).1 dX8_wraps_38 ?_
      refine e_icmp_ne (tgt := 59) ⟨by omega, by omega⟩ ⟨by omega, by omega⟩ dX8_wraps_39 rfl (fun c_39 => ?_) (fun c_39 => ?_)
      · have e6 : fiN Q (k + 1) = fiN Q k := if_neg (by omega)
        refine e_iinc dX8_wraps_59 rfl ?_
        refine e_goto (tgt := 4) dX8_wraps_62 rfl ?_
        exact e_loc [(3, .int (iN (k + 1 + 1 : Nat))), (2, .int (iN (fiN Q (k + 1) : Nat))), (0, .ref m), (1, .int (iN f))] ⟨rfl, by rw [e6]; rfl, rfl, rfl, trivial⟩ (ih (k + 1) (by omega))
      · refine e_aload_n dX8_wraps_42 rfl ?_
        refine e_getf fX8_26 X.obj rfl dX8_wraps_43 ?_
        refine e_iload_n dX8_wraps_46 rfl ?_
        refine e_ial X.a4 (by omega) (by omega) rfl (q4 _ hk).2 dX8_wraps_47 ?_
        refine e_aload_n dX8_wraps_48 rfl ?_
        refine e_getf fX8_26 X.obj rfl dX8_wraps_49 ?_
        refine e_iload_n dX8_wraps_52 rfl ?_
        refine e_ial X.a4 (by omega) (by omega) rfl (q4 _ hi).2 dX8_wraps_53 ?_
        refine e_icmp_ge (tgt := 59) ⟨by omega, by omega⟩ ⟨by omega, by omega⟩ dX8_wraps_54 rfl (fun c_54 => ?_) (fun c_54 => ?_)
        · have e6 : fiN Q (k + 1) = fiN Q k := if_neg (by omega)
          refine e_iinc dX8_wraps_59 rfl ?_
          refine e_goto (tgt := 4) dX8_wraps_62 rfl ?_
          exact e_loc [(3, .int (iN (k + 1 + 1 : Nat))), (2, .int (iN (fiN Q (k + 1) : Nat))), (0, .ref m), (1, .int (iN f))] ⟨rfl, by rw [e6]; rfl, rfl, rfl, trivial⟩ (ih (k + 1) (by omega))
        · have e6 : fiN Q (k + 1) = k + 1 := if_pos (by omega)
          refine e_iload_n dX8_wraps_57 rfl ?_
          refine e_istore_n dX8_wraps_58 rfl ?_
          refine e_iinc dX8_wraps_59 rfl ?_
          refine e_goto (tgt := 4) dX8_wraps_62 rfl ?_
          exact e_loc [(3, .int (iN (k + 1 + 1 : Nat))), (2, .int (iN (fiN Q (k + 1) : Nat))), (0, .ref m), (1, .int (iN f))] ⟨rfl, by rw [e6]; rfl, rfl, rfl, trivial⟩ (ih (k + 1) (by omega))
set_option maxRecDepth 20000 in
theorem wr_inner {Z : g_Z} {z : Option Nat} {f i j q : Nat} {Q : PL} (X : mdX G sc ar m h0 h) (hQ : mdQ sc ar Q) (hi : i < Q.length) (kk : Ev (g_B G mX8_wraps 0 0 Z) 0 0 z h 249 [(6, .int (iN (nxG Q i Q.length : Nat))), (4, .int (iN i)), (3, .int (iN (j : Nat))), (2, .int (iN q)), (0, .ref m), (1, .int (iN f))] []) : ∀ (n k : Nat), k + n = Q.length → Ev (g_B G mX8_wraps 0 0 Z) 0 0 z h 137 [(7, .int (iN (k : Nat))), (6, .int (iN (nxG Q i (k) : Nat))), (4, .int (iN i)), (3, .int (iN (j : Nat))), (2, .int (iN q)), (0, .ref m), (1, .int (iN f))] [] := by
  have hQ9 := hQ
  obtain ⟨q1, q2, q3, q4⟩ := hQ
  intro n
  induction n with
  | zero =>
    intro k hkn
    have e9 : k = Q.length := by omega
    rw [e9]
    refine e_iload dX8_wraps_137 rfl ?_
    refine e_aload_n dX8_wraps_139 rfl ?_
    refine e_getf fX8_136 X.obj rfl dX8_wraps_140 ?_
    rw [q1]
    refine e_icmp_ge (tgt := 249) ⟨by omega, by omega⟩ ⟨by omega, by omega⟩ dX8_wraps_143 rfl (fun c_143 => ?_) (fun c_143 => absurd (by omega) c_143)
    exact e_loc [(6, .int (iN (nxG Q i Q.length : Nat))), (4, .int (iN i)), (3, .int (iN (j : Nat))), (2, .int (iN q)), (0, .ref m), (1, .int (iN f))] ⟨rfl, rfl, rfl, rfl, rfl, rfl, trivial⟩ kk
  | succ n ih =>
    intro k hkn
    have hk : k < Q.length := by omega
    have hj := nxG_lt hi k (by omega)
    have b1 := q3 _ hi
    have b2 := q3 _ hj
    have b3 := q3 _ hk
    have d1 := farQ_bd q3 hi hk
    have d2 := farQ_bd q3 hi hj
    have e6 : nxG Q i (k + 1) = cif (gwU Q i (nxG Q i k) k) k (nxG Q i k) := rfl
    generalize nxG Q i k = nx at *
    have hs := sg_bd (tw (pX Q i) (pY Q i) (pX Q nx) (pY Q nx) (pX Q k) (pY Q k))
    refine e_iload dX8_wraps_137 rfl ?_
    refine e_aload_n dX8_wraps_139 rfl ?_
    refine e_getf fX8_136 X.obj rfl dX8_wraps_140 ?_
    rw [q1]
    refine e_icmp_ge (tgt := 249) ⟨by omega, by omega⟩ ⟨by omega, by omega⟩ dX8_wraps_143 rfl (fun c_143 => absurd c_143 (by omega)) (fun c_143 => ?_)
    refine e_iload dX8_wraps_146 rfl ?_
    refine e_iload dX8_wraps_148 rfl ?_
    refine e_icmp_ne (tgt := 157) ⟨by omega, by omega⟩ ⟨by omega, by omega⟩ dX8_wraps_150 rfl (fun c_150 => ?_) (fun c_150 => ?_)
    · refine e_aload_n dX8_wraps_157 rfl ?_
      refine e_getf fX8_23 X.obj rfl dX8_wraps_158 ?_
      refine e_iload dX8_wraps_161 rfl ?_
      refine e_ial X.a3 (by omega) (by omega) rfl (q4 _ hi).1 dX8_wraps_163 ?_
      refine e_i2l ⟨by omega, by omega⟩ dX8_wraps_164 ?_
      refine e_aload_n dX8_wraps_165 rfl ?_
      refine e_getf fX8_26 X.obj rfl dX8_wraps_166 ?_
      refine e_iload dX8_wraps_169 rfl ?_
      refine e_ial X.a4 (by omega) (by omega) rfl (q4 _ hi).2 dX8_wraps_171 ?_
      refine e_i2l ⟨by omega, by omega⟩ dX8_wraps_172 ?_
      refine e_aload_n dX8_wraps_173 rfl ?_
      refine e_getf fX8_23 X.obj rfl dX8_wraps_174 ?_
      refine e_iload dX8_wraps_177 rfl ?_
      refine e_ial X.a3 (by omega) (by omega) rfl (q4 _ hj).1 dX8_wraps_179 ?_
      refine e_i2l ⟨by omega, by omega⟩ dX8_wraps_180 ?_
      refine e_aload_n dX8_wraps_181 rfl ?_
      refine e_getf fX8_26 X.obj rfl dX8_wraps_182 ?_
      refine e_iload dX8_wraps_185 rfl ?_
      refine e_ial X.a4 (by omega) (by omega) rfl (q4 _ hj).2 dX8_wraps_187 ?_
      refine e_i2l ⟨by omega, by omega⟩ dX8_wraps_188 ?_
      refine e_aload_n dX8_wraps_189 rfl ?_
      refine e_getf fX8_23 X.obj rfl dX8_wraps_190 ?_
      refine e_iload dX8_wraps_193 rfl ?_
      refine e_ial X.a3 (by omega) (by omega) rfl (q4 _ hk).1 dX8_wraps_195 ?_
      refine e_i2l ⟨by omega, by omega⟩ dX8_wraps_196 ?_
      refine e_aload_n dX8_wraps_197 rfl ?_
      refine e_getf fX8_26 X.obj rfl dX8_wraps_198 ?_
      refine e_iload dX8_wraps_201 rfl ?_
      refine e_ial X.a4 (by omega) (by omega) rfl (q4 _ hk).2 dX8_wraps_203 ?_
      refine e_i2l ⟨by omega, by omega⟩ dX8_wraps_204 ?_
      refine e_pureS qcX8_132 (S_turns (twr ⟨by omega, by omega⟩ ⟨by omega, by omega⟩ ⟨by omega, by omega⟩ ⟨by omega, by omega⟩ ⟨by omega, by omega⟩ ⟨by omega, by omega⟩)) rfl rfl rfl rfl dX8_wraps_205 ?_
      refine e_top (if nx = i then 0 else sgQ Q i nx k) (if_neg (by omega)).symm ?_
      generalize hw : (if nx = i then 0 else sgQ Q i nx k) = w
      have hwb : -1 ≤ w ∧ w ≤ 1 := by rw [← hw]; split <;> omega
      refine e_istore dX8_wraps_208 rfl ?_
      refine e_iload dX8_wraps_210 rfl ?_
      refine e_if_lt (tgt := 239) ⟨by omega, by omega⟩ dX8_wraps_212 rfl (fun c_212 => ?_) (fun c_212 => ?_)
      · have e7 : gwU Q i nx k := Or.inl (by rw [hw]; exact c_212)
        refine e_iload dX8_wraps_239 rfl ?_
        refine e_istore dX8_wraps_241 rfl ?_
        refine e_iinc dX8_wraps_243 rfl ?_
        refine e_goto (tgt := 137) dX8_wraps_246 rfl ?_
        first | exact e_loc [(7, .int (iN (k + 1 : Nat))), (6, .int (iN (nxG Q i (k + 1) : Nat))), (4, .int (iN i)), (3, .int (iN (j : Nat))), (2, .int (iN q)), (0, .ref m), (1, .int (iN f))] ⟨rfl, by rw [e6, cif_t e7]; rfl, rfl, rfl, rfl, rfl, rfl, trivial⟩ (ih (k + 1) (by omega)) | exact e_loc [(7, .int (iN (k + 1 : Nat))), (6, .int (iN (nxG Q i (k + 1) : Nat))), (4, .int (iN i)), (3, .int (iN (j : Nat))), (2, .int (iN q)), (0, .ref m), (1, .int (iN f))] ⟨rfl, by rw [e6, cif_f e7]; rfl, rfl, rfl, rfl, rfl, rfl, trivial⟩ (ih (k + 1) (by omega))
      · refine e_iload dX8_wraps_215 rfl ?_
        refine e_if_ne (tgt := 243) ⟨by omega, by omega⟩ dX8_wraps_217 rfl (fun c_217 => ?_) (fun c_217 => ?_)
        · have e7 : ¬ gwU Q i nx k := fun v => v.elim (fun v => by rw [hw] at v; exact c_212 v) (fun v => by rw [hw] at v; exact c_217 v.1)
          refine e_iinc dX8_wraps_243 rfl ?_
          refine e_goto (tgt := 137) dX8_wraps_246 rfl ?_
          first | exact e_loc [(7, .int (iN (k + 1 : Nat))), (6, .int (iN (nxG Q i (k + 1) : Nat))), (4, .int (iN i)), (3, .int (iN (j : Nat))), (2, .int (iN q)), (0, .ref m), (1, .int (iN f))] ⟨rfl, by rw [e6, cif_t e7]; rfl, rfl, rfl, rfl, rfl, rfl, trivial⟩ (ih (k + 1) (by omega)) | exact e_loc [(7, .int (iN (k + 1 : Nat))), (6, .int (iN (nxG Q i (k + 1) : Nat))), (4, .int (iN i)), (3, .int (iN (j : Nat))), (2, .int (iN q)), (0, .ref m), (1, .int (iN f))] ⟨rfl, by rw [e6, cif_f e7]; rfl, rfl, rfl, rfl, rfl, rfl, trivial⟩ (ih (k + 1) (by omega))
        · refine e_aload_n dX8_wraps_220 rfl ?_
          refine e_iload dX8_wraps_221 rfl ?_
          refine e_iload dX8_wraps_223 rfl ?_
          refine e_pureV qcX8_143 X.obj rfl rfl (S_far X hQ9 hi hk) rfl rfl rfl rfl dX8_wraps_225 ?_
          refine e_aload_n dX8_wraps_228 rfl ?_
          refine e_iload dX8_wraps_229 rfl ?_
          refine e_iload dX8_wraps_231 rfl ?_
          refine e_pureV qcX8_143 X.obj rfl rfl (S_far X hQ9 hi hj) rfl rfl rfl rfl dX8_wraps_233 ?_
          refine e_icmp_le (tgt := 243) ⟨by omega, by omega⟩ ⟨by omega, by omega⟩ dX8_wraps_236 rfl (fun c_236 => ?_) (fun c_236 => ?_)
          · have e7 : ¬ gwU Q i nx k := fun v => v.elim (fun v => by rw [hw] at v; exact c_212 v) (fun v => absurd v.2 (Int.not_lt.mpr c_236))
            refine e_iinc dX8_wraps_243 rfl ?_
            refine e_goto (tgt := 137) dX8_wraps_246 rfl ?_
            first | exact e_loc [(7, .int (iN (k + 1 : Nat))), (6, .int (iN (nxG Q i (k + 1) : Nat))), (4, .int (iN i)), (3, .int (iN (j : Nat))), (2, .int (iN q)), (0, .ref m), (1, .int (iN f))] ⟨rfl, by rw [e6, cif_t e7]; rfl, rfl, rfl, rfl, rfl, rfl, trivial⟩ (ih (k + 1) (by omega)) | exact e_loc [(7, .int (iN (k + 1 : Nat))), (6, .int (iN (nxG Q i (k + 1) : Nat))), (4, .int (iN i)), (3, .int (iN (j : Nat))), (2, .int (iN q)), (0, .ref m), (1, .int (iN f))] ⟨rfl, by rw [e6, cif_f e7]; rfl, rfl, rfl, rfl, rfl, rfl, trivial⟩ (ih (k + 1) (by omega))
          · have e7 : gwU Q i nx k := Or.inr ⟨by rw [hw]; exact Decidable.of_not_not c_217, Int.not_le.mp c_236⟩
            refine e_iload dX8_wraps_239 rfl ?_
            refine e_istore dX8_wraps_241 rfl ?_
            refine e_iinc dX8_wraps_243 rfl ?_
            refine e_goto (tgt := 137) dX8_wraps_246 rfl ?_
            first | exact e_loc [(7, .int (iN (k + 1 : Nat))), (6, .int (iN (nxG Q i (k + 1) : Nat))), (4, .int (iN i)), (3, .int (iN (j : Nat))), (2, .int (iN q)), (0, .ref m), (1, .int (iN f))] ⟨rfl, by rw [e6, cif_t e7]; rfl, rfl, rfl, rfl, rfl, rfl, trivial⟩ (ih (k + 1) (by omega)) | exact e_loc [(7, .int (iN (k + 1 : Nat))), (6, .int (iN (nxG Q i (k + 1) : Nat))), (4, .int (iN i)), (3, .int (iN (j : Nat))), (2, .int (iN q)), (0, .ref m), (1, .int (iN f))] ⟨rfl, by rw [e6, cif_f e7]; rfl, rfl, rfl, rfl, rfl, rfl, trivial⟩ (ih (k + 1) (by omega))
    · refine e_iconst dX8_wraps_153 ?_
      refine e_top (if nx = i then 0 else sgQ Q i nx k) (if_pos (by omega)).symm ?_
      generalize hw : (if nx = i then 0 else sgQ Q i nx k) = w
      have hwb : -1 ≤ w ∧ w ≤ 1 := by rw [← hw]; split <;> omega
      refine e_goto (tgt := 208) dX8_wraps_154 rfl ?_
      refine e_istore dX8_wraps_208 rfl ?_
      refine e_iload dX8_wraps_210 rfl ?_
      refine e_if_lt (tgt := 239) ⟨by omega, by omega⟩ dX8_wraps_212 rfl (fun c_212 => ?_) (fun c_212 => ?_)
      · have e7 : gwU Q i nx k := Or.inl (by rw [hw]; exact c_212)
        refine e_iload dX8_wraps_239 rfl ?_
        refine e_istore dX8_wraps_241 rfl ?_
        refine e_iinc dX8_wraps_243 rfl ?_
        refine e_goto (tgt := 137) dX8_wraps_246 rfl ?_
        first | exact e_loc [(7, .int (iN (k + 1 : Nat))), (6, .int (iN (nxG Q i (k + 1) : Nat))), (4, .int (iN i)), (3, .int (iN (j : Nat))), (2, .int (iN q)), (0, .ref m), (1, .int (iN f))] ⟨rfl, by rw [e6, cif_t e7]; rfl, rfl, rfl, rfl, rfl, rfl, trivial⟩ (ih (k + 1) (by omega)) | exact e_loc [(7, .int (iN (k + 1 : Nat))), (6, .int (iN (nxG Q i (k + 1) : Nat))), (4, .int (iN i)), (3, .int (iN (j : Nat))), (2, .int (iN q)), (0, .ref m), (1, .int (iN f))] ⟨rfl, by rw [e6, cif_f e7]; rfl, rfl, rfl, rfl, rfl, rfl, trivial⟩ (ih (k + 1) (by omega))
      · refine e_iload dX8_wraps_215 rfl ?_
        refine e_if_ne (tgt := 243) ⟨by omega, by omega⟩ dX8_wraps_217 rfl (fun c_217 => ?_) (fun c_217 => ?_)
        · have e7 : ¬ gwU Q i nx k := fun v => v.elim (fun v => by rw [hw] at v; exact c_212 v) (fun v => by rw [hw] at v; exact c_217 v.1)
          refine e_iinc dX8_wraps_243 rfl ?_
          refine e_goto (tgt := 137) dX8_wraps_246 rfl ?_
          first | exact e_loc [(7, .int (iN (k + 1 : Nat))), (6, .int (iN (nxG Q i (k + 1) : Nat))), (4, .int (iN i)), (3, .int (iN (j : Nat))), (2, .int (iN q)), (0, .ref m), (1, .int (iN f))] ⟨rfl, by rw [e6, cif_t e7]; rfl, rfl, rfl, rfl, rfl, rfl, trivial⟩ (ih (k + 1) (by omega)) | exact e_loc [(7, .int (iN (k + 1 : Nat))), (6, .int (iN (nxG Q i (k + 1) : Nat))), (4, .int (iN i)), (3, .int (iN (j : Nat))), (2, .int (iN q)), (0, .ref m), (1, .int (iN f))] ⟨rfl, by rw [e6, cif_f e7]; rfl, rfl, rfl, rfl, rfl, rfl, trivial⟩ (ih (k + 1) (by omega))
        · refine e_aload_n dX8_wraps_220 rfl ?_
          refine e_iload dX8_wraps_221 rfl ?_
          refine e_iload dX8_wraps_223 rfl ?_
          refine e_pureV qcX8_143 X.obj rfl rfl (S_far X hQ9 hi hk) rfl rfl rfl rfl dX8_wraps_225 ?_
          refine e_aload_n dX8_wraps_228 rfl ?_
          refine e_iload dX8_wraps_229 rfl ?_
          refine e_iload dX8_wraps_231 rfl ?_
          refine e_pureV qcX8_143 X.obj rfl rfl (S_far X hQ9 hi hj) rfl rfl rfl rfl dX8_wraps_233 ?_
          refine e_icmp_le (tgt := 243) ⟨by omega, by omega⟩ ⟨by omega, by omega⟩ dX8_wraps_236 rfl (fun c_236 => ?_) (fun c_236 => ?_)
          · have e7 : ¬ gwU Q i nx k := fun v => v.elim (fun v => by rw [hw] at v; exact c_212 v) (fun v => absurd v.2 (Int.not_lt.mpr c_236))
            refine e_iinc dX8_wraps_243 rfl ?_
            refine e_goto (tgt := 137) dX8_wraps_246 rfl ?_
            first | exact e_loc [(7, .int (iN (k + 1 : Nat))), (6, .int (iN (nxG Q i (k + 1) : Nat))), (4, .int (iN i)), (3, .int (iN (j : Nat))), (2, .int (iN q)), (0, .ref m), (1, .int (iN f))] ⟨rfl, by rw [e6, cif_t e7]; rfl, rfl, rfl, rfl, rfl, rfl, trivial⟩ (ih (k + 1) (by omega)) | exact e_loc [(7, .int (iN (k + 1 : Nat))), (6, .int (iN (nxG Q i (k + 1) : Nat))), (4, .int (iN i)), (3, .int (iN (j : Nat))), (2, .int (iN q)), (0, .ref m), (1, .int (iN f))] ⟨rfl, by rw [e6, cif_f e7]; rfl, rfl, rfl, rfl, rfl, rfl, trivial⟩ (ih (k + 1) (by omega))
          · have e7 : gwU Q i nx k := Or.inr ⟨by rw [hw]; exact Decidable.of_not_not c_217, Int.not_le.mp c_236⟩
            refine e_iload dX8_wraps_239 rfl ?_
            refine e_istore dX8_wraps_241 rfl ?_
            refine e_iinc dX8_wraps_243 rfl ?_
            refine e_goto (tgt := 137) dX8_wraps_246 rfl ?_
            first | exact e_loc [(7, .int (iN (k + 1 : Nat))), (6, .int (iN (nxG Q i (k + 1) : Nat))), (4, .int (iN i)), (3, .int (iN (j : Nat))), (2, .int (iN q)), (0, .ref m), (1, .int (iN f))] ⟨rfl, by rw [e6, cif_t e7]; rfl, rfl, rfl, rfl, rfl, rfl, trivial⟩ (ih (k + 1) (by omega)) | exact e_loc [(7, .int (iN (k + 1 : Nat))), (6, .int (iN (nxG Q i (k + 1) : Nat))), (4, .int (iN i)), (3, .int (iN (j : Nat))), (2, .int (iN q)), (0, .ref m), (1, .int (iN f))] ⟨rfl, by rw [e6, cif_f e7]; rfl, rfl, rfl, rfl, rfl, rfl, trivial⟩ (ih (k + 1) (by omega))
/-- the first i corners of the hull f are written -/
def wrI (Q : PL) (f i : Nat) (ar ar1 : Nat → Nat → Int) : Prop := (∀ j, j ≠ 5 → j ≠ 6 → ar1 j = ar j) ∧ (∀ k, k < i → ar1 5 (200 * f + k) = pX Q (wq Q k) ∧ ar1 6 (200 * f + k) = pY Q (wq Q k)) ∧ ∀ q, q < 200 * f ∨ 200 * f + 200 ≤ q → ar1 5 q = ar 5 q ∧ ar1 6 q = ar 6 q
theorem wrI.step {Q : PL} {f i : Nat} {ar ar1 : Nat → Nat → Int} (w : wrI Q f i ar ar1) (hi : i < 200) : wrI Q f (i + 1) ar (uA (uA ar1 5 (uI (ar1 5) (200 * f + i) (pX Q (wq Q i)))) 6 (uI (ar1 6) (200 * f + i) (pY Q (wq Q i)))) := by
  obtain ⟨w1, w2, w3⟩ := w
  refine ⟨fun j h5 h6 => by rw [uA_n h6, uA_n h5]; exact w1 j h5 h6, fun k hk => ?_, fun q hq => ?_⟩
  · show uI (ar1 5) (200 * f + i) _ (200 * f + k) = _ ∧ uI (ar1 6) (200 * f + i) _ (200 * f + k) = _
    by_cases c : k = i
    · subst c
      rw [uI_s, uI_s]
      exact ⟨rfl, rfl⟩
    · rw [uI_n _ _ (by omega), uI_n _ _ (by omega)]
      exact w2 k (by omega)
  · show uI (ar1 5) (200 * f + i) _ q = _ ∧ uI (ar1 6) (200 * f + i) _ q = _
    rw [uI_n _ _ (by omega), uI_n _ _ (by omega)]
    exact w3 q hq
set_option maxRecDepth 20000 in
theorem wr_loop {z : Option Nat} {f n : Nat} {Q : PL} (hf : f < 3) (hn : gwc Q n) : ∀ (c i : Nat) (ar1 : Nat → Nat → Int) (h : g_hp), mdX G sc ar1 m h0 h → mdQ sc ar1 Q → wrI Q f i ar ar1 → i + c = n → Ev (g_B G mX8_wraps 0 0 (fun o z1 h1 => ∃ v, o = .inl v ∧ z1 = z ∧ (fun v h1 => v = some (.int (iN (n : Nat))) ∧ ∃ ar2, mdX G sc ar2 m h0 h1 ∧ mdH ar2 f (gwL Q n) ∧ agr [] [5, 6, 7] sc ar sc ar2 ∧ ∀ g F, g < 3 → g ≠ f → mdH ar g F → mdH ar2 g F) v h1)) 0 0 z h 84 [(5, .int (iN (bP (i < n)))), (4, .int (iN (wq Q (i) : Nat))), (3, .int (iN (i : Nat))), (2, .int (iN (fiN Q (Q.length - 1) : Nat))), (0, .ref m), (1, .int (iN f))] [] := by
  obtain ⟨n1, n2, n3⟩ := id hn
  intro c
  induction c with
  | zero =>
    intro i ar1 h X hQ hw hic
    have e9 : i = n := by omega
    subst e9
    obtain ⟨w1, w2, w3⟩ := hw
    refine e_iload dX8_wraps_84 rfl ?_
    refine e_ifP_eq (tgt := 295) dX8_wraps_86 rfl (fun c_86 => ?_) (fun c_86 => absurd c_86 (by omega))
    refine e_aload_n dX8_wraps_295 rfl ?_
    refine e_getf fX8_35 X.obj rfl dX8_wraps_296 ?_
    refine e_iload_n dX8_wraps_299 rfl ?_
    refine e_iload_n dX8_wraps_300 rfl ?_
    refine e_iastore X.a7 (by omega) (by omega) rfl dX8_wraps_301 ?_
    refine X.sto7 (fun h9 X9 => ?_)
    replace X := X9
    clear X9
    refine e_iload_n dX8_wraps_302 rfl ?_
    refine e_iret rfl dX8_wraps_303 (by decide) (by decide) ?_
    refine ⟨_, rfl, rfl, rfl, _, X, ⟨?_, by rw [gwL_len]; exact n1, fun k hk => ?_, fun k hk => ?_⟩, ⟨fun _ _ => rfl, fun j hj => ?_⟩, fun g F hg hgf hG => ?_⟩
    · rw [gwL_len]
      exact uI_s _ _ _
    · rw [gwL_len] at hk
      rw [(gwL_at hk).1, (gwL_at hk).2]
      exact hQ.2.2.1 _ (wq_lt (by have := n2; omega) k)
    · rw [gwL_len] at hk
      rw [(gwL_at hk).1, (gwL_at hk).2]
      exact w2 k hk
    · rw [uA_n (fun e => hj (by rw [e]; decide)), w1 j (fun e => hj (by rw [e]; decide)) (fun e => hj (by rw [e]; decide))]
    · obtain ⟨g1, g2, g3, g4⟩ := hG
      refine ⟨?_, g2, g3, fun k hk => ?_⟩
      · show uI (ar1 7) f _ g = _
        rw [uI_n _ _ hgf, w1 7 (by decide) (by decide)]
        exact g1
      · have := w3 (200 * g + k) (by omega)
        show ar1 5 _ = _ ∧ ar1 6 _ = _
        rw [this.1, this.2]
        exact g4 k hk
  | succ c ih =>
    intro i ar1 h X hQ hw hic
    have hl : 0 < Q.length := by have := n2; omega
    obtain ⟨n4, n5, n6⟩ := n3 hl
    have hi := wq_lt hl i
    have hi2 := wq_lt hl (i + 1)
    have h00 := wq_lt hl 0
    have b1 := hQ.2.2.1 _ hi
    have b2 := hQ.2.2.1 _ hi2
    have b3 := hQ.2.2.1 _ h00
    obtain ⟨q1, q2, q3, q4⟩ := id hQ
    have ei : (200 * (f : Int) + (i : Int)).toNat = 200 * f + i := by omega
    refine e_iload dX8_wraps_84 rfl ?_
    refine e_ifP_eq (tgt := 295) dX8_wraps_86 rfl (fun c_86 => absurd (by omega) c_86) (fun c_86 => ?_)
    refine e_aload_n dX8_wraps_89 rfl ?_
    refine e_getf fX8_29 X.obj rfl dX8_wraps_90 ?_
    refine e_sipush dX8_wraps_93 (by decide) ?_
    refine e_iload_n dX8_wraps_96 rfl ?_
    refine e_imul dX8_wraps_97 ?_
    refine e_iload_n dX8_wraps_98 rfl ?_
    refine e_iadd dX8_wraps_99 ?_
    refine e_aload_n dX8_wraps_100 rfl ?_
    refine e_getf fX8_23 X.obj rfl dX8_wraps_101 ?_
    refine e_iload dX8_wraps_104 rfl ?_
    refine e_ial X.a3 (by omega) (by omega) rfl (q4 _ hi).1 dX8_wraps_106 ?_
    refine e_iastore X.a5 (by omega) (by omega) rfl dX8_wraps_107 ?_
    refine X.sto5 (fun h9 X9 => ?_)
    replace X := X9
    clear X9
    refine e_aload_n dX8_wraps_108 rfl ?_
    refine e_getf fX8_32 X.obj rfl dX8_wraps_109 ?_
    refine e_sipush dX8_wraps_112 (by decide) ?_
    refine e_iload_n dX8_wraps_115 rfl ?_
    refine e_imul dX8_wraps_116 ?_
    refine e_iload_n dX8_wraps_117 rfl ?_
    refine e_iadd dX8_wraps_118 ?_
    refine e_aload_n dX8_wraps_119 rfl ?_
    refine e_getf fX8_26 X.obj rfl dX8_wraps_120 ?_
    refine e_iload dX8_wraps_123 rfl ?_
    refine e_ial X.a4 (by omega) (by omega) rfl (q4 _ hi).2 dX8_wraps_125 ?_
    refine e_iastore X.a6 (by omega) (by omega) rfl dX8_wraps_126 ?_
    refine X.sto6 (fun h9 X9 => ?_)
    replace X := X9
    clear X9
    refine e_iinc dX8_wraps_127 rfl ?_
    refine e_iload dX8_wraps_130 rfl ?_
    refine e_istore dX8_wraps_132 rfl ?_
    refine e_iconst dX8_wraps_134 ?_
    refine e_istore dX8_wraps_135 rfl ?_
    rw [ei] at X
    replace hw := hw.step (show i < 200 by omega)
    replace hQ := hQ.to rfl rfl rfl (sc' := sc) (ar' := uA (uA ar1 5 (uI (ar1 5) (200 * f + i) (pX Q (wq Q i)))) 6 (uI (ar1 6) (200 * f + i) (pY Q (wq Q i))))
    obtain ⟨q1, q2, q3, q4⟩ := id hQ
    refine e_loc [(7, .int (iN (0 : Nat))), (6, .int (iN (nxG Q (wq Q i) 0 : Nat))), (4, .int (iN (wq Q i : Nat))), (3, .int (iN (i + 1 : Nat))), (2, .int (iN (fiN Q (Q.length - 1) : Nat))), (0, .ref m), (1, .int (iN f))] ⟨rfl, rfl, rfl, rfl, rfl, rfl, rfl, trivial⟩ (wr_inner X hQ hi ?_ _ 0 (Nat.zero_add _))
    rw [show nxG Q (wq Q i) Q.length = wq Q (i + 1) from rfl, show fiN Q (Q.length - 1) = wq Q 0 from rfl]
    refine e_iload dX8_wraps_249 rfl ?_
    refine e_istore dX8_wraps_251 rfl ?_
    refine e_aload_n dX8_wraps_253 rfl ?_
    refine e_getf fX8_23 X.obj rfl dX8_wraps_254 ?_
    refine e_iload dX8_wraps_257 rfl ?_
    refine e_ial X.a3 (by omega) (by omega) rfl (q4 _ hi2).1 dX8_wraps_259 ?_
    refine e_aload_n dX8_wraps_260 rfl ?_
    refine e_getf fX8_23 X.obj rfl dX8_wraps_261 ?_
    refine e_iload_n dX8_wraps_264 rfl ?_
    refine e_ial X.a3 (by omega) (by omega) rfl (q4 _ h00).1 dX8_wraps_265 ?_
    refine e_icmp_ne (tgt := 285) ⟨by omega, by omega⟩ ⟨by omega, by omega⟩ dX8_wraps_266 rfl (fun c_266 => ?_) (fun c_266 => ?_)
    · have e7 : ¬ sameQ Q (wq Q (i + 1)) (wq Q 0) := fun w => c_266 w.1
      have e8 : bP (i + 1 < n) = 1 := bP_t (Classical.byContradiction fun w => e7 (by rw [show i + 1 = n by omega]; exact n5))
      refine e_iconst dX8_wraps_285 ?_
      refine e_goto (tgt := 290) dX8_wraps_286 rfl ?_
      refine e_istore dX8_wraps_290 rfl ?_
      refine e_goto (tgt := 84) dX8_wraps_292 rfl ?_
      exact e_loc [(5, .int (iN (bP (i + 1 < n)))), (4, .int (iN (wq Q (i + 1) : Nat))), (3, .int (iN (i + 1 : Nat))), (2, .int (iN (fiN Q (Q.length - 1) : Nat))), (0, .ref m), (1, .int (iN f))] ⟨by rw [e8]; rfl, rfl, rfl, rfl, rfl, rfl, trivial⟩ (ih (i + 1) _ _ X hQ hw (by omega))
    · refine e_aload_n dX8_wraps_269 rfl ?_
      refine e_getf fX8_26 X.obj rfl dX8_wraps_270 ?_
      refine e_iload dX8_wraps_273 rfl ?_
      refine e_ial X.a4 (by omega) (by omega) rfl (q4 _ hi2).2 dX8_wraps_275 ?_
      refine e_aload_n dX8_wraps_276 rfl ?_
      refine e_getf fX8_26 X.obj rfl dX8_wraps_277 ?_
      refine e_iload_n dX8_wraps_280 rfl ?_
      refine e_ial X.a4 (by omega) (by omega) rfl (q4 _ h00).2 dX8_wraps_281 ?_
      refine e_icmp_eq (tgt := 289) ⟨by omega, by omega⟩ ⟨by omega, by omega⟩ dX8_wraps_282 rfl (fun c_282 => ?_) (fun c_282 => ?_)
      · have e7 : sameQ Q (wq Q (i + 1)) (wq Q 0) := ⟨Decidable.of_not_not c_266, c_282⟩
        have e8 : bP (i + 1 < n) = 0 := bP_f (fun w => n6 (i + 1) (by omega) w e7)
        refine e_iconst dX8_wraps_289 ?_
        refine e_istore dX8_wraps_290 rfl ?_
        refine e_goto (tgt := 84) dX8_wraps_292 rfl ?_
        exact e_loc [(5, .int (iN (bP (i + 1 < n)))), (4, .int (iN (wq Q (i + 1) : Nat))), (3, .int (iN (i + 1 : Nat))), (2, .int (iN (fiN Q (Q.length - 1) : Nat))), (0, .ref m), (1, .int (iN f))] ⟨by rw [e8]; rfl, rfl, rfl, rfl, rfl, rfl, trivial⟩ (ih (i + 1) _ _ X hQ hw (by omega))
      · have e7 : ¬ sameQ Q (wq Q (i + 1)) (wq Q 0) := fun w => c_282 w.2
        have e8 : bP (i + 1 < n) = 1 := bP_t (Classical.byContradiction fun w => e7 (by rw [show i + 1 = n by omega]; exact n5))
        refine e_iconst dX8_wraps_285 ?_
        refine e_goto (tgt := 290) dX8_wraps_286 rfl ?_
        refine e_istore dX8_wraps_290 rfl ?_
        refine e_goto (tgt := 84) dX8_wraps_292 rfl ?_
        exact e_loc [(5, .int (iN (bP (i + 1 < n)))), (4, .int (iN (wq Q (i + 1) : Nat))), (3, .int (iN (i + 1 : Nat))), (2, .int (iN (fiN Q (Q.length - 1) : Nat))), (0, .ref m), (1, .int (iN f))] ⟨by rw [e8]; rfl, rfl, rfl, rfl, rfl, rfl, trivial⟩ (ih (i + 1) _ _ X hQ hw (by omega))
set_option maxRecDepth 20000 in
theorem S_wraps {f n : Nat} {Q : PL} (X : mdX G sc ar m h0 h) (hQ : mdQ sc ar Q) (hf : f < 3) (hn : gwc Q n) : Does G mX8_wraps [.ref m, .int (iN f)] h (fun v h1 => v = some (.int (iN (n : Nat))) ∧ ∃ ar2, mdX G sc ar2 m h0 h1 ∧ mdH ar2 f (gwL Q n) ∧ agr [] [5, 6, 7] sc ar sc ar2 ∧ ∀ g F, g < 3 → g ≠ f → mdH ar g F → mdH ar2 g F) := by
  have q1 := hQ.1
  have q2 := hQ.2.1
  intro z
  refine run_of rfl plX8 rfl ?_
  refine e_iconst dX8_wraps_0 ?_
  refine e_istore_n dX8_wraps_1 rfl ?_
  refine e_iconst dX8_wraps_2 ?_
  refine e_istore_n dX8_wraps_3 rfl ?_
  refine e_loc [(3, .int (iN (0 + 1 : Nat))), (2, .int (iN (fiN Q 0 : Nat))), (0, .ref m), (1, .int (iN f))] ⟨rfl, rfl, rfl, rfl, trivial⟩ (wr_first X hQ ?_ _ 0 (Nat.zero_add _))
  refine e_iconst dX8_wraps_65 ?_
  refine e_istore_n dX8_wraps_66 rfl ?_
  refine e_iload_n dX8_wraps_67 rfl ?_
  refine e_istore dX8_wraps_68 rfl ?_
  refine e_aload_n dX8_wraps_70 rfl ?_
  refine e_getf fX8_136 X.obj rfl dX8_wraps_71 ?_
  rw [q1]
  refine e_if_le (tgt := 81) ⟨by omega, by omega⟩ dX8_wraps_74 rfl (fun c_74 => ?_) (fun c_74 => ?_)
  · have e8 : bP (0 < n) = 0 := bP_f (fun w => absurd (hn.2.1 (by omega)) (by omega))
    refine e_iconst dX8_wraps_81 ?_
    refine e_istore dX8_wraps_82 rfl ?_
    exact e_loc [(5, .int (iN (bP (0 < n)))), (4, .int (iN (wq Q (0) : Nat))), (3, .int (iN (0 : Nat))), (2, .int (iN (fiN Q (Q.length - 1) : Nat))), (0, .ref m), (1, .int (iN f))] ⟨by rw [e8]; rfl, rfl, rfl, rfl, rfl, rfl, trivial⟩ (wr_loop hf hn _ 0 _ _ X hQ ⟨fun _ _ _ => rfl, fun k hk => absurd hk (Nat.not_lt_zero _), fun _ _ => ⟨rfl, rfl⟩⟩ (Nat.zero_add _))
  · have e8 : bP (0 < n) = 1 := bP_t (hn.2.2 (by omega)).1
    refine e_iconst dX8_wraps_77 ?_
    refine e_goto (tgt := 82) dX8_wraps_78 rfl ?_
    refine e_istore dX8_wraps_82 rfl ?_
    exact e_loc [(5, .int (iN (bP (0 < n)))), (4, .int (iN (wq Q (0) : Nat))), (3, .int (iN (0 : Nat))), (2, .int (iN (fiN Q (Q.length - 1) : Nat))), (0, .ref m), (1, .int (iN f))] ⟨by rw [e8]; rfl, rfl, rfl, rfl, rfl, rfl, trivial⟩ (wr_loop hf hn _ 0 _ _ X hQ ⟨fun _ _ _ => rfl, fun k hk => absurd hk (Nat.not_lt_zero _), fun _ _ => ⟨rfl, rfl⟩⟩ (Nat.zero_add _))
end MFIVE
