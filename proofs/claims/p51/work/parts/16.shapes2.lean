/-! Shapes: where a place lies, bounds, reach -/
theorem bC_c {p q : Prop} (h : p ↔ q) : bC p = bC q := @bP_c p q (Classical.propDecidable p) (Classical.propDecidable q) h
theorem bC_of {p q : Prop} [i : Decidable p] (h : p ↔ q) : bP p = bC q := by rw [← bC_bP]; exact bC_c h
theorem bC_r (p : Prop) : r32 (bC p) := @bP_r p (Classical.propDecidable p)
/-- an odd number of the first n -/
def oddN (f : Nat → Prop) : Nat → Prop
  | 0 => False
  | n + 1 => ¬ (oddN f n ↔ f n)
theorem odd_t {f : Nat → Prop} {i : Nat} (h : f i) : ¬ oddN f i ↔ oddN f (i + 1) := by
  show _ ↔ ¬ (oddN f i ↔ f i)
  exact ⟨fun a b => a (b.mpr h), fun a b => a ⟨fun _ => h, fun _ => b⟩⟩
theorem odd_f {f : Nat → Prop} {i : Nat} (h : ¬ f i) : oddN f i ↔ oddN f (i + 1) := by
  show _ ↔ ¬ (oddN f i ↔ f i)
  exact ⟨fun a b => h (b.mp a), fun a => Classical.byContradiction fun b => a ⟨fun c => absurd c b, fun c => absurd c h⟩⟩
abbrev eOn (L : PL) (s x y : Int) (i : Nat) : Prop := on (s * pX L i) (s * pY L i) (s * pX L (nxt L.length i)) (s * pY L (nxt L.length i)) x y
abbrev eTog (L : PL) (s x y : Int) (i : Nat) : Prop := ¬ (y < s * pY L i ↔ y < s * pY L (nxt L.length i)) ∧ (0 < tw (s * pX L i) (s * pY L i) (s * pX L (nxt L.length i)) (s * pY L (nxt L.length i)) x y ↔ s * pY L i < s * pY L (nxt L.length i))
noncomputable def wI (L : PL) (s x y : Int) : Int := @ite Int (∃ i, i < L.length ∧ eOn L s x y i) (Classical.propDecidable _) 0 (@ite Int (oddN (eTog L s x y) L.length) (Classical.propDecidable _) 1 (-1))
theorem wI_bd (L : PL) (s x y : Int) : wI L s x y = 1 ∨ wI L s x y = 0 ∨ wI L s x y = -1 := by
  unfold wI
  split
  · exact Or.inr (Or.inl rfl)
  · split
    · exact Or.inl rfl
    · exact Or.inr (Or.inr rfl)
theorem wI_0 {L : PL} {s x y : Int} {i : Nat} (hi : i < L.length) (h : eOn L s x y i) : wI L s x y = 0 := by
  unfold wI
  exact if_pos ⟨i, hi, h⟩
theorem wI_e {L : PL} {s x y : Int} (h : ∀ i, i < L.length → ¬ eOn L s x y i) : (oddN (eTog L s x y) L.length → wI L s x y = 1) ∧ (¬ oddN (eTog L s x y) L.length → wI L s x y = -1) := by
  unfold wI
  rw [if_neg (fun ⟨i, hi, w⟩ => h i hi w)]
  exact ⟨fun w => if_pos w, fun w => if_neg w⟩
section PSHAPES2
variable {G : g_X} {N : Nat} {L : PL} {r : Nat} {h : g_hp}
set_option maxRecDepth 20000 in
theorem wi_loop {z : Option Nat} (hr : rowAt G N L r h) {s x y : Int} (hs : 0 ≤ s ∧ s ≤ 2) (hx : b10 x) (hy : b10 y) : ∀ (n i : Nat) (v : Int), i + n = L.length → v = bC (oddN (eTog L s x y) i) → (∀ j, j < i → ¬ eOn L s x y j) → Ev (g_B G mX5_whereIs 0 0 (fun o z1 h1 => o = .inl (some (.int (iN (wI L s x y)))) ∧ z1 = z ∧ h1 = h)) 0 0 z h 6 [(7, .int (iN i)), (6, .int (iN v)), (0, .ref r), (1, .int (iN s)), (2, .long (lI x)), (4, .long (lI y))] [] := by
  have h9 := hr.1
  have h8 := hr.2.1
  intro n
  induction n with
  | zero =>
    intro i v hin hv hno
    have e9 : i = L.length := by omega
    subst e9
    subst hv
    letI : Decidable (oddN (eTog L s x y) L.length) := Classical.propDecidable _
    refine e_iload dX5_whereIs_6 rfl ?_
    refine e_aload_n dX5_whereIs_8 rfl ?_
    refine e_pureV qcX5_25 hr.obj rfl rfl (S_size hr) rfl rfl rfl rfl dX5_whereIs_9 ?_
    refine e_icmp_ge (tgt := 181) ⟨by omega, by omega⟩ ⟨by omega, by omega⟩ dX5_whereIs_12 rfl (fun c_12 => ?_) (fun c_12 => absurd (Int.le_refl _) c_12)
    refine e_iload dX5_whereIs_181 rfl ?_
    refine e_ifP_eq (tgt := 190) dX5_whereIs_183 rfl (fun c_183 => ?_) (fun c_183 => ?_)
    · refine e_iconst dX5_whereIs_190 ?_
      refine e_iret rfl dX5_whereIs_191 (by decide) (by decide) ?_
      exact ⟨by first | rw [(wI_e hno).1 c_183] | rw [(wI_e hno).2 c_183], rfl, rfl⟩
    · refine e_iconst dX5_whereIs_186 ?_
      refine e_goto (tgt := 191) dX5_whereIs_187 rfl ?_
      refine e_iret rfl dX5_whereIs_191 (by decide) (by decide) ?_
      exact ⟨by first | rw [(wI_e hno).1 c_183] | rw [(wI_e hno).2 c_183], rfl, rfl⟩
  | succ n ih =>
    intro i v hin hv hno
    subst hv
    letI : Decidable (oddN (eTog L s x y) i) := Classical.propDecidable _
    have hi : i < L.length := by omega
    have u1 := hr.2.2.1.at hi
    have u2 := hr.2.2.1.nx hi
    have m1 := mul_bd (A := 2) (B := 2000) ⟨by omega, hs.2⟩ u1.1
    have m2 := mul_bd (A := 2) (B := 2000) ⟨by omega, hs.2⟩ u1.2.1
    have m3 := mul_bd (A := 2) (B := 2000) ⟨by omega, hs.2⟩ u2.1
    have m4 := mul_bd (A := 2) (B := 2000) ⟨by omega, hs.2⟩ u2.2
    have ht := tw_bd (ax := s * pX L i) (ay := s * pY L i) (bx := s * pX L (nxt L.length i)) (by' := s * pY L (nxt L.length i)) (x := x) (y := y) ⟨by omega, by omega⟩ ⟨by omega, by omega⟩ ⟨by omega, by omega⟩ ⟨by omega, by omega⟩ hx hy
    have nn : ∀ j, j < i + 1 → ¬ eOn L s x y i → ¬ eOn L s x y j := fun j hj w => by
      by_cases e : j = i
      · subst e; exact w
      · exact hno j (by omega)
    refine e_iload dX5_whereIs_6 rfl ?_
    refine e_aload_n dX5_whereIs_8 rfl ?_
    refine e_pureV qcX5_25 hr.obj rfl rfl (S_size hr) rfl rfl rfl rfl dX5_whereIs_9 ?_
    refine e_icmp_ge (tgt := 181) ⟨by omega, by omega⟩ ⟨by omega, by omega⟩ dX5_whereIs_12 rfl (fun c_12 => ?_) (fun c_12 => ?_)
    · exact absurd c_12 (by omega)
    · refine e_aload_n dX5_whereIs_15 rfl ?_
      refine e_iload dX5_whereIs_16 rfl ?_
      refine e_pureV qcX5_7 hr.obj rfl rfl (S_next hr hi) rfl rfl rfl rfl dX5_whereIs_18 ?_
      refine e_istore dX5_whereIs_21 rfl ?_
      refine e_iload_n dX5_whereIs_23 rfl ?_
      refine e_i2l ⟨by omega, by omega⟩ dX5_whereIs_24 ?_
      refine e_aload_n dX5_whereIs_25 rfl ?_
      refine e_iload dX5_whereIs_26 rfl ?_
      refine e_pureV qcX5_13 hr.obj rfl rfl (S_xAt hr hi) rfl rfl rfl rfl dX5_whereIs_28 ?_
      refine e_i2l ⟨by omega, by omega⟩ dX5_whereIs_31 ?_
      refine e_lmul dX5_whereIs_32 ?_
      refine e_lstore dX5_whereIs_33 rfl ?_
      refine e_iload_n dX5_whereIs_35 rfl ?_
      refine e_i2l ⟨by omega, by omega⟩ dX5_whereIs_36 ?_
      refine e_aload_n dX5_whereIs_37 rfl ?_
      refine e_iload dX5_whereIs_38 rfl ?_
      refine e_pureV qcX5_16 hr.obj rfl rfl (S_yAt hr hi) rfl rfl rfl rfl dX5_whereIs_40 ?_
      refine e_i2l ⟨by omega, by omega⟩ dX5_whereIs_43 ?_
      refine e_lmul dX5_whereIs_44 ?_
      refine e_lstore dX5_whereIs_45 rfl ?_
      refine e_iload_n dX5_whereIs_47 rfl ?_
      refine e_i2l ⟨by omega, by omega⟩ dX5_whereIs_48 ?_
      refine e_aload_n dX5_whereIs_49 rfl ?_
      refine e_iload dX5_whereIs_50 rfl ?_
      refine e_pureV qcX5_13 hr.obj rfl rfl (S_xAt hr (nxt_lt hi)) rfl rfl rfl rfl dX5_whereIs_52 ?_
      refine e_i2l ⟨by omega, by omega⟩ dX5_whereIs_55 ?_
      refine e_lmul dX5_whereIs_56 ?_
      refine e_lstore dX5_whereIs_57 rfl ?_
      refine e_iload_n dX5_whereIs_59 rfl ?_
      refine e_i2l ⟨by omega, by omega⟩ dX5_whereIs_60 ?_
      refine e_aload_n dX5_whereIs_61 rfl ?_
      refine e_iload dX5_whereIs_62 rfl ?_
      refine e_pureV qcX5_16 hr.obj rfl rfl (S_yAt hr (nxt_lt hi)) rfl rfl rfl rfl dX5_whereIs_64 ?_
      refine e_i2l ⟨by omega, by omega⟩ dX5_whereIs_67 ?_
      refine e_lmul dX5_whereIs_68 ?_
      refine e_lstore dX5_whereIs_69 rfl ?_
      refine e_lload dX5_whereIs_71 rfl ?_
      refine e_lload dX5_whereIs_73 rfl ?_
      refine e_lload dX5_whereIs_75 rfl ?_
      refine e_lload dX5_whereIs_77 rfl ?_
      refine e_lload_n dX5_whereIs_79 rfl ?_
      refine e_lload dX5_whereIs_80 rfl ?_
      refine e_pureS qcX5_57 (S_isOn ⟨by omega, by omega⟩ ⟨by omega, by omega⟩ ⟨by omega, by omega⟩ ⟨by omega, by omega⟩ hx hy) rfl rfl rfl rfl dX5_whereIs_82 ?_
      refine e_ifP_eq (tgt := 90) dX5_whereIs_85 rfl (fun c_85 => ?_) (fun c_85 => ?_)
      · refine e_lload dX5_whereIs_90 rfl ?_
        refine e_lload dX5_whereIs_92 rfl ?_
        refine e_matL_le (A := 102) ⟨by omega, by omega⟩ ⟨by omega, by omega⟩ dX5_whereIs_94 dX5_whereIs_95 rfl dX5_whereIs_98 dX5_whereIs_99 rfl dX5_whereIs_102 ?_
        refine e_lload dX5_whereIs_103 rfl ?_
        refine e_lload dX5_whereIs_105 rfl ?_
        refine e_matL_le (A := 115) ⟨by omega, by omega⟩ ⟨by omega, by omega⟩ dX5_whereIs_107 dX5_whereIs_108 rfl dX5_whereIs_111 dX5_whereIs_112 rfl dX5_whereIs_115 ?_
        refine e_icmpB_eq (tgt := 175) dX5_whereIs_116 rfl (fun c_116 => ?_) (fun c_116 => ?_)
        · refine e_iinc dX5_whereIs_175 rfl ?_
          refine e_goto (tgt := 6) dX5_whereIs_178 rfl ?_
          exact e_loc [(7, .int (iN (i + 1 : Nat))), (6, .int (iN _)), (0, .ref r), (1, .int (iN s)), (2, .long (lI x)), (4, .long (lI y))] ⟨rfl, rfl, rfl, rfl, rfl, rfl, trivial⟩ (ih (i + 1) _ (by omega) (by first | exact bC_of (odd_t ⟨c_116, c_160⟩) | exact bC_c (odd_f (fun w => w.1 c_116)) | exact bC_c (odd_f (fun w => c_160 w.2))) (fun j hj => nn j hj c_85))
        · refine e_lload dX5_whereIs_119 rfl ?_
          refine e_lload dX5_whereIs_121 rfl ?_
          refine e_lload dX5_whereIs_123 rfl ?_
          refine e_lload dX5_whereIs_125 rfl ?_
          refine e_lload_n dX5_whereIs_127 rfl ?_
          refine e_lload dX5_whereIs_128 rfl ?_
          refine e_pureS qcX5_19 (S_twist _ _ _ _ _ _) rfl rfl rfl rfl dX5_whereIs_130 ?_
          refine e_lconst dX5_whereIs_133 ?_
          refine e_matL_le (A := 142) ⟨by omega, by omega⟩ r64_0 dX5_whereIs_134 dX5_whereIs_135 rfl dX5_whereIs_138 dX5_whereIs_139 rfl dX5_whereIs_142 ?_
          refine e_istore dX5_whereIs_143 rfl ?_
          refine e_iload dX5_whereIs_145 rfl ?_
          refine e_lload dX5_whereIs_147 rfl ?_
          refine e_lload dX5_whereIs_149 rfl ?_
          refine e_matL_le (A := 159) ⟨by omega, by omega⟩ ⟨by omega, by omega⟩ dX5_whereIs_151 dX5_whereIs_152 rfl dX5_whereIs_155 dX5_whereIs_156 rfl dX5_whereIs_159 ?_
          refine e_icmpB_ne (tgt := 175) dX5_whereIs_160 rfl (fun c_160 => ?_) (fun c_160 => ?_)
          · refine e_iinc dX5_whereIs_175 rfl ?_
            refine e_goto (tgt := 6) dX5_whereIs_178 rfl ?_
            exact e_loc [(7, .int (iN (i + 1 : Nat))), (6, .int (iN _)), (0, .ref r), (1, .int (iN s)), (2, .long (lI x)), (4, .long (lI y))] ⟨rfl, rfl, rfl, rfl, rfl, rfl, trivial⟩ (ih (i + 1) _ (by omega) (by first | exact bC_of (odd_t ⟨c_116, c_160⟩) | exact bC_c (odd_f (fun w => w.1 c_116)) | exact bC_c (odd_f (fun w => c_160 w.2))) (fun j hj => nn j hj c_85))
          · refine e_iload dX5_whereIs_163 rfl ?_
            refine e_matN (A := 172) dX5_whereIs_165 rfl dX5_whereIs_168 dX5_whereIs_169 rfl dX5_whereIs_172 ?_
            refine e_istore dX5_whereIs_173 rfl ?_
            refine e_iinc dX5_whereIs_175 rfl ?_
            refine e_goto (tgt := 6) dX5_whereIs_178 rfl ?_
            exact e_loc [(7, .int (iN (i + 1 : Nat))), (6, .int (iN _)), (0, .ref r), (1, .int (iN s)), (2, .long (lI x)), (4, .long (lI y))] ⟨rfl, rfl, rfl, rfl, rfl, rfl, trivial⟩ (ih (i + 1) _ (by omega) (by first | exact bC_of (odd_t ⟨c_116, c_160⟩) | exact bC_c (odd_f (fun w => w.1 c_116)) | exact bC_c (odd_f (fun w => c_160 w.2))) (fun j hj => nn j hj c_85))
      · refine e_iconst dX5_whereIs_88 ?_
        refine e_iret rfl dX5_whereIs_89 (by decide) (by decide) ?_
        exact ⟨by rw [wI_0 hi c_85], rfl, rfl⟩
set_option maxRecDepth 20000 in
theorem S_whereIs (hr : rowAt G N L r h) {s x y : Int} (hs : 0 ≤ s ∧ s ≤ 2) (hx : b10 x) (hy : b10 y) : Pure G mX5_whereIs [.ref r, .int (iN s), .long (lI x), .long (lI y)] h (.int (iN (wI L s x y))) := by
  intro z
  refine run_of rfl plX5 rfl ?_
  refine e_iconst dX5_whereIs_0 ?_
  refine e_istore dX5_whereIs_1 rfl ?_
  refine e_iconst dX5_whereIs_3 ?_
  refine e_istore dX5_whereIs_4 rfl ?_
  exact e_loc [(7, .int (iN (0 : Nat))), (6, .int (iN 0)), (0, .ref r), (1, .int (iN s)), (2, .long (lI x)), (4, .long (lI y))] ⟨rfl, rfl, rfl, rfl, rfl, rfl, trivial⟩ (wi_loop hr hs hx hy L.length 0 0 (by omega) (@bP_f (oddN (eTog L s x y) 0) (Classical.propDecidable _) (fun w => w)).symm (fun j hj => absurd hj (by omega)))
noncomputable abbrev wM (L : PL) (a b : Nat) : Int := wI L 2 (pX L a + pX L b) (pY L a + pY L b)
set_option maxRecDepth 20000 in
theorem S_whereIsMiddle (hr : rowAt G N L r h) {a b : Nat} (ha : a < L.length) (hb : b < L.length) : Pure G mX5_whereIsMiddle [.ref r, .int (iN a), .int (iN b)] h (.int (iN (wM L a b))) := by
  intro z
  refine run_of rfl plX5 rfl ?_
  have u1 := hr.2.2.1.at ha
  have u2 := hr.2.2.1.at hb
  refine e_aload_n dX5_whereIsMiddle_0 rfl ?_
  refine e_iload_n dX5_whereIsMiddle_1 rfl ?_
  refine e_pureV qcX5_13 hr.obj rfl rfl (S_xAt hr ha) rfl rfl rfl rfl dX5_whereIsMiddle_2 ?_
  refine e_i2l ⟨by omega, by omega⟩ dX5_whereIsMiddle_5 ?_
  refine e_aload_n dX5_whereIsMiddle_6 rfl ?_
  refine e_iload_n dX5_whereIsMiddle_7 rfl ?_
  refine e_pureV qcX5_13 hr.obj rfl rfl (S_xAt hr hb) rfl rfl rfl rfl dX5_whereIsMiddle_8 ?_
  refine e_i2l ⟨by omega, by omega⟩ dX5_whereIsMiddle_11 ?_
  refine e_ladd dX5_whereIsMiddle_12 ?_
  refine e_lstore_n dX5_whereIsMiddle_13 rfl ?_
  refine e_aload_n dX5_whereIsMiddle_14 rfl ?_
  refine e_iload_n dX5_whereIsMiddle_15 rfl ?_
  refine e_pureV qcX5_16 hr.obj rfl rfl (S_yAt hr ha) rfl rfl rfl rfl dX5_whereIsMiddle_16 ?_
  refine e_i2l ⟨by omega, by omega⟩ dX5_whereIsMiddle_19 ?_
  refine e_aload_n dX5_whereIsMiddle_20 rfl ?_
  refine e_iload_n dX5_whereIsMiddle_21 rfl ?_
  refine e_pureV qcX5_16 hr.obj rfl rfl (S_yAt hr hb) rfl rfl rfl rfl dX5_whereIsMiddle_22 ?_
  refine e_i2l ⟨by omega, by omega⟩ dX5_whereIsMiddle_25 ?_
  refine e_ladd dX5_whereIsMiddle_26 ?_
  refine e_lstore dX5_whereIsMiddle_27 rfl ?_
  refine e_aload_n dX5_whereIsMiddle_29 rfl ?_
  refine e_iconst dX5_whereIsMiddle_30 ?_
  refine e_lload_n dX5_whereIsMiddle_31 rfl ?_
  refine e_lload dX5_whereIsMiddle_32 rfl ?_
  refine e_pureS qcX5_94 (S_whereIs hr ⟨by omega, by omega⟩ ⟨by omega, by omega⟩ ⟨by omega, by omega⟩) rfl rfl rfl rfl dX5_whereIsMiddle_34 ?_
  refine e_iret rfl dX5_whereIsMiddle_37 (by decide) (by decide) ?_
  exact ⟨rfl, rfl, rfl⟩
abbrev fold3 (L : PL) (i : Nat) : Prop := on3 L i (nxt L.length i) L (prv L.length i) ∨ on3 L (prv L.length i) i L (nxt L.length i)
set_option maxRecDepth 20000 in
theorem S_foldsBack (hr : rowAt G N L r h) {i : Nat} (hi : i < L.length) : Pure G mX5_foldsBack [.ref r, .int (iN i)] h (.int (iN (bP (fold3 L i)))) := by
  intro z
  refine run_of rfl plX5 rfl ?_
  refine e_aload_n dX5_foldsBack_0 rfl ?_
  refine e_iload_n dX5_foldsBack_1 rfl ?_
  refine e_pureV qcX5_80 hr.obj rfl rfl (S_previous hr hi) rfl rfl rfl rfl dX5_foldsBack_2 ?_
  refine e_istore_n dX5_foldsBack_5 rfl ?_
  refine e_aload_n dX5_foldsBack_6 rfl ?_
  refine e_iload_n dX5_foldsBack_7 rfl ?_
  refine e_pureV qcX5_7 hr.obj rfl rfl (S_next hr hi) rfl rfl rfl rfl dX5_foldsBack_8 ?_
  refine e_istore_n dX5_foldsBack_11 rfl ?_
  refine e_aload_n dX5_foldsBack_12 rfl ?_
  refine e_iload_n dX5_foldsBack_13 rfl ?_
  refine e_iload_n dX5_foldsBack_14 rfl ?_
  refine e_aload_n dX5_foldsBack_15 rfl ?_
  refine e_iload_n dX5_foldsBack_16 rfl ?_
  refine e_pureS qcX5_83 (S_isBetween hr hr hi (nxt_lt hi) (prv_lt hi)) rfl rfl rfl rfl dX5_foldsBack_17 ?_
  refine e_ifP_ne (tgt := 34) dX5_foldsBack_20 rfl (fun c_20 => ?_) (fun c_20 => ?_)
  · refine e_iconst dX5_foldsBack_34 ?_
    refine e_goto (tgt := 39) dX5_foldsBack_35 rfl ?_
    refine e_zret rfl (Or.inr rfl) dX5_foldsBack_39 (by decide) (by decide) ?_
    exact ⟨by rw [bP_t (Or.inl c_20)], rfl, rfl⟩
  · refine e_aload_n dX5_foldsBack_23 rfl ?_
    refine e_iload_n dX5_foldsBack_24 rfl ?_
    refine e_iload_n dX5_foldsBack_25 rfl ?_
    refine e_aload_n dX5_foldsBack_26 rfl ?_
    refine e_iload_n dX5_foldsBack_27 rfl ?_
    refine e_pureS qcX5_83 (S_isBetween hr hr (prv_lt hi) hi (nxt_lt hi)) rfl rfl rfl rfl dX5_foldsBack_28 ?_
    refine e_ifP_eq (tgt := 38) dX5_foldsBack_31 rfl (fun c_31 => ?_) (fun c_31 => ?_)
    · refine e_iconst dX5_foldsBack_38 ?_
      refine e_zret rfl (Or.inl rfl) dX5_foldsBack_39 (by decide) (by decide) ?_
      exact ⟨by rw [bP_f (fun w => by rcases w with w | w <;> contradiction)], rfl, rfl⟩
    · refine e_iconst dX5_foldsBack_34 ?_
      refine e_goto (tgt := 39) dX5_foldsBack_35 rfl ?_
      refine e_zret rfl (Or.inr rfl) dX5_foldsBack_39 (by decide) (by decide) ?_
      exact ⟨by rw [bP_t (Or.inr c_31)], rfl, rfl⟩
abbrev bnF (L : PL) (w i : Nat) : Int := if w < 2 then pX L i else pY L i
/-- the least or the greatest of the first n -/
def bnd (L : PL) (w : Nat) : Nat → Int
  | 0 => 0
  | n + 1 => if n = 0 ∨ (if w % 2 = 0 then bnF L w n < bnd L w n else bnd L w n < bnF L w n) then bnF L w n else bnd L w n
abbrev bnC (L : PL) (w n : Nat) : Prop := n = 0 ∨ (if w % 2 = 0 then bnF L w n < bnd L w n else bnd L w n < bnF L w n)
theorem bnd_t {L : PL} {w n : Nat} (h : bnC L w n) : bnd L w (n + 1) = bnF L w n := if_pos h
theorem bnd_n {L : PL} {w n : Nat} (h : ¬ bnC L w n) : bnd L w (n + 1) = bnd L w n := if_neg h
theorem bnF_bd {L : PL} (h : okL L) (w : Nat) {i : Nat} (hi : i < L.length) : bd (bnF L w i) := by
  have := h.at hi
  unfold bnF
  split
  · exact this.1
  · exact this.2.1
theorem bnd_bd {L : PL} (h : okL L) (w : Nat) : ∀ n, n ≤ L.length → bd (bnd L w n)
  | 0, _ => ⟨by unfold bnd; omega, by unfold bnd; omega⟩
  | n + 1, hn => by
    by_cases c : bnC L w n
    · rw [bnd_t c]; exact bnF_bd h w (by omega)
    · rw [bnd_n c]; exact bnd_bd h w n (by omega)
theorem tm2 (w : Nat) : (w : Int).tmod 2 = ((w % 2 : Nat) : Int) := rfl
set_option maxRecDepth 20000 in
theorem bn_loop {z : Option Nat} (hr : rowAt G N L r h) {w : Nat} (hw : w < 4) : ∀ (n i : Nat), i + n = L.length → Ev (g_B G mX5_bound 0 0 (fun o z1 h1 => o = .inl (some (.int (iN (bnd L w L.length)))) ∧ z1 = z ∧ h1 = h)) 0 0 z h 4 [(3, .int (iN i)), (2, .int (iN (bnd L w i))), (0, .ref r), (1, .int (iN w))] [] := by
  have h9 := hr.1
  have h8 := hr.2.1
  intro n
  induction n with
  | zero =>
    intro i hin
    have e9 : i = L.length := by omega
    subst e9
    refine e_iload_n dX5_bound_4 rfl ?_
    refine e_aload_n dX5_bound_5 rfl ?_
    refine e_pureV qcX5_25 hr.obj rfl rfl (S_size hr) rfl rfl rfl rfl dX5_bound_6 ?_
    refine e_icmp_ge (tgt := 83) ⟨by omega, by omega⟩ ⟨by omega, by omega⟩ dX5_bound_9 rfl (fun c_9 => ?_) (fun c_9 => absurd (Int.le_refl _) c_9)
    refine e_iload_n dX5_bound_83 rfl ?_
    refine e_iret rfl dX5_bound_84 (by decide) (by decide) ?_
    exact ⟨rfl, rfl, rfl⟩
  | succ n ih =>
    intro i hin
    have hi : i < L.length := by omega
    have u1 := hr.2.2.1.at hi
    have u3 := bnd_bd hr.2.2.1 w i (by omega)
    have u4 := bnF_bd hr.2.2.1 w hi
    have go : ∀ v : Int, v = bnd L w (i + 1) → Ev (g_B G mX5_bound 0 0 (fun o z1 h1 => o = .inl (some (.int (iN (bnd L w L.length)))) ∧ z1 = z ∧ h1 = h)) 0 0 z h 4 [(3, .int (iN (i + 1 : Nat))), (2, .int (iN v)), (0, .ref r), (1, .int (iN w))] [] := fun v hv => by subst hv; exact ih (i + 1) (by omega)
    have mid : ∀ v : Int, v = bnF L w i → Ev (g_B G mX5_bound 0 0 (fun o z1 h1 => o = .inl (some (.int (iN (bnd L w L.length)))) ∧ z1 = z ∧ h1 = h)) 0 0 z h 30 [(3, .int (iN i)), (2, .int (iN (bnd L w i))), (0, .ref r), (1, .int (iN w))] [.int (iN v)] := by
      intro v hv
      subst hv
      refine e_istore dX5_bound_30 rfl ?_
      refine e_iload_n dX5_bound_32 rfl ?_
      refine e_iconst dX5_bound_33 ?_
      refine e_irem ⟨by omega, by omega⟩ ⟨by omega, by omega⟩ (by omega) dX5_bound_34 ?_
      rw [tm2]
      refine e_if_ne (tgt := 52) ⟨by omega, by omega⟩ dX5_bound_35 rfl (fun c_35 => ?_) (fun c_35 => ?_)
      · refine e_iload dX5_bound_52 rfl ?_
        refine e_iload_n dX5_bound_54 rfl ?_
        refine e_icmp_le (tgt := 62) ⟨by omega, by omega⟩ ⟨by omega, by omega⟩ dX5_bound_55 rfl (fun c_55 => ?_) (fun c_55 => ?_)
        · refine e_iconst dX5_bound_62 ?_
          refine e_istore dX5_bound_63 rfl ?_
          refine e_iload_n dX5_bound_65 rfl ?_
          refine e_if_eq (tgt := 74) ⟨by omega, by omega⟩ dX5_bound_66 rfl (fun c_66 => ?_) (fun c_66 => ?_)
          · refine e_iload dX5_bound_74 rfl ?_
            refine e_istore_n dX5_bound_76 rfl ?_
            refine e_iinc dX5_bound_77 rfl ?_
            refine e_goto (tgt := 4) dX5_bound_80 rfl ?_
            exact e_loc [(3, .int (iN (i + 1 : Nat))), (2, .int (iN _)), (0, .ref r), (1, .int (iN w))] ⟨rfl, rfl, rfl, rfl, trivial⟩ (go _ (by first | exact (bnd_t (Or.inl (by omega))).symm | exact (bnd_t (Or.inr (by rw [if_pos (by omega)]; omega))).symm | exact (bnd_t (Or.inr (by rw [if_neg (by omega)]; omega))).symm | exact (bnd_n (fun w => by rcases w with w | w; omega; rw [if_pos (by omega)] at w; omega)).symm | exact (bnd_n (fun w => by rcases w with w | w; omega; rw [if_neg (by omega)] at w; omega)).symm))
          · refine e_iload dX5_bound_69 rfl ?_
            refine e_if_eq (tgt := 77) ⟨by omega, by omega⟩ dX5_bound_71 rfl (fun c_71 => ?_) (fun c_71 => ?_)
            · refine e_iinc dX5_bound_77 rfl ?_
              refine e_goto (tgt := 4) dX5_bound_80 rfl ?_
              exact e_loc [(3, .int (iN (i + 1 : Nat))), (2, .int (iN _)), (0, .ref r), (1, .int (iN w))] ⟨rfl, rfl, rfl, rfl, trivial⟩ (go _ (by first | exact (bnd_t (Or.inl (by omega))).symm | exact (bnd_t (Or.inr (by rw [if_pos (by omega)]; omega))).symm | exact (bnd_t (Or.inr (by rw [if_neg (by omega)]; omega))).symm | exact (bnd_n (fun w => by rcases w with w | w; omega; rw [if_pos (by omega)] at w; omega)).symm | exact (bnd_n (fun w => by rcases w with w | w; omega; rw [if_neg (by omega)] at w; omega)).symm))
            · refine e_iload dX5_bound_74 rfl ?_
              refine e_istore_n dX5_bound_76 rfl ?_
              refine e_iinc dX5_bound_77 rfl ?_
              refine e_goto (tgt := 4) dX5_bound_80 rfl ?_
              exact e_loc [(3, .int (iN (i + 1 : Nat))), (2, .int (iN _)), (0, .ref r), (1, .int (iN w))] ⟨rfl, rfl, rfl, rfl, trivial⟩ (go _ (by first | exact (bnd_t (Or.inl (by omega))).symm | exact (bnd_t (Or.inr (by rw [if_pos (by omega)]; omega))).symm | exact (bnd_t (Or.inr (by rw [if_neg (by omega)]; omega))).symm | exact (bnd_n (fun w => by rcases w with w | w; omega; rw [if_pos (by omega)] at w; omega)).symm | exact (bnd_n (fun w => by rcases w with w | w; omega; rw [if_neg (by omega)] at w; omega)).symm))
        · refine e_iconst dX5_bound_58 ?_
          refine e_goto (tgt := 63) dX5_bound_59 rfl ?_
          refine e_istore dX5_bound_63 rfl ?_
          refine e_iload_n dX5_bound_65 rfl ?_
          refine e_if_eq (tgt := 74) ⟨by omega, by omega⟩ dX5_bound_66 rfl (fun c_66 => ?_) (fun c_66 => ?_)
          · refine e_iload dX5_bound_74 rfl ?_
            refine e_istore_n dX5_bound_76 rfl ?_
            refine e_iinc dX5_bound_77 rfl ?_
            refine e_goto (tgt := 4) dX5_bound_80 rfl ?_
            exact e_loc [(3, .int (iN (i + 1 : Nat))), (2, .int (iN _)), (0, .ref r), (1, .int (iN w))] ⟨rfl, rfl, rfl, rfl, trivial⟩ (go _ (by first | exact (bnd_t (Or.inl (by omega))).symm | exact (bnd_t (Or.inr (by rw [if_pos (by omega)]; omega))).symm | exact (bnd_t (Or.inr (by rw [if_neg (by omega)]; omega))).symm | exact (bnd_n (fun w => by rcases w with w | w; omega; rw [if_pos (by omega)] at w; omega)).symm | exact (bnd_n (fun w => by rcases w with w | w; omega; rw [if_neg (by omega)] at w; omega)).symm))
          · refine e_iload dX5_bound_69 rfl ?_
            refine e_if_eq (tgt := 77) ⟨by omega, by omega⟩ dX5_bound_71 rfl (fun c_71 => ?_) (fun c_71 => ?_)
            · refine e_iinc dX5_bound_77 rfl ?_
              refine e_goto (tgt := 4) dX5_bound_80 rfl ?_
              exact e_loc [(3, .int (iN (i + 1 : Nat))), (2, .int (iN _)), (0, .ref r), (1, .int (iN w))] ⟨rfl, rfl, rfl, rfl, trivial⟩ (go _ (by first | exact (bnd_t (Or.inl (by omega))).symm | exact (bnd_t (Or.inr (by rw [if_pos (by omega)]; omega))).symm | exact (bnd_t (Or.inr (by rw [if_neg (by omega)]; omega))).symm | exact (bnd_n (fun w => by rcases w with w | w; omega; rw [if_pos (by omega)] at w; omega)).symm | exact (bnd_n (fun w => by rcases w with w | w; omega; rw [if_neg (by omega)] at w; omega)).symm))
            · refine e_iload dX5_bound_74 rfl ?_
              refine e_istore_n dX5_bound_76 rfl ?_
              refine e_iinc dX5_bound_77 rfl ?_
              refine e_goto (tgt := 4) dX5_bound_80 rfl ?_
              exact e_loc [(3, .int (iN (i + 1 : Nat))), (2, .int (iN _)), (0, .ref r), (1, .int (iN w))] ⟨rfl, rfl, rfl, rfl, trivial⟩ (go _ (by first | exact (bnd_t (Or.inl (by omega))).symm | exact (bnd_t (Or.inr (by rw [if_pos (by omega)]; omega))).symm | exact (bnd_t (Or.inr (by rw [if_neg (by omega)]; omega))).symm | exact (bnd_n (fun w => by rcases w with w | w; omega; rw [if_pos (by omega)] at w; omega)).symm | exact (bnd_n (fun w => by rcases w with w | w; omega; rw [if_neg (by omega)] at w; omega)).symm))
      · refine e_iload dX5_bound_38 rfl ?_
        refine e_iload_n dX5_bound_40 rfl ?_
        refine e_icmp_ge (tgt := 48) ⟨by omega, by omega⟩ ⟨by omega, by omega⟩ dX5_bound_41 rfl (fun c_41 => ?_) (fun c_41 => ?_)
        · refine e_iconst dX5_bound_48 ?_
          refine e_goto (tgt := 63) dX5_bound_49 rfl ?_
          refine e_istore dX5_bound_63 rfl ?_
          refine e_iload_n dX5_bound_65 rfl ?_
          refine e_if_eq (tgt := 74) ⟨by omega, by omega⟩ dX5_bound_66 rfl (fun c_66 => ?_) (fun c_66 => ?_)
          · refine e_iload dX5_bound_74 rfl ?_
            refine e_istore_n dX5_bound_76 rfl ?_
            refine e_iinc dX5_bound_77 rfl ?_
            refine e_goto (tgt := 4) dX5_bound_80 rfl ?_
            exact e_loc [(3, .int (iN (i + 1 : Nat))), (2, .int (iN _)), (0, .ref r), (1, .int (iN w))] ⟨rfl, rfl, rfl, rfl, trivial⟩ (go _ (by first | exact (bnd_t (Or.inl (by omega))).symm | exact (bnd_t (Or.inr (by rw [if_pos (by omega)]; omega))).symm | exact (bnd_t (Or.inr (by rw [if_neg (by omega)]; omega))).symm | exact (bnd_n (fun w => by rcases w with w | w; omega; rw [if_pos (by omega)] at w; omega)).symm | exact (bnd_n (fun w => by rcases w with w | w; omega; rw [if_neg (by omega)] at w; omega)).symm))
          · refine e_iload dX5_bound_69 rfl ?_
            refine e_if_eq (tgt := 77) ⟨by omega, by omega⟩ dX5_bound_71 rfl (fun c_71 => ?_) (fun c_71 => ?_)
            · refine e_iinc dX5_bound_77 rfl ?_
              refine e_goto (tgt := 4) dX5_bound_80 rfl ?_
              exact e_loc [(3, .int (iN (i + 1 : Nat))), (2, .int (iN _)), (0, .ref r), (1, .int (iN w))] ⟨rfl, rfl, rfl, rfl, trivial⟩ (go _ (by first | exact (bnd_t (Or.inl (by omega))).symm | exact (bnd_t (Or.inr (by rw [if_pos (by omega)]; omega))).symm | exact (bnd_t (Or.inr (by rw [if_neg (by omega)]; omega))).symm | exact (bnd_n (fun w => by rcases w with w | w; omega; rw [if_pos (by omega)] at w; omega)).symm | exact (bnd_n (fun w => by rcases w with w | w; omega; rw [if_neg (by omega)] at w; omega)).symm))
            · refine e_iload dX5_bound_74 rfl ?_
              refine e_istore_n dX5_bound_76 rfl ?_
              refine e_iinc dX5_bound_77 rfl ?_
              refine e_goto (tgt := 4) dX5_bound_80 rfl ?_
              exact e_loc [(3, .int (iN (i + 1 : Nat))), (2, .int (iN _)), (0, .ref r), (1, .int (iN w))] ⟨rfl, rfl, rfl, rfl, trivial⟩ (go _ (by first | exact (bnd_t (Or.inl (by omega))).symm | exact (bnd_t (Or.inr (by rw [if_pos (by omega)]; omega))).symm | exact (bnd_t (Or.inr (by rw [if_neg (by omega)]; omega))).symm | exact (bnd_n (fun w => by rcases w with w | w; omega; rw [if_pos (by omega)] at w; omega)).symm | exact (bnd_n (fun w => by rcases w with w | w; omega; rw [if_neg (by omega)] at w; omega)).symm))
        · refine e_iconst dX5_bound_44 ?_
          refine e_goto (tgt := 63) dX5_bound_45 rfl ?_
          refine e_istore dX5_bound_63 rfl ?_
          refine e_iload_n dX5_bound_65 rfl ?_
          refine e_if_eq (tgt := 74) ⟨by omega, by omega⟩ dX5_bound_66 rfl (fun c_66 => ?_) (fun c_66 => ?_)
          · refine e_iload dX5_bound_74 rfl ?_
            refine e_istore_n dX5_bound_76 rfl ?_
            refine e_iinc dX5_bound_77 rfl ?_
            refine e_goto (tgt := 4) dX5_bound_80 rfl ?_
            exact e_loc [(3, .int (iN (i + 1 : Nat))), (2, .int (iN _)), (0, .ref r), (1, .int (iN w))] ⟨rfl, rfl, rfl, rfl, trivial⟩ (go _ (by first | exact (bnd_t (Or.inl (by omega))).symm | exact (bnd_t (Or.inr (by rw [if_pos (by omega)]; omega))).symm | exact (bnd_t (Or.inr (by rw [if_neg (by omega)]; omega))).symm | exact (bnd_n (fun w => by rcases w with w | w; omega; rw [if_pos (by omega)] at w; omega)).symm | exact (bnd_n (fun w => by rcases w with w | w; omega; rw [if_neg (by omega)] at w; omega)).symm))
          · refine e_iload dX5_bound_69 rfl ?_
            refine e_if_eq (tgt := 77) ⟨by omega, by omega⟩ dX5_bound_71 rfl (fun c_71 => ?_) (fun c_71 => ?_)
            · refine e_iinc dX5_bound_77 rfl ?_
              refine e_goto (tgt := 4) dX5_bound_80 rfl ?_
              exact e_loc [(3, .int (iN (i + 1 : Nat))), (2, .int (iN _)), (0, .ref r), (1, .int (iN w))] ⟨rfl, rfl, rfl, rfl, trivial⟩ (go _ (by first | exact (bnd_t (Or.inl (by omega))).symm | exact (bnd_t (Or.inr (by rw [if_pos (by omega)]; omega))).symm | exact (bnd_t (Or.inr (by rw [if_neg (by omega)]; omega))).symm | exact (bnd_n (fun w => by rcases w with w | w; omega; rw [if_pos (by omega)] at w; omega)).symm | exact (bnd_n (fun w => by rcases w with w | w; omega; rw [if_neg (by omega)] at w; omega)).symm))
            · refine e_iload dX5_bound_74 rfl ?_
              refine e_istore_n dX5_bound_76 rfl ?_
              refine e_iinc dX5_bound_77 rfl ?_
              refine e_goto (tgt := 4) dX5_bound_80 rfl ?_
              exact e_loc [(3, .int (iN (i + 1 : Nat))), (2, .int (iN _)), (0, .ref r), (1, .int (iN w))] ⟨rfl, rfl, rfl, rfl, trivial⟩ (go _ (by first | exact (bnd_t (Or.inl (by omega))).symm | exact (bnd_t (Or.inr (by rw [if_pos (by omega)]; omega))).symm | exact (bnd_t (Or.inr (by rw [if_neg (by omega)]; omega))).symm | exact (bnd_n (fun w => by rcases w with w | w; omega; rw [if_pos (by omega)] at w; omega)).symm | exact (bnd_n (fun w => by rcases w with w | w; omega; rw [if_neg (by omega)] at w; omega)).symm))
    refine e_iload_n dX5_bound_4 rfl ?_
    refine e_aload_n dX5_bound_5 rfl ?_
    refine e_pureV qcX5_25 hr.obj rfl rfl (S_size hr) rfl rfl rfl rfl dX5_bound_6 ?_
    refine e_icmp_ge (tgt := 83) ⟨by omega, by omega⟩ ⟨by omega, by omega⟩ dX5_bound_9 rfl (fun c_9 => ?_) (fun c_9 => ?_)
    · exact absurd c_9 (by omega)
    · refine e_iload_n dX5_bound_12 rfl ?_
      refine e_iconst dX5_bound_13 ?_
      refine e_icmp_ge (tgt := 25) ⟨by omega, by omega⟩ ⟨by omega, by omega⟩ dX5_bound_14 rfl (fun c_14 => ?_) (fun c_14 => ?_)
      · refine e_aload_n dX5_bound_25 rfl ?_
        refine e_iload_n dX5_bound_26 rfl ?_
        refine e_pureV qcX5_16 hr.obj rfl rfl (S_yAt hr hi) rfl rfl rfl rfl dX5_bound_27 ?_
        exact e_loc [(3, .int (iN i)), (2, .int (iN (bnd L w i))), (0, .ref r), (1, .int (iN w))] ⟨rfl, rfl, rfl, rfl, trivial⟩ (mid _ (by first | exact (if_pos (by omega)).symm | exact (if_neg (by omega)).symm))
      · refine e_aload_n dX5_bound_17 rfl ?_
        refine e_iload_n dX5_bound_18 rfl ?_
        refine e_pureV qcX5_13 hr.obj rfl rfl (S_xAt hr hi) rfl rfl rfl rfl dX5_bound_19 ?_
        refine e_goto (tgt := 30) dX5_bound_22 rfl ?_
        exact e_loc [(3, .int (iN i)), (2, .int (iN (bnd L w i))), (0, .ref r), (1, .int (iN w))] ⟨rfl, rfl, rfl, rfl, trivial⟩ (mid _ (by first | exact (if_pos (by omega)).symm | exact (if_neg (by omega)).symm))
set_option maxRecDepth 20000 in
theorem S_bound (hr : rowAt G N L r h) {w : Nat} (hw : w < 4) : Pure G mX5_bound [.ref r, .int (iN w)] h (.int (iN (bnd L w L.length))) := by
  intro z
  refine run_of rfl plX5 rfl ?_
  refine e_iconst dX5_bound_0 ?_
  refine e_istore_n dX5_bound_1 rfl ?_
  refine e_iconst dX5_bound_2 ?_
  refine e_istore_n dX5_bound_3 rfl ?_
  exact e_loc [(3, .int (iN (0 : Nat))), (2, .int (iN (bnd L w 0))), (0, .ref r), (1, .int (iN w))] ⟨rfl, rfl, rfl, rfl, trivial⟩ (bn_loop hr hw L.length 0 (by omega))
/-- how far the first n reach from an edge -/
def rch (L : PL) (e : Nat) : Nat → Int
  | 0 => 0
  | n + 1 => max (rch L e n) (tw3 L e (nxt L.length e) L n)
theorem rch_bd {L : PL} {B : Int} (h0 : 0 ≤ B) (e : Nat) : ∀ {n : Nat}, (∀ i, i < n → tw3 L e (nxt L.length e) L i ≤ B) → 0 ≤ rch L e n ∧ rch L e n ≤ B
  | 0, _ => ⟨Int.le_refl _, h0⟩
  | n + 1, h => by
    have h1 := rch_bd h0 e (n := n) (fun i hi => h i (by omega))
    have h2 := h n (by omega)
    unfold rch
    omega
theorem tw3_bd {L L2 : PL} (h : okL L) (h2 : okL L2) {a b c : Nat} (ha : a < L.length) (hb : b < L.length) (hc : c < L2.length) : -32000000 ≤ tw3 L a b L2 c ∧ tw3 L a b L2 c ≤ 32000000 := by
  have u1 := h.at ha
  have u2 := h.at hb
  have u3 := h2.at hc
  have q1 := mul_bd (a := pX L b - pX L a) (b := pY L2 c - pY L a) (A := 4000) (B := 4000) ⟨by omega, by omega⟩ ⟨by omega, by omega⟩
  have q2 := mul_bd (a := pY L b - pY L a) (b := pX L2 c - pX L a) (A := 4000) (B := 4000) ⟨by omega, by omega⟩ ⟨by omega, by omega⟩
  unfold tw3 tw
  omega
set_option maxRecDepth 20000 in
theorem rc_loop {z : Option Nat} (hr : rowAt G N L r h) {e : Nat} (he : e < L.length) : ∀ (n i : Nat), i + n = L.length → Ev (g_B G mX5_reachFrom 0 0 (fun o z1 h1 => o = .inl (some (.long (lI (rch L e L.length)))) ∧ z1 = z ∧ h1 = h)) 0 0 z h 5 [(4, .int (iN i)), (2, .long (lI (rch L e i))), (0, .ref r), (1, .int (iN e))] [] := by
  have h9 := hr.1
  have h8 := hr.2.1
  intro n
  induction n with
  | zero =>
    intro i hin
    have e9 : i = L.length := by omega
    subst e9
    refine e_iload dX5_reachFrom_5 rfl ?_
    refine e_aload_n dX5_reachFrom_7 rfl ?_
    refine e_pureV qcX5_25 hr.obj rfl rfl (S_size hr) rfl rfl rfl rfl dX5_reachFrom_8 ?_
    refine e_icmp_ge (tgt := 37) ⟨by omega, by omega⟩ ⟨by omega, by omega⟩ dX5_reachFrom_11 rfl (fun c_11 => ?_) (fun c_11 => absurd (Int.le_refl _) c_11)
    refine e_lload_n dX5_reachFrom_37 rfl ?_
    refine e_lret rfl dX5_reachFrom_38 (by decide) (by decide) ?_
    exact ⟨rfl, rfl, rfl⟩
  | succ n ih =>
    intro i hin
    have hi : i < L.length := by omega
    have t1 := tw3_bd hr.2.2.1 hr.2.2.1 he (nxt_lt he) hi
    have t2 := rch_bd (L := L) (B := 32000000) (by omega) e (n := i) (fun j hj => (tw3_bd hr.2.2.1 hr.2.2.1 he (nxt_lt he) (show j < L.length by omega)).2)
    refine e_iload dX5_reachFrom_5 rfl ?_
    refine e_aload_n dX5_reachFrom_7 rfl ?_
    refine e_pureV qcX5_25 hr.obj rfl rfl (S_size hr) rfl rfl rfl rfl dX5_reachFrom_8 ?_
    refine e_icmp_ge (tgt := 37) ⟨by omega, by omega⟩ ⟨by omega, by omega⟩ dX5_reachFrom_11 rfl (fun c_11 => ?_) (fun c_11 => ?_)
    · exact absurd c_11 (by omega)
    · refine e_lload_n dX5_reachFrom_14 rfl ?_
      refine e_aload_n dX5_reachFrom_15 rfl ?_
      refine e_iload_n dX5_reachFrom_16 rfl ?_
      refine e_aload_n dX5_reachFrom_17 rfl ?_
      refine e_iload_n dX5_reachFrom_18 rfl ?_
      refine e_pureV qcX5_7 hr.obj rfl rfl (S_next hr he) rfl rfl rfl rfl dX5_reachFrom_19 ?_
      refine e_iload dX5_reachFrom_22 rfl ?_
      refine e_pureS qcX5_65 (S_twistOf hr he (nxt_lt he) hi) rfl rfl rfl rfl dX5_reachFrom_24 ?_
      refine e_mmaxL ⟨by omega, by omega⟩ ⟨by omega, by omega⟩ qcX5_69 rfl dX5_reachFrom_27 ?_
      refine e_lstore_n dX5_reachFrom_30 rfl ?_
      refine e_iinc dX5_reachFrom_31 rfl ?_
      refine e_goto (tgt := 5) dX5_reachFrom_34 rfl ?_
      exact e_loc [(4, .int (iN (i + 1 : Nat))), (2, .long (lI (rch L e (i + 1)))), (0, .ref r), (1, .int (iN e))] ⟨rfl, rfl, rfl, rfl, trivial⟩ (ih (i + 1) (by omega))
set_option maxRecDepth 20000 in
theorem S_reachFrom (hr : rowAt G N L r h) {e : Nat} (he : e < L.length) : Pure G mX5_reachFrom [.ref r, .int (iN e)] h (.long (lI (rch L e L.length))) := by
  intro z
  refine run_of rfl plX5 rfl ?_
  refine e_lconst dX5_reachFrom_0 ?_
  refine e_lstore_n dX5_reachFrom_1 rfl ?_
  refine e_iconst dX5_reachFrom_2 ?_
  refine e_istore dX5_reachFrom_3 rfl ?_
  exact e_loc [(4, .int (iN (0 : Nat))), (2, .long (lI (rch L e 0))), (0, .ref r), (1, .int (iN e))] ⟨rfl, rfl, rfl, rfl, trivial⟩ (rc_loop hr he L.length 0 (by omega))
end PSHAPES2
