/-! The reference: ears and triangles -/
/-- what is left of the polygon g: its corners' numbers stand in an array -/
def ldR (S : Nat → PL) (g : Nat) (sc : Nat → Int) (ar : Nat → Nat → Int) (L : PL) : Prop := sc 27 = L.length ∧ L.length ≤ 16 ∧ (∀ i, i < L.length → ∃ q : Nat, q < (S g).length ∧ ar 12 i = (q : Int) ∧ pM L i = (q : Int) ∧ pX L i = pX (S g) q ∧ pY L i = pY (S g) q) ∧ ∀ i j, i < L.length → j < L.length → pM L i = pM L j → i = j
/-- the triangles made so far -/
def tdR (sc : Nat → Int) (ar : Nat → Nat → Int) (T : List Int) : Prop := sc 28 = T.length ∧ ∀ i, i < T.length → ar 13 i = T.getD i 0
theorem tmod_prv {p n : Nat} (hp : p < n) : ((p : Int) + (n : Int) - 1).tmod (n : Int) = ((prv n p : Nat) : Int) := by
  rw [show (p : Int) + (n : Int) - 1 = ((p + n - 1 : Nat) : Int) by omega]
  show (((p + n - 1) % n : Nat) : Int) = _
  unfold prv
  by_cases c : 0 < p
  · rw [if_pos c, show p + n - 1 = p - 1 + n by omega, Nat.add_mod_right, Nat.mod_eq_of_lt (by omega)]
  · rw [if_neg c, show p + n - 1 = n - 1 by omega, Nat.mod_eq_of_lt (by omega)]
theorem sg3 {w s : Int} (hw : w = 1 ∨ w = -1) (hs : -1 ≤ s ∧ s ≤ 1) : 0 ≤ w * s ↔ s ≠ 0 - w := by
  rcases hw with h | h <;> subst h <;> omega
section MTHIRTEEN
variable {G : g_X} {sc sc0 : Nat → Int} {ar : Nat → Nat → Int} {m : Nat} {h0 h : g_hp} {P E : PL} {S : Nat → PL} {b : Int} {P2 E2 : PL} {S2 : Nat → PL} {F : PL}
set_option maxRecDepth 20000 in
theorem S_turnOf (X : mdX G sc ar m h0 h) (hS : mdS ar S) {g : Nat} (hg : g < 4) {q1 q2 q3 : Nat} (hq1 : q1 < (S g).length) (hq2 : q2 < (S g).length) (hq3 : q3 < (S g).length) : Pure G mX8_turnOf [.ref m, .int (iN g), .int (iN q1), .int (iN q2), .int (iN q3)] h (.int (iN (sd3 (S g) q1 q2 (S g) q3))) := by
  obtain ⟨s1, s2, s3, s4⟩ := hS g hg
  have b1 := s3.at hq1
  have b2 := s3.at hq2
  have b3 := s3.at hq3
  intro z
  refine run_of rfl plX8 rfl ?_
  refine e_bipush dX8_turnOf_0 (by decide) ?_
  refine e_iload_n dX8_turnOf_2 rfl ?_
  refine e_imul dX8_turnOf_3 ?_
  refine e_iload_n dX8_turnOf_4 rfl ?_
  refine e_iadd dX8_turnOf_5 ?_
  refine e_istore dX8_turnOf_6 rfl ?_
  refine e_bipush dX8_turnOf_8 (by decide) ?_
  refine e_iload_n dX8_turnOf_10 rfl ?_
  refine e_imul dX8_turnOf_11 ?_
  refine e_iload_n dX8_turnOf_12 rfl ?_
  refine e_iadd dX8_turnOf_13 ?_
  refine e_istore dX8_turnOf_14 rfl ?_
  refine e_bipush dX8_turnOf_16 (by decide) ?_
  refine e_iload_n dX8_turnOf_18 rfl ?_
  refine e_imul dX8_turnOf_19 ?_
  refine e_iload dX8_turnOf_20 rfl ?_
  refine e_iadd dX8_turnOf_22 ?_
  refine e_istore dX8_turnOf_23 rfl ?_
  refine e_aload_n dX8_turnOf_25 rfl ?_
  refine e_getf fX8_42 X.obj rfl dX8_turnOf_26 ?_
  refine e_iload dX8_turnOf_29 rfl ?_
  refine e_ial X.a9 (by omega) (by omega) rfl ((congrArg _ (show (16 * ((g : Nat) : Int) + ((q1 : Nat) : Int)).toNat = 16 * g + q1 by omega)).trans (s4 q1 hq1).1) dX8_turnOf_31 ?_
  refine e_i2l ⟨by omega, by omega⟩ dX8_turnOf_32 ?_
  refine e_aload_n dX8_turnOf_33 rfl ?_
  refine e_getf fX8_45 X.obj rfl dX8_turnOf_34 ?_
  refine e_iload dX8_turnOf_37 rfl ?_
  refine e_ial X.a10 (by omega) (by omega) rfl ((congrArg _ (show (16 * ((g : Nat) : Int) + ((q1 : Nat) : Int)).toNat = 16 * g + q1 by omega)).trans (s4 q1 hq1).2) dX8_turnOf_39 ?_
  refine e_i2l ⟨by omega, by omega⟩ dX8_turnOf_40 ?_
  refine e_aload_n dX8_turnOf_41 rfl ?_
  refine e_getf fX8_42 X.obj rfl dX8_turnOf_42 ?_
  refine e_iload dX8_turnOf_45 rfl ?_
  refine e_ial X.a9 (by omega) (by omega) rfl ((congrArg _ (show (16 * ((g : Nat) : Int) + ((q2 : Nat) : Int)).toNat = 16 * g + q2 by omega)).trans (s4 q2 hq2).1) dX8_turnOf_47 ?_
  refine e_i2l ⟨by omega, by omega⟩ dX8_turnOf_48 ?_
  refine e_aload_n dX8_turnOf_49 rfl ?_
  refine e_getf fX8_45 X.obj rfl dX8_turnOf_50 ?_
  refine e_iload dX8_turnOf_53 rfl ?_
  refine e_ial X.a10 (by omega) (by omega) rfl ((congrArg _ (show (16 * ((g : Nat) : Int) + ((q2 : Nat) : Int)).toNat = 16 * g + q2 by omega)).trans (s4 q2 hq2).2) dX8_turnOf_55 ?_
  refine e_i2l ⟨by omega, by omega⟩ dX8_turnOf_56 ?_
  refine e_aload_n dX8_turnOf_57 rfl ?_
  refine e_getf fX8_42 X.obj rfl dX8_turnOf_58 ?_
  refine e_iload dX8_turnOf_61 rfl ?_
  refine e_ial X.a9 (by omega) (by omega) rfl ((congrArg _ (show (16 * ((g : Nat) : Int) + ((q3 : Nat) : Int)).toNat = 16 * g + q3 by omega)).trans (s4 q3 hq3).1) dX8_turnOf_63 ?_
  refine e_i2l ⟨by omega, by omega⟩ dX8_turnOf_64 ?_
  refine e_aload_n dX8_turnOf_65 rfl ?_
  refine e_getf fX8_45 X.obj rfl dX8_turnOf_66 ?_
  refine e_iload dX8_turnOf_69 rfl ?_
  refine e_ial X.a10 (by omega) (by omega) rfl ((congrArg _ (show (16 * ((g : Nat) : Int) + ((q3 : Nat) : Int)).toNat = 16 * g + q3 by omega)).trans (s4 q3 hq3).2) dX8_turnOf_71 ?_
  refine e_i2l ⟨by omega, by omega⟩ dX8_turnOf_72 ?_
  refine e_pureS qcX8_132 (S_turns (twr ⟨by omega, by omega⟩ ⟨by omega, by omega⟩ ⟨by omega, by omega⟩ ⟨by omega, by omega⟩ ⟨by omega, by omega⟩ ⟨by omega, by omega⟩)) rfl rfl rfl rfl dX8_turnOf_73 ?_
  refine e_iret rfl dX8_turnOf_76 (by decide) (by decide) ?_
  exact ⟨rfl, rfl, rfl⟩
theorem ldR.turn {L : PL} (X : mdX G sc ar m h0 h) (hS : mdS ar S) {g : Nat} (hg : g < 4) (hL : ldR S g sc ar L) {i j k : Nat} (hi : i < L.length) (hj : j < L.length) (hk : k < L.length) : Pure G mX8_turnOf [.ref m, .int (iN g), .int (iN (pM L i)), .int (iN (pM L j)), .int (iN (pM L k))] h (.int (iN (sd3 L i j L k))) := by
  obtain ⟨q1, h1, -, e1, x1, y1⟩ := hL.2.2.1 i hi
  obtain ⟨q2, h2, -, e2, x2, y2⟩ := hL.2.2.1 j hj
  obtain ⟨q3, h3, -, e3, x3, y3⟩ := hL.2.2.1 k hk
  rw [e1, e2, e3, show sd3 L i j L k = sd3 (S g) q1 q2 (S g) q3 by unfold sd3 tw3; rw [x1, y1, x2, y2, x3, y3]]
  exact S_turnOf X hS hg h1 h2 h3
set_option maxRecDepth 20000 in
theorem er_loop8 {z : Option Nat} {L : PL} (X : mdX G sc ar m h0 h) (hS : mdS ar S) {g : Nat} (hg : g < 4) (hL : ldR S g sc ar L) {w : Int} (hw : w = 1 ∨ w = -1) {i : Nat} (hi : i < L.length) (hs : sd3 L (prv L.length i) i L (nxt L.length i) = w) : ∀ (n k : Nat), k + n = L.length → (∀ q, q < k → othE L i q → ¬ inE L i w q) → Ev (g_B G mX8_isEar 0 0 (fun o z1 h1 => o = .inl (some (.int (iN (bC (earP L w i))))) ∧ z1 = z ∧ h1 = h)) 0 0 z h 63 [(7, .int (iN (k : Nat))), (6, .int (iN (pM L (nxt L.length i)))), (5, .int (iN (pM L i))), (4, .int (iN (pM L (prv L.length i)))), (0, .ref m), (1, .int (iN g)), (3, .int (iN w))] [] := by
  have hp := prv_lt hi
  have hn := nxt_lt hi
  have s2 := (hS g hg).2.1
  have l1 := hL.1
  have l2 := hL.2.1
  have bi := (show -2000 ≤ pM L i ∧ pM L i ≤ 2000 from (hL.2.2.1 i hi).elim fun q hq => by have := hq.1; have := hq.2.2.1; omega)
  have bp := (show -2000 ≤ pM L (prv L.length i) ∧ pM L (prv L.length i) ≤ 2000 from (hL.2.2.1 (prv L.length i) hp).elim fun q hq => by have := hq.1; have := hq.2.2.1; omega)
  have bn := (show -2000 ≤ pM L (nxt L.length i) ∧ pM L (nxt L.length i) ≤ 2000 from (hL.2.2.1 (nxt L.length i) hn).elim fun q hq => by have := hq.1; have := hq.2.2.1; omega)
  intro n
  induction n with
  | zero =>
    intro k hkn hno
    have e9 : k = L.length := by omega
    have e7 : earP L w i := ⟨hs, fun q hq => hno q (by omega)⟩
    refine e_iload dX8_isEar_63 rfl ?_
    refine e_aload_n dX8_isEar_65 rfl ?_
    refine e_getf fX8_252 X.obj rfl dX8_isEar_66 ?_
    rw [l1]
    refine e_icmp_ge (tgt := 173) ⟨by omega, by omega⟩ ⟨by omega, by omega⟩ dX8_isEar_69 rfl (fun c_69 => ?_) (fun c_69 => absurd (by omega) c_69)
    refine e_iconst dX8_isEar_173 ?_
    refine e_zret rfl (by first | exact Or.inl rfl | exact Or.inr rfl | exact bP_01 _) dX8_isEar_174 (by decide) (by decide) ?_
    exact ⟨by rw [bC_t e7], rfl, rfl⟩
  | succ n ih =>
    intro k hkn hno
    have hk : k < L.length := by omega
    have bk := (show -2000 ≤ pM L k ∧ pM L k ≤ 2000 from (hL.2.2.1 k hk).elim fun q hq => by have := hq.1; have := hq.2.2.1; omega)
    have t1 : -1 ≤ sd3 L (prv L.length i) i L k ∧ sd3 L (prv L.length i) i L k ≤ 1 := sg_bd _
    have t2 : -1 ≤ sd3 L i (nxt L.length i) L k ∧ sd3 L i (nxt L.length i) L k ≤ 1 := sg_bd _
    have t3 : -1 ≤ sd3 L (nxt L.length i) (prv L.length i) L k ∧ sd3 L (nxt L.length i) (prv L.length i) L k ≤ 1 := sg_bd _
    refine e_iload dX8_isEar_63 rfl ?_
    refine e_aload_n dX8_isEar_65 rfl ?_
    refine e_getf fX8_252 X.obj rfl dX8_isEar_66 ?_
    rw [l1]
    refine e_icmp_ge (tgt := 173) ⟨by omega, by omega⟩ ⟨by omega, by omega⟩ dX8_isEar_69 rfl (fun c_69 => absurd c_69 (by omega)) (fun c_69 => ?_)
    refine e_aload_n dX8_isEar_72 rfl ?_
    refine e_getf fX8_51 X.obj rfl dX8_isEar_73 ?_
    refine e_iload dX8_isEar_76 rfl ?_
    refine e_ial X.a12 (by omega) (by omega) rfl ((hL.2.2.1 k hk).elim fun q hq => hq.2.1.trans hq.2.2.1.symm) dX8_isEar_78 ?_
    refine e_istore dX8_isEar_79 rfl ?_
    refine e_iload dX8_isEar_81 rfl ?_
    refine e_iload dX8_isEar_83 rfl ?_
    refine e_icmp_eq (tgt := 106) ⟨by omega, by omega⟩ ⟨by omega, by omega⟩ dX8_isEar_85 rfl (fun c_85 => ?_) (fun c_85 => ?_)
    · have o5 : ¬ othE L i k := fun v => v.1 (hL.2.2.2 _ _ hk hp c_85)
      refine e_iconst dX8_isEar_106 ?_
      refine e_top (bP (othE L i k)) (bP_f o5).symm ?_
      refine e_istore dX8_isEar_107 rfl ?_
      refine e_iload dX8_isEar_109 rfl ?_
      refine e_ifP_eq (tgt := 167) dX8_isEar_111 rfl (fun c_111 => ?_) (fun c_111 => ?_)
      · have n5 : othE L i k → ¬ inE L i w k := fun v => absurd v c_111
        refine e_iinc dX8_isEar_167 rfl ?_
        refine e_goto (tgt := 63) dX8_isEar_170 rfl ?_
        exact e_loc [(7, .int (iN (k + 1 : Nat))), (6, .int (iN (pM L (nxt L.length i)))), (5, .int (iN (pM L i))), (4, .int (iN (pM L (prv L.length i)))), (0, .ref m), (1, .int (iN g)), (3, .int (iN w))] ⟨rfl, rfl, rfl, rfl, rfl, rfl, rfl, trivial⟩ (ih (k + 1) (by omega) (fun q hq => if c : q < k then hno q c else by rw [show q = k by omega]; exact n5))
      · refine e_aload_n dX8_isEar_114 rfl ?_
        refine e_iload_n dX8_isEar_115 rfl ?_
        refine e_iload dX8_isEar_116 rfl ?_
        refine e_iload dX8_isEar_118 rfl ?_
        refine e_iload dX8_isEar_120 rfl ?_
        refine e_pureV qcX8_255 X.obj rfl rfl (hL.turn X hS hg hp hi hk) rfl rfl rfl rfl dX8_isEar_122 ?_
        refine e_iconst dX8_isEar_125 ?_
        refine e_iload_n dX8_isEar_126 rfl ?_
        refine e_isub dX8_isEar_127 ?_
        refine e_icmp_eq (tgt := 167) ⟨by omega, by omega⟩ ⟨by omega, by omega⟩ dX8_isEar_128 rfl (fun c_128 => ?_) (fun c_128 => ?_)
        · have n5 : othE L i k → ¬ inE L i w k := fun _ v => absurd c_128 ((sg3 hw t1).mp v.1)
          refine e_iinc dX8_isEar_167 rfl ?_
          refine e_goto (tgt := 63) dX8_isEar_170 rfl ?_
          exact e_loc [(7, .int (iN (k + 1 : Nat))), (6, .int (iN (pM L (nxt L.length i)))), (5, .int (iN (pM L i))), (4, .int (iN (pM L (prv L.length i)))), (0, .ref m), (1, .int (iN g)), (3, .int (iN w))] ⟨rfl, rfl, rfl, rfl, rfl, rfl, rfl, trivial⟩ (ih (k + 1) (by omega) (fun q hq => if c : q < k then hno q c else by rw [show q = k by omega]; exact n5))
        · refine e_aload_n dX8_isEar_131 rfl ?_
          refine e_iload_n dX8_isEar_132 rfl ?_
          refine e_iload dX8_isEar_133 rfl ?_
          refine e_iload dX8_isEar_135 rfl ?_
          refine e_iload dX8_isEar_137 rfl ?_
          refine e_pureV qcX8_255 X.obj rfl rfl (hL.turn X hS hg hi hn hk) rfl rfl rfl rfl dX8_isEar_139 ?_
          refine e_iconst dX8_isEar_142 ?_
          refine e_iload_n dX8_isEar_143 rfl ?_
          refine e_isub dX8_isEar_144 ?_
          refine e_icmp_eq (tgt := 167) ⟨by omega, by omega⟩ ⟨by omega, by omega⟩ dX8_isEar_145 rfl (fun c_145 => ?_) (fun c_145 => ?_)
          · have n5 : othE L i k → ¬ inE L i w k := fun _ v => absurd c_145 ((sg3 hw t2).mp v.2.1)
            refine e_iinc dX8_isEar_167 rfl ?_
            refine e_goto (tgt := 63) dX8_isEar_170 rfl ?_
            exact e_loc [(7, .int (iN (k + 1 : Nat))), (6, .int (iN (pM L (nxt L.length i)))), (5, .int (iN (pM L i))), (4, .int (iN (pM L (prv L.length i)))), (0, .ref m), (1, .int (iN g)), (3, .int (iN w))] ⟨rfl, rfl, rfl, rfl, rfl, rfl, rfl, trivial⟩ (ih (k + 1) (by omega) (fun q hq => if c : q < k then hno q c else by rw [show q = k by omega]; exact n5))
          · refine e_aload_n dX8_isEar_148 rfl ?_
            refine e_iload_n dX8_isEar_149 rfl ?_
            refine e_iload dX8_isEar_150 rfl ?_
            refine e_iload dX8_isEar_152 rfl ?_
            refine e_iload dX8_isEar_154 rfl ?_
            refine e_pureV qcX8_255 X.obj rfl rfl (hL.turn X hS hg hn hp hk) rfl rfl rfl rfl dX8_isEar_156 ?_
            refine e_iconst dX8_isEar_159 ?_
            refine e_iload_n dX8_isEar_160 rfl ?_
            refine e_isub dX8_isEar_161 ?_
            refine e_icmp_eq (tgt := 167) ⟨by omega, by omega⟩ ⟨by omega, by omega⟩ dX8_isEar_162 rfl (fun c_162 => ?_) (fun c_162 => ?_)
            · have n5 : othE L i k → ¬ inE L i w k := fun _ v => absurd c_162 ((sg3 hw t3).mp v.2.2)
              refine e_iinc dX8_isEar_167 rfl ?_
              refine e_goto (tgt := 63) dX8_isEar_170 rfl ?_
              exact e_loc [(7, .int (iN (k + 1 : Nat))), (6, .int (iN (pM L (nxt L.length i)))), (5, .int (iN (pM L i))), (4, .int (iN (pM L (prv L.length i)))), (0, .ref m), (1, .int (iN g)), (3, .int (iN w))] ⟨rfl, rfl, rfl, rfl, rfl, rfl, rfl, trivial⟩ (ih (k + 1) (by omega) (fun q hq => if c : q < k then hno q c else by rw [show q = k by omega]; exact n5))
            · have n6 : ¬ earP L w i := fun v => v.2 k hk c_111 ⟨(sg3 hw t1).mpr c_128, (sg3 hw t2).mpr c_145, (sg3 hw t3).mpr c_162⟩
              refine e_iconst dX8_isEar_165 ?_
              refine e_zret rfl (by first | exact Or.inl rfl | exact Or.inr rfl | exact bP_01 _) dX8_isEar_166 (by decide) (by decide) ?_
              exact ⟨by rw [show bC (earP L w i) = 0 from bC_f n6], rfl, rfl⟩
    · refine e_iload dX8_isEar_88 rfl ?_
      refine e_iload dX8_isEar_90 rfl ?_
      refine e_icmp_eq (tgt := 106) ⟨by omega, by omega⟩ ⟨by omega, by omega⟩ dX8_isEar_92 rfl (fun c_92 => ?_) (fun c_92 => ?_)
      · have o5 : ¬ othE L i k := fun v => v.2.1 (hL.2.2.2 _ _ hk hi c_92)
        refine e_iconst dX8_isEar_106 ?_
        refine e_top (bP (othE L i k)) (bP_f o5).symm ?_
        refine e_istore dX8_isEar_107 rfl ?_
        refine e_iload dX8_isEar_109 rfl ?_
        refine e_ifP_eq (tgt := 167) dX8_isEar_111 rfl (fun c_111 => ?_) (fun c_111 => ?_)
        · have n5 : othE L i k → ¬ inE L i w k := fun v => absurd v c_111
          refine e_iinc dX8_isEar_167 rfl ?_
          refine e_goto (tgt := 63) dX8_isEar_170 rfl ?_
          exact e_loc [(7, .int (iN (k + 1 : Nat))), (6, .int (iN (pM L (nxt L.length i)))), (5, .int (iN (pM L i))), (4, .int (iN (pM L (prv L.length i)))), (0, .ref m), (1, .int (iN g)), (3, .int (iN w))] ⟨rfl, rfl, rfl, rfl, rfl, rfl, rfl, trivial⟩ (ih (k + 1) (by omega) (fun q hq => if c : q < k then hno q c else by rw [show q = k by omega]; exact n5))
        · refine e_aload_n dX8_isEar_114 rfl ?_
          refine e_iload_n dX8_isEar_115 rfl ?_
          refine e_iload dX8_isEar_116 rfl ?_
          refine e_iload dX8_isEar_118 rfl ?_
          refine e_iload dX8_isEar_120 rfl ?_
          refine e_pureV qcX8_255 X.obj rfl rfl (hL.turn X hS hg hp hi hk) rfl rfl rfl rfl dX8_isEar_122 ?_
          refine e_iconst dX8_isEar_125 ?_
          refine e_iload_n dX8_isEar_126 rfl ?_
          refine e_isub dX8_isEar_127 ?_
          refine e_icmp_eq (tgt := 167) ⟨by omega, by omega⟩ ⟨by omega, by omega⟩ dX8_isEar_128 rfl (fun c_128 => ?_) (fun c_128 => ?_)
          · have n5 : othE L i k → ¬ inE L i w k := fun _ v => absurd c_128 ((sg3 hw t1).mp v.1)
            refine e_iinc dX8_isEar_167 rfl ?_
            refine e_goto (tgt := 63) dX8_isEar_170 rfl ?_
            exact e_loc [(7, .int (iN (k + 1 : Nat))), (6, .int (iN (pM L (nxt L.length i)))), (5, .int (iN (pM L i))), (4, .int (iN (pM L (prv L.length i)))), (0, .ref m), (1, .int (iN g)), (3, .int (iN w))] ⟨rfl, rfl, rfl, rfl, rfl, rfl, rfl, trivial⟩ (ih (k + 1) (by omega) (fun q hq => if c : q < k then hno q c else by rw [show q = k by omega]; exact n5))
          · refine e_aload_n dX8_isEar_131 rfl ?_
            refine e_iload_n dX8_isEar_132 rfl ?_
            refine e_iload dX8_isEar_133 rfl ?_
            refine e_iload dX8_isEar_135 rfl ?_
            refine e_iload dX8_isEar_137 rfl ?_
            refine e_pureV qcX8_255 X.obj rfl rfl (hL.turn X hS hg hi hn hk) rfl rfl rfl rfl dX8_isEar_139 ?_
            refine e_iconst dX8_isEar_142 ?_
            refine e_iload_n dX8_isEar_143 rfl ?_
            refine e_isub dX8_isEar_144 ?_
            refine e_icmp_eq (tgt := 167) ⟨by omega, by omega⟩ ⟨by omega, by omega⟩ dX8_isEar_145 rfl (fun c_145 => ?_) (fun c_145 => ?_)
            · have n5 : othE L i k → ¬ inE L i w k := fun _ v => absurd c_145 ((sg3 hw t2).mp v.2.1)
              refine e_iinc dX8_isEar_167 rfl ?_
              refine e_goto (tgt := 63) dX8_isEar_170 rfl ?_
              exact e_loc [(7, .int (iN (k + 1 : Nat))), (6, .int (iN (pM L (nxt L.length i)))), (5, .int (iN (pM L i))), (4, .int (iN (pM L (prv L.length i)))), (0, .ref m), (1, .int (iN g)), (3, .int (iN w))] ⟨rfl, rfl, rfl, rfl, rfl, rfl, rfl, trivial⟩ (ih (k + 1) (by omega) (fun q hq => if c : q < k then hno q c else by rw [show q = k by omega]; exact n5))
            · refine e_aload_n dX8_isEar_148 rfl ?_
              refine e_iload_n dX8_isEar_149 rfl ?_
              refine e_iload dX8_isEar_150 rfl ?_
              refine e_iload dX8_isEar_152 rfl ?_
              refine e_iload dX8_isEar_154 rfl ?_
              refine e_pureV qcX8_255 X.obj rfl rfl (hL.turn X hS hg hn hp hk) rfl rfl rfl rfl dX8_isEar_156 ?_
              refine e_iconst dX8_isEar_159 ?_
              refine e_iload_n dX8_isEar_160 rfl ?_
              refine e_isub dX8_isEar_161 ?_
              refine e_icmp_eq (tgt := 167) ⟨by omega, by omega⟩ ⟨by omega, by omega⟩ dX8_isEar_162 rfl (fun c_162 => ?_) (fun c_162 => ?_)
              · have n5 : othE L i k → ¬ inE L i w k := fun _ v => absurd c_162 ((sg3 hw t3).mp v.2.2)
                refine e_iinc dX8_isEar_167 rfl ?_
                refine e_goto (tgt := 63) dX8_isEar_170 rfl ?_
                exact e_loc [(7, .int (iN (k + 1 : Nat))), (6, .int (iN (pM L (nxt L.length i)))), (5, .int (iN (pM L i))), (4, .int (iN (pM L (prv L.length i)))), (0, .ref m), (1, .int (iN g)), (3, .int (iN w))] ⟨rfl, rfl, rfl, rfl, rfl, rfl, rfl, trivial⟩ (ih (k + 1) (by omega) (fun q hq => if c : q < k then hno q c else by rw [show q = k by omega]; exact n5))
              · have n6 : ¬ earP L w i := fun v => v.2 k hk c_111 ⟨(sg3 hw t1).mpr c_128, (sg3 hw t2).mpr c_145, (sg3 hw t3).mpr c_162⟩
                refine e_iconst dX8_isEar_165 ?_
                refine e_zret rfl (by first | exact Or.inl rfl | exact Or.inr rfl | exact bP_01 _) dX8_isEar_166 (by decide) (by decide) ?_
                exact ⟨by rw [show bC (earP L w i) = 0 from bC_f n6], rfl, rfl⟩
      · refine e_iload dX8_isEar_95 rfl ?_
        refine e_iload dX8_isEar_97 rfl ?_
        refine e_icmp_eq (tgt := 106) ⟨by omega, by omega⟩ ⟨by omega, by omega⟩ dX8_isEar_99 rfl (fun c_99 => ?_) (fun c_99 => ?_)
        · have o5 : ¬ othE L i k := fun v => v.2.2 (hL.2.2.2 _ _ hk hn c_99)
          refine e_iconst dX8_isEar_106 ?_
          refine e_top (bP (othE L i k)) (bP_f o5).symm ?_
          refine e_istore dX8_isEar_107 rfl ?_
          refine e_iload dX8_isEar_109 rfl ?_
          refine e_ifP_eq (tgt := 167) dX8_isEar_111 rfl (fun c_111 => ?_) (fun c_111 => ?_)
          · have n5 : othE L i k → ¬ inE L i w k := fun v => absurd v c_111
            refine e_iinc dX8_isEar_167 rfl ?_
            refine e_goto (tgt := 63) dX8_isEar_170 rfl ?_
            exact e_loc [(7, .int (iN (k + 1 : Nat))), (6, .int (iN (pM L (nxt L.length i)))), (5, .int (iN (pM L i))), (4, .int (iN (pM L (prv L.length i)))), (0, .ref m), (1, .int (iN g)), (3, .int (iN w))] ⟨rfl, rfl, rfl, rfl, rfl, rfl, rfl, trivial⟩ (ih (k + 1) (by omega) (fun q hq => if c : q < k then hno q c else by rw [show q = k by omega]; exact n5))
          · refine e_aload_n dX8_isEar_114 rfl ?_
            refine e_iload_n dX8_isEar_115 rfl ?_
            refine e_iload dX8_isEar_116 rfl ?_
            refine e_iload dX8_isEar_118 rfl ?_
            refine e_iload dX8_isEar_120 rfl ?_
            refine e_pureV qcX8_255 X.obj rfl rfl (hL.turn X hS hg hp hi hk) rfl rfl rfl rfl dX8_isEar_122 ?_
            refine e_iconst dX8_isEar_125 ?_
            refine e_iload_n dX8_isEar_126 rfl ?_
            refine e_isub dX8_isEar_127 ?_
            refine e_icmp_eq (tgt := 167) ⟨by omega, by omega⟩ ⟨by omega, by omega⟩ dX8_isEar_128 rfl (fun c_128 => ?_) (fun c_128 => ?_)
            · have n5 : othE L i k → ¬ inE L i w k := fun _ v => absurd c_128 ((sg3 hw t1).mp v.1)
              refine e_iinc dX8_isEar_167 rfl ?_
              refine e_goto (tgt := 63) dX8_isEar_170 rfl ?_
              exact e_loc [(7, .int (iN (k + 1 : Nat))), (6, .int (iN (pM L (nxt L.length i)))), (5, .int (iN (pM L i))), (4, .int (iN (pM L (prv L.length i)))), (0, .ref m), (1, .int (iN g)), (3, .int (iN w))] ⟨rfl, rfl, rfl, rfl, rfl, rfl, rfl, trivial⟩ (ih (k + 1) (by omega) (fun q hq => if c : q < k then hno q c else by rw [show q = k by omega]; exact n5))
            · refine e_aload_n dX8_isEar_131 rfl ?_
              refine e_iload_n dX8_isEar_132 rfl ?_
              refine e_iload dX8_isEar_133 rfl ?_
              refine e_iload dX8_isEar_135 rfl ?_
              refine e_iload dX8_isEar_137 rfl ?_
              refine e_pureV qcX8_255 X.obj rfl rfl (hL.turn X hS hg hi hn hk) rfl rfl rfl rfl dX8_isEar_139 ?_
              refine e_iconst dX8_isEar_142 ?_
              refine e_iload_n dX8_isEar_143 rfl ?_
              refine e_isub dX8_isEar_144 ?_
              refine e_icmp_eq (tgt := 167) ⟨by omega, by omega⟩ ⟨by omega, by omega⟩ dX8_isEar_145 rfl (fun c_145 => ?_) (fun c_145 => ?_)
              · have n5 : othE L i k → ¬ inE L i w k := fun _ v => absurd c_145 ((sg3 hw t2).mp v.2.1)
                refine e_iinc dX8_isEar_167 rfl ?_
                refine e_goto (tgt := 63) dX8_isEar_170 rfl ?_
                exact e_loc [(7, .int (iN (k + 1 : Nat))), (6, .int (iN (pM L (nxt L.length i)))), (5, .int (iN (pM L i))), (4, .int (iN (pM L (prv L.length i)))), (0, .ref m), (1, .int (iN g)), (3, .int (iN w))] ⟨rfl, rfl, rfl, rfl, rfl, rfl, rfl, trivial⟩ (ih (k + 1) (by omega) (fun q hq => if c : q < k then hno q c else by rw [show q = k by omega]; exact n5))
              · refine e_aload_n dX8_isEar_148 rfl ?_
                refine e_iload_n dX8_isEar_149 rfl ?_
                refine e_iload dX8_isEar_150 rfl ?_
                refine e_iload dX8_isEar_152 rfl ?_
                refine e_iload dX8_isEar_154 rfl ?_
                refine e_pureV qcX8_255 X.obj rfl rfl (hL.turn X hS hg hn hp hk) rfl rfl rfl rfl dX8_isEar_156 ?_
                refine e_iconst dX8_isEar_159 ?_
                refine e_iload_n dX8_isEar_160 rfl ?_
                refine e_isub dX8_isEar_161 ?_
                refine e_icmp_eq (tgt := 167) ⟨by omega, by omega⟩ ⟨by omega, by omega⟩ dX8_isEar_162 rfl (fun c_162 => ?_) (fun c_162 => ?_)
                · have n5 : othE L i k → ¬ inE L i w k := fun _ v => absurd c_162 ((sg3 hw t3).mp v.2.2)
                  refine e_iinc dX8_isEar_167 rfl ?_
                  refine e_goto (tgt := 63) dX8_isEar_170 rfl ?_
                  exact e_loc [(7, .int (iN (k + 1 : Nat))), (6, .int (iN (pM L (nxt L.length i)))), (5, .int (iN (pM L i))), (4, .int (iN (pM L (prv L.length i)))), (0, .ref m), (1, .int (iN g)), (3, .int (iN w))] ⟨rfl, rfl, rfl, rfl, rfl, rfl, rfl, trivial⟩ (ih (k + 1) (by omega) (fun q hq => if c : q < k then hno q c else by rw [show q = k by omega]; exact n5))
                · have n6 : ¬ earP L w i := fun v => v.2 k hk c_111 ⟨(sg3 hw t1).mpr c_128, (sg3 hw t2).mpr c_145, (sg3 hw t3).mpr c_162⟩
                  refine e_iconst dX8_isEar_165 ?_
                  refine e_zret rfl (by first | exact Or.inl rfl | exact Or.inr rfl | exact bP_01 _) dX8_isEar_166 (by decide) (by decide) ?_
                  exact ⟨by rw [show bC (earP L w i) = 0 from bC_f n6], rfl, rfl⟩
        · have o5 : othE L i k := ⟨fun e => c_85 (by rw [e]), fun e => c_92 (by rw [e]), fun e => c_99 (by rw [e])⟩
          refine e_iconst dX8_isEar_102 ?_
          refine e_top (bP (othE L i k)) (bP_t o5).symm ?_
          refine e_goto (tgt := 107) dX8_isEar_103 rfl ?_
          refine e_istore dX8_isEar_107 rfl ?_
          refine e_iload dX8_isEar_109 rfl ?_
          refine e_ifP_eq (tgt := 167) dX8_isEar_111 rfl (fun c_111 => ?_) (fun c_111 => ?_)
          · have n5 : othE L i k → ¬ inE L i w k := fun v => absurd v c_111
            refine e_iinc dX8_isEar_167 rfl ?_
            refine e_goto (tgt := 63) dX8_isEar_170 rfl ?_
            exact e_loc [(7, .int (iN (k + 1 : Nat))), (6, .int (iN (pM L (nxt L.length i)))), (5, .int (iN (pM L i))), (4, .int (iN (pM L (prv L.length i)))), (0, .ref m), (1, .int (iN g)), (3, .int (iN w))] ⟨rfl, rfl, rfl, rfl, rfl, rfl, rfl, trivial⟩ (ih (k + 1) (by omega) (fun q hq => if c : q < k then hno q c else by rw [show q = k by omega]; exact n5))
          · refine e_aload_n dX8_isEar_114 rfl ?_
            refine e_iload_n dX8_isEar_115 rfl ?_
            refine e_iload dX8_isEar_116 rfl ?_
            refine e_iload dX8_isEar_118 rfl ?_
            refine e_iload dX8_isEar_120 rfl ?_
            refine e_pureV qcX8_255 X.obj rfl rfl (hL.turn X hS hg hp hi hk) rfl rfl rfl rfl dX8_isEar_122 ?_
            refine e_iconst dX8_isEar_125 ?_
            refine e_iload_n dX8_isEar_126 rfl ?_
            refine e_isub dX8_isEar_127 ?_
            refine e_icmp_eq (tgt := 167) ⟨by omega, by omega⟩ ⟨by omega, by omega⟩ dX8_isEar_128 rfl (fun c_128 => ?_) (fun c_128 => ?_)
            · have n5 : othE L i k → ¬ inE L i w k := fun _ v => absurd c_128 ((sg3 hw t1).mp v.1)
              refine e_iinc dX8_isEar_167 rfl ?_
              refine e_goto (tgt := 63) dX8_isEar_170 rfl ?_
              exact e_loc [(7, .int (iN (k + 1 : Nat))), (6, .int (iN (pM L (nxt L.length i)))), (5, .int (iN (pM L i))), (4, .int (iN (pM L (prv L.length i)))), (0, .ref m), (1, .int (iN g)), (3, .int (iN w))] ⟨rfl, rfl, rfl, rfl, rfl, rfl, rfl, trivial⟩ (ih (k + 1) (by omega) (fun q hq => if c : q < k then hno q c else by rw [show q = k by omega]; exact n5))
            · refine e_aload_n dX8_isEar_131 rfl ?_
              refine e_iload_n dX8_isEar_132 rfl ?_
              refine e_iload dX8_isEar_133 rfl ?_
              refine e_iload dX8_isEar_135 rfl ?_
              refine e_iload dX8_isEar_137 rfl ?_
              refine e_pureV qcX8_255 X.obj rfl rfl (hL.turn X hS hg hi hn hk) rfl rfl rfl rfl dX8_isEar_139 ?_
              refine e_iconst dX8_isEar_142 ?_
              refine e_iload_n dX8_isEar_143 rfl ?_
              refine e_isub dX8_isEar_144 ?_
              refine e_icmp_eq (tgt := 167) ⟨by omega, by omega⟩ ⟨by omega, by omega⟩ dX8_isEar_145 rfl (fun c_145 => ?_) (fun c_145 => ?_)
              · have n5 : othE L i k → ¬ inE L i w k := fun _ v => absurd c_145 ((sg3 hw t2).mp v.2.1)
                refine e_iinc dX8_isEar_167 rfl ?_
                refine e_goto (tgt := 63) dX8_isEar_170 rfl ?_
                exact e_loc [(7, .int (iN (k + 1 : Nat))), (6, .int (iN (pM L (nxt L.length i)))), (5, .int (iN (pM L i))), (4, .int (iN (pM L (prv L.length i)))), (0, .ref m), (1, .int (iN g)), (3, .int (iN w))] ⟨rfl, rfl, rfl, rfl, rfl, rfl, rfl, trivial⟩ (ih (k + 1) (by omega) (fun q hq => if c : q < k then hno q c else by rw [show q = k by omega]; exact n5))
              · refine e_aload_n dX8_isEar_148 rfl ?_
                refine e_iload_n dX8_isEar_149 rfl ?_
                refine e_iload dX8_isEar_150 rfl ?_
                refine e_iload dX8_isEar_152 rfl ?_
                refine e_iload dX8_isEar_154 rfl ?_
                refine e_pureV qcX8_255 X.obj rfl rfl (hL.turn X hS hg hn hp hk) rfl rfl rfl rfl dX8_isEar_156 ?_
                refine e_iconst dX8_isEar_159 ?_
                refine e_iload_n dX8_isEar_160 rfl ?_
                refine e_isub dX8_isEar_161 ?_
                refine e_icmp_eq (tgt := 167) ⟨by omega, by omega⟩ ⟨by omega, by omega⟩ dX8_isEar_162 rfl (fun c_162 => ?_) (fun c_162 => ?_)
                · have n5 : othE L i k → ¬ inE L i w k := fun _ v => absurd c_162 ((sg3 hw t3).mp v.2.2)
                  refine e_iinc dX8_isEar_167 rfl ?_
                  refine e_goto (tgt := 63) dX8_isEar_170 rfl ?_
                  exact e_loc [(7, .int (iN (k + 1 : Nat))), (6, .int (iN (pM L (nxt L.length i)))), (5, .int (iN (pM L i))), (4, .int (iN (pM L (prv L.length i)))), (0, .ref m), (1, .int (iN g)), (3, .int (iN w))] ⟨rfl, rfl, rfl, rfl, rfl, rfl, rfl, trivial⟩ (ih (k + 1) (by omega) (fun q hq => if c : q < k then hno q c else by rw [show q = k by omega]; exact n5))
                · have n6 : ¬ earP L w i := fun v => v.2 k hk c_111 ⟨(sg3 hw t1).mpr c_128, (sg3 hw t2).mpr c_145, (sg3 hw t3).mpr c_162⟩
                  refine e_iconst dX8_isEar_165 ?_
                  refine e_zret rfl (by first | exact Or.inl rfl | exact Or.inr rfl | exact bP_01 _) dX8_isEar_166 (by decide) (by decide) ?_
                  exact ⟨by rw [show bC (earP L w i) = 0 from bC_f n6], rfl, rfl⟩
set_option maxRecDepth 20000 in
theorem S_misEar {L : PL} (X : mdX G sc ar m h0 h) (hS : mdS ar S) {g : Nat} (hg : g < 4) (hL : ldR S g sc ar L) {w : Int} (hw : w = 1 ∨ w = -1) {i : Nat} (hi : i < L.length) : Pure G mX8_isEar [.ref m, .int (iN g), .int (iN i), .int (iN w)] h (.int (iN (bC (earP L w i)))) := by
  have l1 := hL.1
  have l2 := hL.2.1
  have hp := prv_lt hi
  have hn := nxt_lt hi
  have t0 : -1 ≤ sd3 L (prv L.length i) i L (nxt L.length i) ∧ sd3 L (prv L.length i) i L (nxt L.length i) ≤ 1 := sg_bd _
  intro z
  refine run_of rfl plX8 rfl ?_
  refine e_aload_n dX8_isEar_0 rfl ?_
  refine e_getf fX8_51 X.obj rfl dX8_isEar_1 ?_
  refine e_iload_n dX8_isEar_4 rfl ?_
  refine e_aload_n dX8_isEar_5 rfl ?_
  refine e_getf fX8_252 X.obj rfl dX8_isEar_6 ?_
  rw [l1]
  refine e_iadd dX8_isEar_9 ?_
  refine e_iconst dX8_isEar_10 ?_
  refine e_isub dX8_isEar_11 ?_
  refine e_aload_n dX8_isEar_12 rfl ?_
  refine e_getf fX8_252 X.obj rfl dX8_isEar_13 ?_
  rw [l1]
  refine e_irem ⟨by omega, by omega⟩ ⟨by omega, by omega⟩ (by omega) dX8_isEar_16 ?_
  rw [tmod_prv hi]
  refine e_ial X.a12 (by omega) (by omega) rfl ((hL.2.2.1 _ hp).elim fun q hq => hq.2.1.trans hq.2.2.1.symm) dX8_isEar_17 ?_
  refine e_istore dX8_isEar_18 rfl ?_
  refine e_aload_n dX8_isEar_20 rfl ?_
  refine e_getf fX8_51 X.obj rfl dX8_isEar_21 ?_
  refine e_iload_n dX8_isEar_24 rfl ?_
  refine e_ial X.a12 (by omega) (by omega) rfl ((hL.2.2.1 i hi).elim fun q hq => hq.2.1.trans hq.2.2.1.symm) dX8_isEar_25 ?_
  refine e_istore dX8_isEar_26 rfl ?_
  refine e_aload_n dX8_isEar_28 rfl ?_
  refine e_getf fX8_51 X.obj rfl dX8_isEar_29 ?_
  refine e_iload_n dX8_isEar_32 rfl ?_
  refine e_iconst dX8_isEar_33 ?_
  refine e_iadd dX8_isEar_34 ?_
  refine e_aload_n dX8_isEar_35 rfl ?_
  refine e_getf fX8_252 X.obj rfl dX8_isEar_36 ?_
  rw [l1]
  refine e_irem ⟨by omega, by omega⟩ ⟨by omega, by omega⟩ (by omega) dX8_isEar_39 ?_
  rw [tmod_nxt hi]
  refine e_ial X.a12 (by omega) (by omega) rfl ((hL.2.2.1 _ hn).elim fun q hq => hq.2.1.trans hq.2.2.1.symm) dX8_isEar_40 ?_
  refine e_istore dX8_isEar_41 rfl ?_
  refine e_aload_n dX8_isEar_43 rfl ?_
  refine e_iload_n dX8_isEar_44 rfl ?_
  refine e_iload dX8_isEar_45 rfl ?_
  refine e_iload dX8_isEar_47 rfl ?_
  refine e_iload dX8_isEar_49 rfl ?_
  refine e_pureV qcX8_255 X.obj rfl rfl (hL.turn X hS hg hp hi hn) rfl rfl rfl rfl dX8_isEar_51 ?_
  refine e_iload_n dX8_isEar_54 rfl ?_
  refine e_icmp_eq (tgt := 60) ⟨by omega, by omega⟩ ⟨by omega, by omega⟩ dX8_isEar_55 rfl (fun c_55 => ?_) (fun c_55 => ?_)
  · refine e_iconst dX8_isEar_60 ?_
    refine e_istore dX8_isEar_61 rfl ?_
    exact e_loc [(7, .int (iN (0 : Nat))), (6, .int (iN (pM L (nxt L.length i)))), (5, .int (iN (pM L i))), (4, .int (iN (pM L (prv L.length i)))), (0, .ref m), (1, .int (iN g)), (3, .int (iN w))] ⟨rfl, rfl, rfl, rfl, rfl, rfl, rfl, trivial⟩ (er_loop8 X hS hg hL hw hi c_55 _ 0 (Nat.zero_add _) (fun q hq => absurd hq (Nat.not_lt_zero _)))
  · have n6 : ¬ earP L w i := fun v => c_55 v.1
    refine e_iconst dX8_isEar_58 ?_
    refine e_zret rfl (by first | exact Or.inl rfl | exact Or.inr rfl | exact bP_01 _) dX8_isEar_59 (by decide) (by decide) ?_
    exact ⟨by rw [show bC (earP L w i) = 0 from bC_f n6], rfl, rfl⟩
theorem tdR.add {T : List Int} (hT : tdR sc ar T) {v : Int} : tdR (uI sc 28 ((T.length : Int) + 1)) (uA ar 13 (uI (ar 13) T.length v)) (T ++ [v]) := by
  refine ⟨by rw [List.length_append, List.length_singleton]; rfl, fun i hi => ?_⟩
  rw [List.length_append, List.length_singleton] at hi
  show uI (ar 13) T.length v i = _
  by_cases c : i < T.length
  · rw [uI_n _ _ (by omega), getD_app.1 c]
    exact hT.2 i c
  · rw [show i = T.length by omega, uI_s, getD_app.2 rfl]
theorem ldR.to {sc' : Nat → Int} {ar' : Nat → Nat → Int} {S : Nat → PL} {g : Nat} {L : PL} (x : ldR S g sc ar L) (h1 : sc' 27 = sc 27) (h2 : ar' 12 = ar 12) : ldR S g sc' ar' L := by
  unfold ldR
  rw [h1, h2]
  exact x
theorem tdR.to {sc' : Nat → Int} {ar' : Nat → Nat → Int} {T : List Int} (x : tdR sc ar T) (h1 : sc' 28 = sc 28) (h2 : ar' 13 = ar 13) : tdR sc' ar' T := by
  unfold tdR
  rw [h1, h2]
  exact x
set_option maxRecDepth 20000 in
theorem S_cuts {T : List Int} (X : mdX G sc ar m h0 h) (hT : tdR sc ar T) (hl : T.length < 16) {a c d : Int} : Does G mX8_cuts [.ref m, .int (iN a), .int (iN c), .int (iN d)] h (fun v h1 => v = none ∧ mdX G (uI sc 28 ((T.length : Int) + 1)) (uA ar 13 (uI (ar 13) T.length (10000 * a + 100 * c + d))) m h0 h1) := by
  have t1 := hT.1
  intro z
  refine run_of rfl plX8 rfl ?_
  refine e_aload_n dX8_cuts_0 rfl ?_
  refine e_getf fX8_54 X.obj rfl dX8_cuts_1 ?_
  refine e_aload_n dX8_cuts_4 rfl ?_
  refine e_getf fX8_259 X.obj rfl dX8_cuts_5 ?_
  rw [t1]
  refine e_sipush dX8_cuts_8 (by decide) ?_
  refine e_iload_n dX8_cuts_11 rfl ?_
  refine e_imul dX8_cuts_12 ?_
  refine e_bipush dX8_cuts_13 (by decide) ?_
  refine e_iload_n dX8_cuts_15 rfl ?_
  refine e_imul dX8_cuts_16 ?_
  refine e_iadd dX8_cuts_17 ?_
  refine e_iload_n dX8_cuts_18 rfl ?_
  refine e_iadd dX8_cuts_19 ?_
  refine e_iastore X.a13 (by omega) (by omega) rfl dX8_cuts_20 ?_
  refine X.sto13 (fun h9 X9 => ?_)
  replace X := X9
  clear X9
  refine e_aload_n dX8_cuts_21 rfl ?_
  refine e_dup dX8_cuts_22 rfl ?_
  refine e_getf fX8_259 X.obj rfl dX8_cuts_23 ?_
  rw [show sc 28 = (T.length : Int) from t1]
  refine e_iconst dX8_cuts_26 ?_
  refine e_iadd dX8_cuts_27 ?_
  refine e_putf pfX8_259 X.obj rfl rfl rfl dX8_cuts_28 ?_
  refine X.pto (q := 28) (fun h9 X9 => ?_) rfl
  replace X := X9
  clear X9
  refine e_vret rfl dX8_cuts_31 (by decide) (by decide) ?_
  exact ⟨none, rfl, rfl, rfl, X⟩
set_option maxRecDepth 20000 in
theorem pr_find {Z : g_Z} {z : Option Nat} {L : PL} (X : mdX G sc ar m h0 h) (hS : mdS ar S) {g : Nat} (hg : g < 4) (hL : ldR S g sc ar L) {w : Int} (hw : w = 1 ∨ w = -1) (kk : Ev (g_B G mX8_parts 0 0 Z) 0 0 z h 86 [(3, .int (iN ((match fE L w with | none => L.length | some e => e) : Nat))), (0, .ref m), (1, .int (iN g)), (2, .int (iN w))] []) : ∀ (n p : Nat), p + n = L.length → fEa L w n p = fE L w → Ev (g_B G mX8_parts 0 0 Z) 0 0 z h 62 [(3, .int (iN (p : Nat))), (0, .ref m), (1, .int (iN g)), (2, .int (iN w))] [] := by
  have l1 := hL.1
  have l2 := hL.2.1
  intro n
  induction n with
  | zero =>
    intro p hpn hE
    have e9 : fE L w = none := hE.symm
    rw [e9] at kk
    refine e_iload_n dX8_parts_62 rfl ?_
    refine e_aload_n dX8_parts_63 rfl ?_
    refine e_getf fX8_252 X.obj rfl dX8_parts_64 ?_
    rw [l1]
    refine e_icmp_ge (tgt := 86) ⟨by omega, by omega⟩ ⟨by omega, by omega⟩ dX8_parts_67 rfl (fun c_67 => ?_) (fun c_67 => absurd (by omega) c_67)
    exact e_loc [(3, .int (iN (L.length : Nat))), (0, .ref m), (1, .int (iN g)), (2, .int (iN w))] ⟨by rw [← hpn]; rfl, rfl, rfl, rfl, trivial⟩ kk
  | succ n ih =>
    intro p hpn hE
    have hp : p < L.length := by omega
    letI : Decidable (earP L w p) := Classical.propDecidable _
    refine e_iload_n dX8_parts_62 rfl ?_
    refine e_aload_n dX8_parts_63 rfl ?_
    refine e_getf fX8_252 X.obj rfl dX8_parts_64 ?_
    rw [l1]
    refine e_icmp_ge (tgt := 86) ⟨by omega, by omega⟩ ⟨by omega, by omega⟩ dX8_parts_67 rfl (fun c_67 => absurd c_67 (by omega)) (fun c_67 => ?_)
    refine e_aload_n dX8_parts_70 rfl ?_
    refine e_iload_n dX8_parts_71 rfl ?_
    refine e_iload_n dX8_parts_72 rfl ?_
    refine e_iload_n dX8_parts_73 rfl ?_
    refine e_pureV qcX8_262 X.obj rfl rfl (S_misEar X hS hg hL hw hp) rfl rfl rfl rfl dX8_parts_74 ?_
    refine e_ifP_ne (tgt := 86) dX8_parts_77 rfl (fun c_77 => ?_) (fun c_77 => ?_)
    · have e9 : fE L w = some p := hE.symm.trans (if_pos c_77)
      rw [e9] at kk
      exact e_loc [(3, .int (iN (p : Nat))), (0, .ref m), (1, .int (iN g)), (2, .int (iN w))] ⟨rfl, rfl, rfl, rfl, trivial⟩ kk
    · have e9 : fEa L w n (p + 1) = fE L w := (if_neg c_77).symm.trans hE
      refine e_iinc dX8_parts_80 rfl ?_
      refine e_goto (tgt := 62) dX8_parts_83 rfl ?_
      exact e_loc [(3, .int (iN (p + 1 : Nat))), (0, .ref m), (1, .int (iN g)), (2, .int (iN w))] ⟨rfl, rfl, rfl, rfl, trivial⟩ (ih (p + 1) (by omega) e9)
/-- below k the array is as it shall be, from k + 1 on as it was -/
def shR (L : PL) (e k : Nat) (ar1 : Nat → Nat → Int) : Prop := (∀ i, i < k → ar1 12 i = pM (L.eraseIdx e) i) ∧ ∀ i, k < i → i < L.length → ar1 12 i = pM L i
theorem pM_erase {L : PL} {e i : Nat} : pM (L.eraseIdx e) i = (if i < e then pM L i else pM L (i + 1)) ∧ pX (L.eraseIdx e) i = (if i < e then pX L i else pX L (i + 1)) ∧ pY (L.eraseIdx e) i = (if i < e then pY L i else pY L (i + 1)) := by
  unfold pM pX pY
  rw [eraseIdx_getD]
  split <;> exact ⟨rfl, rfl, rfl⟩
set_option maxRecDepth 20000 in
theorem pr_shift {Z : g_Z} {z : Option Nat} {L : PL} {g e : Nat} {w : Int} (he : e < L.length) (hl : L.length ≤ 16) (kk : ∀ ar2 h, mdX G sc ar2 m h0 h → (∀ j, j ≠ 12 → ar2 j = ar j) → (∀ i, i < L.length - 1 → ar2 12 i = pM (L.eraseIdx e) i) → Ev (g_B G mX8_parts 0 0 Z) 0 0 z h 52 [(0, .ref m), (1, .int (iN g)), (2, .int (iN w))] []) (h27 : sc 27 = ((L.length - 1 : Nat) : Int)) : ∀ (n k : Nat) (ar1 : Nat → Nat → Int) (h : g_hp), mdX G sc ar1 m h0 h → (∀ j, j ≠ 12 → ar1 j = ar j) → shR L e k ar1 → e ≤ k → k + n = L.length - 1 → Ev (g_B G mX8_parts 0 0 Z) 0 0 z h 149 [(4, .int (iN (k : Nat))), (0, .ref m), (1, .int (iN g)), (2, .int (iN w))] [] := by
  intro n
  induction n with
  | zero =>
    intro k ar1 h X hA hI hek hkn
    have e9 : k = L.length - 1 := by omega
    refine e_iload dX8_parts_149 rfl ?_
    refine e_aload_n dX8_parts_151 rfl ?_
    refine e_getf fX8_252 X.obj rfl dX8_parts_152 ?_
    rw [h27]
    refine e_icmp_ge (tgt := 180) ⟨by omega, by omega⟩ ⟨by omega, by omega⟩ dX8_parts_155 rfl (fun c_155 => ?_) (fun c_155 => absurd (by omega) c_155)
    refine e_goto (tgt := 52) dX8_parts_180 rfl ?_
    exact e_loc [(0, .ref m), (1, .int (iN g)), (2, .int (iN w))] ⟨rfl, rfl, rfl, trivial⟩ (kk _ _ X hA (fun i hi => hI.1 i (by omega)))
  | succ n ih =>
    intro k ar1 h X hA hI hek hkn
    have hv := hI.2 (k + 1) (by omega) (by omega)
    refine e_iload dX8_parts_149 rfl ?_
    refine e_aload_n dX8_parts_151 rfl ?_
    refine e_getf fX8_252 X.obj rfl dX8_parts_152 ?_
    rw [h27]
    refine e_icmp_ge (tgt := 180) ⟨by omega, by omega⟩ ⟨by omega, by omega⟩ dX8_parts_155 rfl (fun c_155 => absurd c_155 (by omega)) (fun c_155 => ?_)
    refine e_aload_n dX8_parts_158 rfl ?_
    refine e_getf fX8_51 X.obj rfl dX8_parts_159 ?_
    refine e_iload dX8_parts_162 rfl ?_
    refine e_aload_n dX8_parts_164 rfl ?_
    refine e_getf fX8_51 X.obj rfl dX8_parts_165 ?_
    refine e_iload dX8_parts_168 rfl ?_
    refine e_iconst dX8_parts_170 ?_
    refine e_iadd dX8_parts_171 ?_
    refine e_ial X.a12 (by omega) (by omega) rfl hv dX8_parts_172 ?_
    refine e_iastore X.a12 (by omega) (by omega) rfl dX8_parts_173 ?_
    refine X.sto12 (fun h9 X9 => ?_)
    replace X := X9
    clear X9
    refine e_iinc dX8_parts_174 rfl ?_
    refine e_goto (tgt := 149) dX8_parts_177 rfl ?_
    exact e_loc [(4, .int (iN (k + 1 : Nat))), (0, .ref m), (1, .int (iN g)), (2, .int (iN w))] ⟨rfl, rfl, rfl, rfl, trivial⟩ (ih (k + 1) _ _ X (fun j hj => (uA_n hj).trans (hA j hj)) ⟨fun i hi => by
      show uI (ar1 12) k (pM L (k + 1)) i = _
      by_cases c : i = k
      · rw [c, uI_s, pM_erase.1, if_neg (by omega)]
      · rw [uI_n _ _ c]
        exact hI.1 i (by omega), fun i h1 h2 => by
      show uI (ar1 12) k (pM L (k + 1)) i = _
      rw [uI_n _ _ (by omega)]
      exact hI.2 i (by omega) h2⟩ (by omega) (by omega))
theorem ldR.erase {S : Nat → PL} {g : Nat} {L : PL} (x : ldR S g sc ar L) {e : Nat} (he : e < L.length) {sc' : Nat → Int} {ar' : Nat → Nat → Int} (h27 : sc' 27 = ((L.length - 1 : Nat) : Int)) (h12 : ∀ i, i < L.length - 1 → ar' 12 i = pM (L.eraseIdx e) i) : ldR S g sc' ar' (L.eraseIdx e) := by
  have el : (L.eraseIdx e).length = L.length - 1 := by rw [List.length_eraseIdx, if_pos he]
  obtain ⟨x1, x2, x3, x4⟩ := x
  refine ⟨by rw [el]; exact h27, by omega, fun i hi => ?_, fun i j hi hj hM => ?_⟩
  · rw [el] at hi
    rw [h12 i hi, pM_erase.1, pM_erase.2.1, pM_erase.2.2]
    by_cases c : i < e
    · obtain ⟨q, a1, -, a3, a4, a5⟩ := x3 i (by omega)
      rw [if_pos c, if_pos c, if_pos c]
      exact ⟨q, a1, a3, a3, a4, a5⟩
    · obtain ⟨q, a1, -, a3, a4, a5⟩ := x3 (i + 1) (by omega)
      rw [if_neg c, if_neg c, if_neg c]
      exact ⟨q, a1, a3, a3, a4, a5⟩
  · rw [el] at hi hj
    rw [pM_erase.1, pM_erase.1] at hM
    by_cases c : i < e <;> by_cases d : j < e
    · rw [if_pos c, if_pos d] at hM; exact x4 i j (by omega) (by omega) hM
    · rw [if_pos c, if_neg d] at hM; have := x4 i (j + 1) (by omega) (by omega) hM; omega
    · rw [if_neg c, if_pos d] at hM; have := x4 (i + 1) j (by omega) (by omega) hM; omega
    · rw [if_neg c, if_neg d] at hM; have := x4 (i + 1) (j + 1) (by omega) (by omega) hM; omega
set_option maxRecDepth 20000 in
theorem pr_loop {z : Option Nat} {R : List Int} {g : Nat} (hg : g < 4) {w : Int} (hw : w = 1 ∨ w = -1) : ∀ (f : Nat) (L : PL) (T : List Int) (a : Int) (sc1 : Nat → Int) (ar1 : Nat → Nat → Int) (h : g_hp), mdX G sc1 ar1 m h0 h → mdS ar1 S → agr [27, 28] [12, 13] sc ar sc1 ar1 → ldR S g sc1 ar1 L → tdR sc1 ar1 T → 3 ≤ L.length → L.length ≤ f + 3 → T.length + L.length ≤ 16 → (parF w f L T a).2.1 = R → Ev (g_B G mX8_parts 0 0 (fun o z1 h1 => ∃ v, o = .inl v ∧ z1 = z ∧ (fun v h1 => v = none ∧ ∃ sc1 ar1, mdX G sc1 ar1 m h0 h1 ∧ agr [27, 28] [12, 13] sc ar sc1 ar1 ∧ tdR sc1 ar1 R) v h1)) 0 0 z h 52 [(0, .ref m), (1, .int (iN g)), (2, .int (iN w))] [] := by
  intro f
  induction f with
  | zero =>
    intro L T a sc1 ar1 h X hS hA hL hT h3 hf hTL hR
    have l1 := hL.1
    have e9 : L.length = 3 := by omega
    have e8 : R = T ++ [tri3 L 0 1 2] := by rw [← hR]; show (parZ L T a).2.1 = _; unfold parZ; rw [if_pos e9]
    refine e_aload_n dX8_parts_52 rfl ?_
    refine e_getf fX8_252 X.obj rfl dX8_parts_53 ?_
    refine e_iconst dX8_parts_56 ?_
    refine e_icmp_le (tgt := 183) ⟨by omega, by omega⟩ ⟨by omega, by omega⟩ dX8_parts_57 rfl (fun c_57 => ?_) (fun c_57 => absurd (by omega) c_57)
    refine e_aload_n dX8_parts_183 rfl ?_
    refine e_aload_n dX8_parts_184 rfl ?_
    refine e_getf fX8_51 X.obj rfl dX8_parts_185 ?_
    refine e_iconst dX8_parts_188 ?_
    refine e_ial X.a12 (by omega) (by omega) rfl ((hL.2.2.1 0 (by omega)).elim fun q hq => hq.2.1.trans hq.2.2.1.symm) dX8_parts_189 ?_
    refine e_aload_n dX8_parts_190 rfl ?_
    refine e_getf fX8_51 X.obj rfl dX8_parts_191 ?_
    refine e_iconst dX8_parts_194 ?_
    refine e_ial X.a12 (by omega) (by omega) rfl ((hL.2.2.1 1 (by omega)).elim fun q hq => hq.2.1.trans hq.2.2.1.symm) dX8_parts_195 ?_
    refine e_aload_n dX8_parts_196 rfl ?_
    refine e_getf fX8_51 X.obj rfl dX8_parts_197 ?_
    refine e_iconst dX8_parts_200 ?_
    refine e_ial X.a12 (by omega) (by omega) rfl ((hL.2.2.1 2 (by omega)).elim fun q hq => hq.2.1.trans hq.2.2.1.symm) dX8_parts_201 ?_
    refine e_doesV qcX8_265 X.obj rfl rfl (S_cuts X hT (by omega)) rfl rfl rfl rfl dX8_parts_202 ?_
    intro v h9 q9
    obtain ⟨rfl, X⟩ := q9
    refine e_vret rfl dX8_parts_205 (by decide) (by decide) ?_
    exact ⟨none, rfl, rfl, rfl, _, _, X, (hA.pj (by decide)).pk (by decide), by rw [e8]; exact hT.add⟩
  | succ f ih =>
    intro L T a sc1 ar1 h X hS hA hL hT h3 hf hTL hR
    have l1 := hL.1
    have l2 := hL.2.1
    have hP9 : parF w (f + 1) L T a = parS w L T a (parF w f) := rfl
    by_cases c3 : 3 < L.length
    · refine e_aload_n dX8_parts_52 rfl ?_
      refine e_getf fX8_252 X.obj rfl dX8_parts_53 ?_
      refine e_iconst dX8_parts_56 ?_
      refine e_icmp_le (tgt := 183) ⟨by omega, by omega⟩ ⟨by omega, by omega⟩ dX8_parts_57 rfl (fun c_57 => absurd c_57 (by omega)) (fun c_57 => ?_)
      refine e_iconst dX8_parts_60 ?_
      refine e_istore_n dX8_parts_61 rfl ?_
      refine e_loc [(3, .int (iN (0 : Nat))), (0, .ref m), (1, .int (iN g)), (2, .int (iN w))] ⟨rfl, rfl, rfl, rfl, trivial⟩ (pr_find X hS hg hL hw ?_ _ 0 (Nat.zero_add _) rfl)
      cases hE : fE L w with
      | none =>
        show Ev _ 0 0 z _ 86 [(3, .int (iN (L.length : Nat))), (0, .ref m), (1, .int (iN g)), (2, .int (iN w))] []
        refine e_iload_n dX8_parts_86 rfl ?_
        refine e_aload_n dX8_parts_87 rfl ?_
        refine e_getf fX8_252 X.obj rfl dX8_parts_88 ?_
        rw [l1]
        refine e_icmp_ne (tgt := 95) ⟨by omega, by omega⟩ ⟨by omega, by omega⟩ dX8_parts_91 rfl (fun c_91 => absurd rfl c_91) (fun c_91 => ?_)
        refine e_vret rfl dX8_parts_94 (by decide) (by decide) ?_
        exact ⟨none, rfl, rfl, rfl, _, _, X, hA, by rw [← hR, hP9, parS_n c3 hE]; exact hT⟩
      | some e =>
        show Ev _ 0 0 z _ 86 [(3, .int (iN (e : Nat))), (0, .ref m), (1, .int (iN g)), (2, .int (iN w))] []
        have he := fE_lt hE
        have hp := prv_lt he
        have hn := nxt_lt he
        refine e_iload_n dX8_parts_86 rfl ?_
        refine e_aload_n dX8_parts_87 rfl ?_
        refine e_getf fX8_252 X.obj rfl dX8_parts_88 ?_
        rw [l1]
        refine e_icmp_ne (tgt := 95) ⟨by omega, by omega⟩ ⟨by omega, by omega⟩ dX8_parts_91 rfl (fun c_91 => ?_) (fun c_91 => absurd (by omega) c_91)
        refine e_aload_n dX8_parts_95 rfl ?_
        refine e_aload_n dX8_parts_96 rfl ?_
        refine e_getf fX8_51 X.obj rfl dX8_parts_97 ?_
        refine e_iload_n dX8_parts_100 rfl ?_
        refine e_aload_n dX8_parts_101 rfl ?_
        refine e_getf fX8_252 X.obj rfl dX8_parts_102 ?_
        rw [l1]
        refine e_iadd dX8_parts_105 ?_
        refine e_iconst dX8_parts_106 ?_
        refine e_isub dX8_parts_107 ?_
        refine e_aload_n dX8_parts_108 rfl ?_
        refine e_getf fX8_252 X.obj rfl dX8_parts_109 ?_
        rw [l1]
        refine e_irem ⟨by omega, by omega⟩ ⟨by omega, by omega⟩ (by omega) dX8_parts_112 ?_
        rw [tmod_prv he]
        refine e_ial X.a12 (by omega) (by omega) rfl ((hL.2.2.1 _ hp).elim fun q hq => hq.2.1.trans hq.2.2.1.symm) dX8_parts_113 ?_
        refine e_aload_n dX8_parts_114 rfl ?_
        refine e_getf fX8_51 X.obj rfl dX8_parts_115 ?_
        refine e_iload_n dX8_parts_118 rfl ?_
        refine e_ial X.a12 (by omega) (by omega) rfl ((hL.2.2.1 e he).elim fun q hq => hq.2.1.trans hq.2.2.1.symm) dX8_parts_119 ?_
        refine e_aload_n dX8_parts_120 rfl ?_
        refine e_getf fX8_51 X.obj rfl dX8_parts_121 ?_
        refine e_iload_n dX8_parts_124 rfl ?_
        refine e_iconst dX8_parts_125 ?_
        refine e_iadd dX8_parts_126 ?_
        refine e_aload_n dX8_parts_127 rfl ?_
        refine e_getf fX8_252 X.obj rfl dX8_parts_128 ?_
        rw [l1]
        refine e_irem ⟨by omega, by omega⟩ ⟨by omega, by omega⟩ (by omega) dX8_parts_131 ?_
        rw [tmod_nxt he]
        refine e_ial X.a12 (by omega) (by omega) rfl ((hL.2.2.1 _ hn).elim fun q hq => hq.2.1.trans hq.2.2.1.symm) dX8_parts_132 ?_
        refine e_doesV qcX8_265 X.obj rfl rfl (S_cuts X hT (by omega)) rfl rfl rfl rfl dX8_parts_133 ?_
        intro v h9 q9
        obtain ⟨rfl, X⟩ := q9
        have hT2 := hT.add (v := 10000 * pM L (prv L.length e) + 100 * pM L e + pM L (nxt L.length e))
        have hA2 := (hA.pj (j := 13) (g := uI (ar1 13) T.length (10000 * pM L (prv L.length e) + 100 * pM L e + pM L (nxt L.length e))) (by decide)).pk (k := 28) (v := (T.length : Int) + 1) (by decide)
        have hL2 := hL.to (sc' := uI sc1 28 ((T.length : Int) + 1)) (ar' := uA ar1 13 (uI (ar1 13) T.length (10000 * pM L (prv L.length e) + 100 * pM L e + pM L (nxt L.length e)))) rfl rfl
        have hS2 : mdS (uA ar1 13 (uI (ar1 13) T.length (10000 * pM L (prv L.length e) + 100 * pM L e + pM L (nxt L.length e)))) S := hS
        generalize uI sc1 28 ((T.length : Int) + 1) = sc2 at X hT2 hA2 hL2
        generalize uA ar1 13 (uI (ar1 13) T.length (10000 * pM L (prv L.length e) + 100 * pM L e + pM L (nxt L.length e))) = ar2 at X hT2 hA2 hL2 hS2
        have l1 := hL2.1
        refine e_aload_n dX8_parts_136 rfl ?_
        refine e_dup dX8_parts_137 rfl ?_
        refine e_getf fX8_252 X.obj rfl dX8_parts_138 ?_
        rw [l1]
        refine e_iconst dX8_parts_141 ?_
        refine e_isub dX8_parts_142 ?_
        refine e_putf pfX8_252 X.obj rfl rfl rfl dX8_parts_143 ?_
        refine X.pto (q := 27) (fun h9 X9 => ?_) rfl
        replace X := X9
        clear X9
        refine e_iload_n dX8_parts_146 rfl ?_
        refine e_istore dX8_parts_147 rfl ?_
        refine e_loc [(4, .int (iN (e : Nat))), (0, .ref m), (1, .int (iN g)), (2, .int (iN w))] ⟨rfl, rfl, rfl, rfl, trivial⟩ (pr_shift (L := L) (ar := ar2) he (by omega) (fun ar3 h X hB h12 => ?_) (show uI sc2 27 ((L.length : Int) - 1) 27 = _ by rw [uI_s]; omega) _ e _ _ X (fun _ _ => rfl) ⟨fun i hi => ?_, fun i h1 h2 => ?_⟩ (Nat.le_refl _) (show e + (L.length - 1 - e) = L.length - 1 by omega))
        · have hA3 : agr [27, 28] [12, 13] sc ar (uI sc2 27 ((L.length : Int) - 1)) ar3 := ⟨(hA2.pk (k := 27) (v := (L.length : Int) - 1) (by decide)).1, fun j hj => (hB j (fun w => hj (by rw [w]; decide))).trans (hA2.2 j hj)⟩
          have el : (L.eraseIdx e).length = L.length - 1 := by rw [List.length_eraseIdx, if_pos he]
          have hS3 : mdS ar3 S := by
            unfold mdS
            rw [hB 9 (by decide), hB 10 (by decide), hB 11 (by decide)]
            exact hS2
          exact ih (L.eraseIdx e) (T ++ [tri3 L (prv L.length e) e (nxt L.length e)]) (a + ab3 L (prv L.length e) e (nxt L.length e)) _ _ _ X hS3 hA3 (hL2.erase he (by rw [uI_s]; omega) h12) (hT2.to rfl (hB 13 (by decide))) (by omega) (by omega) (by rw [List.length_append, List.length_singleton]; omega) (by rw [← hR, hP9, parS_s c3 hE])
        · rw [pM_erase.1, if_pos hi]
          exact (hL2.2.2.1 i (by omega)).elim fun q hq => hq.2.1.trans hq.2.2.1.symm
        · exact (hL2.2.2.1 i h2).elim fun q hq => hq.2.1.trans hq.2.2.1.symm
    have e9 : L.length = 3 := by omega
    have e8 : R = T ++ [tri3 L 0 1 2] := by rw [← hR, hP9, parS_z c3]; unfold parZ; rw [if_pos e9]
    refine e_aload_n dX8_parts_52 rfl ?_
    refine e_getf fX8_252 X.obj rfl dX8_parts_53 ?_
    refine e_iconst dX8_parts_56 ?_
    refine e_icmp_le (tgt := 183) ⟨by omega, by omega⟩ ⟨by omega, by omega⟩ dX8_parts_57 rfl (fun c_57 => ?_) (fun c_57 => absurd (by omega) c_57)
    refine e_aload_n dX8_parts_183 rfl ?_
    refine e_aload_n dX8_parts_184 rfl ?_
    refine e_getf fX8_51 X.obj rfl dX8_parts_185 ?_
    refine e_iconst dX8_parts_188 ?_
    refine e_ial X.a12 (by omega) (by omega) rfl ((hL.2.2.1 0 (by omega)).elim fun q hq => hq.2.1.trans hq.2.2.1.symm) dX8_parts_189 ?_
    refine e_aload_n dX8_parts_190 rfl ?_
    refine e_getf fX8_51 X.obj rfl dX8_parts_191 ?_
    refine e_iconst dX8_parts_194 ?_
    refine e_ial X.a12 (by omega) (by omega) rfl ((hL.2.2.1 1 (by omega)).elim fun q hq => hq.2.1.trans hq.2.2.1.symm) dX8_parts_195 ?_
    refine e_aload_n dX8_parts_196 rfl ?_
    refine e_getf fX8_51 X.obj rfl dX8_parts_197 ?_
    refine e_iconst dX8_parts_200 ?_
    refine e_ial X.a12 (by omega) (by omega) rfl ((hL.2.2.1 2 (by omega)).elim fun q hq => hq.2.1.trans hq.2.2.1.symm) dX8_parts_201 ?_
    refine e_doesV qcX8_265 X.obj rfl rfl (S_cuts X hT (by omega)) rfl rfl rfl rfl dX8_parts_202 ?_
    intro v h9 q9
    obtain ⟨rfl, X⟩ := q9
    refine e_vret rfl dX8_parts_205 (by decide) (by decide) ?_
    exact ⟨none, rfl, rfl, rfl, _, _, X, (hA.pj (by decide)).pk (by decide), by rw [e8]; exact hT.add⟩
set_option maxRecDepth 20000 in
theorem pr_init {Z : g_Z} {z : Option Nat} {g n9 : Nat} {w : Int} (hn : n9 ≤ 16) (h27 : sc 27 = (n9 : Int)) (kk : ∀ ar2 h, mdX G sc ar2 m h0 h → (∀ j, j ≠ 12 → ar2 j = ar j) → (∀ i, i < n9 → ar2 12 i = (i : Int)) → Ev (g_B G mX8_parts 0 0 Z) 0 0 z h 52 [(0, .ref m), (1, .int (iN g)), (2, .int (iN w))] []) : ∀ (n k : Nat) (ar1 : Nat → Nat → Int) (h : g_hp), mdX G sc ar1 m h0 h → (∀ j, j ≠ 12 → ar1 j = ar j) → (∀ i, i < k → ar1 12 i = (i : Int)) → k + n = n9 → Ev (g_B G mX8_parts 0 0 Z) 0 0 z h 31 [(3, .int (iN (k : Nat))), (0, .ref m), (1, .int (iN g)), (2, .int (iN w))] [] := by
  intro n
  induction n with
  | zero =>
    intro k ar1 h X hA hI hkn
    have e9 : k = n9 := by omega
    refine e_iload_n dX8_parts_31 rfl ?_
    refine e_aload_n dX8_parts_32 rfl ?_
    refine e_getf fX8_252 X.obj rfl dX8_parts_33 ?_
    rw [h27]
    refine e_icmp_ge (tgt := 52) ⟨by omega, by omega⟩ ⟨by omega, by omega⟩ dX8_parts_36 rfl (fun c_36 => ?_) (fun c_36 => absurd (by omega) c_36)
    exact e_loc [(0, .ref m), (1, .int (iN g)), (2, .int (iN w))] ⟨rfl, rfl, rfl, trivial⟩ (kk _ _ X hA (fun i hi => hI i (by omega)))
  | succ n ih =>
    intro k ar1 h X hA hI hkn
    refine e_iload_n dX8_parts_31 rfl ?_
    refine e_aload_n dX8_parts_32 rfl ?_
    refine e_getf fX8_252 X.obj rfl dX8_parts_33 ?_
    rw [h27]
    refine e_icmp_ge (tgt := 52) ⟨by omega, by omega⟩ ⟨by omega, by omega⟩ dX8_parts_36 rfl (fun c_36 => absurd c_36 (by omega)) (fun c_36 => ?_)
    refine e_aload_n dX8_parts_39 rfl ?_
    refine e_getf fX8_51 X.obj rfl dX8_parts_40 ?_
    refine e_iload_n dX8_parts_43 rfl ?_
    refine e_iload_n dX8_parts_44 rfl ?_
    refine e_iastore X.a12 (by omega) (by omega) rfl dX8_parts_45 ?_
    refine X.sto12 (fun h9 X9 => ?_)
    replace X := X9
    clear X9
    refine e_iinc dX8_parts_46 rfl ?_
    refine e_goto (tgt := 31) dX8_parts_49 rfl ?_
    exact e_loc [(3, .int (iN (k + 1 : Nat))), (0, .ref m), (1, .int (iN g)), (2, .int (iN w))] ⟨rfl, rfl, rfl, rfl, trivial⟩ (ih (k + 1) _ _ X (fun j hj => (uA_n hj).trans (hA j hj)) (fun i hi => by
      show uI (ar1 12) k (k : Int) i = _
      by_cases c : i = k
      · rw [c, uI_s]
      · rw [uI_n _ _ c]
        exact hI i (by omega)) (by omega))
set_option maxRecDepth 20000 in
theorem S_parts (X : mdX G sc ar m h0 h) (hS : mdS ar S) {g : Nat} (hg : g < 4) (h3 : 3 ≤ (S g).length) (hd : da (S g) ≠ 0) (hmk : ∀ i, i < (S g).length → pM (S g) i = (i : Int)) : Does G mX8_parts [.ref m, .int (iN g)] h (fun v h1 => v = none ∧ ∃ sc1 ar1, mdX G sc1 ar1 m h0 h1 ∧ agr [27, 28] [12, 13] sc ar sc1 ar1 ∧ tdR sc1 ar1 (parD (S g)).2.1) := by
  obtain ⟨s1, s2, s3, s4⟩ := hS g hg
  have db := da_bd (L := (S g)) (fun e he => by
    obtain ⟨i, hi, rfl⟩ := List.mem_iff_getElem.mp he
    have := s3 i hi
    unfold pX pY pM at this
    rw [getD_at hi] at this
    exact ⟨⟨by omega, by omega⟩, ⟨by omega, by omega⟩, ⟨by omega, by omega⟩⟩) (by omega)
  have hw : sg (da (S g)) = 1 ∨ sg (da (S g)) = -1 := by unfold sg; split <;> (try split) <;> omega
  intro z
  refine run_of rfl plX8 rfl ?_
  refine e_aload_n dX8_parts_0 rfl ?_
  refine e_iload_n dX8_parts_1 rfl ?_
  refine e_pureV qcX8_242 X.obj rfl rfl (S_doubledOf X hS hg) rfl rfl rfl rfl dX8_parts_2 ?_
  refine e_if_le (tgt := 12) ⟨by omega, by omega⟩ dX8_parts_5 rfl (fun c_5 => ?_) (fun c_5 => ?_)
  · refine e_iconst dX8_parts_12 ?_
    refine e_top (sg (da (S g))) (by unfold sg; rw [if_neg (by omega), if_pos (by omega)]) ?_
    refine e_istore_n dX8_parts_13 rfl ?_
    refine e_aload_n dX8_parts_14 rfl ?_
    refine e_aload_n dX8_parts_15 rfl ?_
    refine e_getf fX8_48 X.obj rfl dX8_parts_16 ?_
    refine e_iload_n dX8_parts_19 rfl ?_
    refine e_ial X.a11 (by omega) (by omega) rfl s1 dX8_parts_20 ?_
    refine e_putf pfX8_252 X.obj rfl rfl rfl dX8_parts_21 ?_
    refine X.pto (q := 27) (fun h9 X9 => ?_) rfl
    replace X := X9
    clear X9
    refine e_aload_n dX8_parts_24 rfl ?_
    refine e_iconst dX8_parts_25 ?_
    refine e_putf pfX8_259 X.obj rfl rfl rfl dX8_parts_26 ?_
    refine X.pto (q := 28) (fun h9 X9 => ?_) rfl
    replace X := X9
    clear X9
    refine e_iconst dX8_parts_29 ?_
    refine e_istore_n dX8_parts_30 rfl ?_
    refine e_loc [(3, .int (iN (0 : Nat))), (0, .ref m), (1, .int (iN g)), (2, .int (iN (sg (da (S g)))))] ⟨rfl, rfl, rfl, rfl, trivial⟩ (pr_init (sc := uI (uI sc 27 ((S g).length : Int)) 28 0) (ar := ar) s2 rfl (fun ar2 h X hB h12 => ?_) _ 0 _ _ X (fun _ _ => rfl) (fun i hi => absurd hi (Nat.not_lt_zero _)) (Nat.zero_add _))
    have hS2 : mdS ar2 S := by
      unfold mdS
      rw [hB 9 (by decide), hB 10 (by decide), hB 11 (by decide)]
      exact hS
    exact pr_loop hg hw 16 (S g) [] 0 _ _ _ X hS2 ⟨(((agr.rf (js := [12, 13]) (ar := ar)).pk (k := 27) (v := ((S g).length : Int)) (by decide)).pk (k := 28) (v := 0) (by decide)).1, fun j hj => hB j (fun w => hj (by rw [w]; decide))⟩ ⟨rfl, s2, fun i hi => ⟨i, hi, h12 i hi, hmk i hi, rfl, rfl⟩, fun i j hi hj e => by rw [hmk i hi, hmk j hj] at e; omega⟩ ⟨rfl, fun i hi => absurd hi (Nat.not_lt_zero _)⟩ h3 (by omega) (by rw [List.length_nil]; omega) rfl
  · refine e_iconst dX8_parts_8 ?_
    refine e_top (sg (da (S g))) (by unfold sg; rw [if_pos (by omega)]) ?_
    refine e_goto (tgt := 13) dX8_parts_9 rfl ?_
    refine e_istore_n dX8_parts_13 rfl ?_
    refine e_aload_n dX8_parts_14 rfl ?_
    refine e_aload_n dX8_parts_15 rfl ?_
    refine e_getf fX8_48 X.obj rfl dX8_parts_16 ?_
    refine e_iload_n dX8_parts_19 rfl ?_
    refine e_ial X.a11 (by omega) (by omega) rfl s1 dX8_parts_20 ?_
    refine e_putf pfX8_252 X.obj rfl rfl rfl dX8_parts_21 ?_
    refine X.pto (q := 27) (fun h9 X9 => ?_) rfl
    replace X := X9
    clear X9
    refine e_aload_n dX8_parts_24 rfl ?_
    refine e_iconst dX8_parts_25 ?_
    refine e_putf pfX8_259 X.obj rfl rfl rfl dX8_parts_26 ?_
    refine X.pto (q := 28) (fun h9 X9 => ?_) rfl
    replace X := X9
    clear X9
    refine e_iconst dX8_parts_29 ?_
    refine e_istore_n dX8_parts_30 rfl ?_
    refine e_loc [(3, .int (iN (0 : Nat))), (0, .ref m), (1, .int (iN g)), (2, .int (iN (sg (da (S g)))))] ⟨rfl, rfl, rfl, rfl, trivial⟩ (pr_init (sc := uI (uI sc 27 ((S g).length : Int)) 28 0) (ar := ar) s2 rfl (fun ar2 h X hB h12 => ?_) _ 0 _ _ X (fun _ _ => rfl) (fun i hi => absurd hi (Nat.not_lt_zero _)) (Nat.zero_add _))
    have hS2 : mdS ar2 S := by
      unfold mdS
      rw [hB 9 (by decide), hB 10 (by decide), hB 11 (by decide)]
      exact hS
    exact pr_loop hg hw 16 (S g) [] 0 _ _ _ X hS2 ⟨(((agr.rf (js := [12, 13]) (ar := ar)).pk (k := 27) (v := ((S g).length : Int)) (by decide)).pk (k := 28) (v := 0) (by decide)).1, fun j hj => hB j (fun w => hj (by rw [w]; decide))⟩ ⟨rfl, s2, fun i hi => ⟨i, hi, h12 i hi, hmk i hi, rfl, rfl⟩, fun i j hi hj e => by rw [hmk i hi, hmk j hj] at e; omega⟩ ⟨rfl, fun i hi => absurd hi (Nat.not_lt_zero _)⟩ h3 (by omega) (by rw [List.length_nil]; omega) rfl
set_option maxRecDepth 20000 in
theorem M_triangles (X : mdX G sc0 ar m h0 h) (hR : mdR sc0 ar P E S b P2 E2 S2 F) {j : Int} (rj : r32 j) (hgc : ∀ g, g < 4 → (gdM (S g) ↔ closes (S g))) (hd : ∀ g : Nat, g < 4 → closes (S g) → da (S g) ≠ 0) (hmk : ∀ g : Nat, g < 4 → ∀ i, i < (S g).length → pM (S g) i = (i : Int)) : Run G mX8_triangles [.ref m, .int (iN j)] none h 0 0 (mZ G (k_triangles S j) P E S b P2 E2 S2 F m h0) := by
  have rj1 := rj.1
  have rj2 := rj.2
  refine run_of rfl plX8 rfl ?_
  refine e_aload_n dX8_triangles_0 rfl ?_
  refine e_iconst dX8_triangles_1 ?_
  refine e_putf pfX8_1 X.obj rfl rfl rfl dX8_triangles_2 ?_
  refine X.pto (q := 0) (fun h9 X9 => ?_) rfl
  replace X := X9
  clear X9
  replace hR := hR.t0 0
  have ht : uI sc0 0 0 0 = 0 := uI_s _ _ _
  generalize uI sc0 0 0 = sc at X hR ht
  refine e_aload_n dX8_triangles_5 rfl ?_
  refine e_iload_n dX8_triangles_6 rfl ?_
  
  by_cases c_1 : pgOK j
  · obtain ⟨g, rfl⟩ : ∃ g : Nat, j = (g : Int) := ⟨j.toNat, by omega⟩
    have hg : g < 4 := by omega
    obtain ⟨s1, s2, s3, s4⟩ := id (hR.2.2.1 g hg)
    by_cases c_2 : closes (S g)
    · refine e_doesV qcX8_245 X.obj rfl rfl (S_noSimple_t X hR.2.2.1 hg hgc c_2 ht) rfl rfl rfl rfl dX8_triangles_7 ?_
      intro v h9 q9
      obtain ⟨rfl, sc2, X, hA⟩ := q9
      replace hR := hR.to (hA.wk (by decide) (by decide)) hR.2.2.2.2
      replace ht := (hA.1 0 (by decide)).trans ht
      clear hA
      generalize sc2 = sc at X hR ht
      refine e_if_eq (tgt := 15) ⟨by decide, by decide⟩ dX8_triangles_10 rfl (fun c_10 => ?_) (fun c_10 => absurd rfl c_10)
      refine e_aload_n dX8_triangles_15 rfl ?_
      refine e_iload_n dX8_triangles_16 rfl ?_
      refine e_doesV qcX8_269 X.obj rfl rfl (S_parts X hR.2.2.1 hg c_2.1 (hd g hg c_2) (hmk g hg)) rfl rfl rfl rfl dX8_triangles_17 ?_
      intro v h9 q9
      obtain ⟨rfl, sc2, ar2, X, hA, hT⟩ := q9
      have e7 := parF_len (w := sg (da (S g))) 16 (S g) [] 0
      rw [List.length_nil] at e7
      refine e_aload_n dX8_triangles_20 rfl ?_
      refine e_getf fX8_259 X.obj rfl dX8_triangles_21 ?_
      rw [hT.1]
      refine e_iret rfl dX8_triangles_24 (by decide) (by decide) ?_
      exact mz (show (k_triangles S (g : Int)) = (0, ((parD (S g)).2.1.length : Int)) from ((if_pos c_1).trans (cif_t c_2))) ⟨rfl, rfl, _, _, X, hR.to (hA.wk (by decide) (by decide)) (hR.2.2.2.2.to (hA.2 5 (by decide)) (hA.2 6 (by decide)) (hA.2 7 (by decide))), (hA.1 0 (by decide)).trans ht⟩
    refine e_doesV qcX8_245 X.obj rfl rfl (S_noSimple_f2 X hR.2.2.1 hg hgc c_2 ht) rfl rfl rfl rfl dX8_triangles_7 ?_
    intro v h9 q9
    obtain ⟨rfl, sc2, X, hA⟩ := q9
    replace hR := hR.to (hA.wk (by decide) (by decide)) hR.2.2.2.2
    refine e_if_eq (tgt := 15) ⟨by decide, by decide⟩ dX8_triangles_10 rfl (fun c_10 => absurd c_10 (by decide)) (fun c_10 => ?_)
    refine e_iconst dX8_triangles_13 ?_
    refine e_iret rfl dX8_triangles_14 (by decide) (by decide) ?_
    exact mz (show (k_triangles S (g : Int)) = (2, 0) from ((if_pos c_1).trans (cif_f c_2))) ⟨rfl, rfl, _, _, X, hR.t0 _, uI_s _ _ _⟩
  refine e_doesV qcX8_245 X.obj rfl rfl (S_noSimple_f1 X rj c_1 ht) rfl rfl rfl rfl dX8_triangles_7 ?_
  intro v h9 q9
  obtain ⟨rfl, X⟩ := q9
  refine e_if_eq (tgt := 15) ⟨by decide, by decide⟩ dX8_triangles_10 rfl (fun c_10 => absurd c_10 (by decide)) (fun c_10 => ?_)
  refine e_iconst dX8_triangles_13 ?_
  refine e_iret rfl dX8_triangles_14 (by decide) (by decide) ?_
  exact mz (show (k_triangles S j) = (1, 0) from (if_neg c_1)) ⟨rfl, rfl, _, _, X, hR.t0 _, uI_s _ _ _⟩
set_option maxRecDepth 20000 in
theorem M_triangleAt (X : mdX G sc0 ar m h0 h) (hR : mdR sc0 ar P E S b P2 E2 S2 F) {j : Int} (rj : r32 j) {t : Int} (rt : r32 t) (hgc : ∀ g, g < 4 → (gdM (S g) ↔ closes (S g))) (hd : ∀ g : Nat, g < 4 → closes (S g) → da (S g) ≠ 0) (hmk : ∀ g : Nat, g < 4 → ∀ i, i < (S g).length → pM (S g) i = (i : Int)) : Run G mX8_triangleAt [.ref m, .int (iN j), .int (iN t)] none h 0 0 (mZ G (k_triangleAt S j t) P E S b P2 E2 S2 F m h0) := by
  have rj1 := rj.1
  have rj2 := rj.2
  have rt1 := rt.1
  have rt2 := rt.2
  refine run_of rfl plX8 rfl ?_
  refine e_aload_n dX8_triangleAt_0 rfl ?_
  refine e_iconst dX8_triangleAt_1 ?_
  refine e_putf pfX8_1 X.obj rfl rfl rfl dX8_triangleAt_2 ?_
  refine X.pto (q := 0) (fun h9 X9 => ?_) rfl
  replace X := X9
  clear X9
  replace hR := hR.t0 0
  have ht : uI sc0 0 0 0 = 0 := uI_s _ _ _
  generalize uI sc0 0 0 = sc at X hR ht
  refine e_aload_n dX8_triangleAt_5 rfl ?_
  refine e_iload_n dX8_triangleAt_6 rfl ?_
  
  by_cases c_1 : pgOK j
  · obtain ⟨g, rfl⟩ : ∃ g : Nat, j = (g : Int) := ⟨j.toNat, by omega⟩
    have hg : g < 4 := by omega
    obtain ⟨s1, s2, s3, s4⟩ := id (hR.2.2.1 g hg)
    by_cases c_2 : closes (S g)
    · refine e_doesV qcX8_245 X.obj rfl rfl (S_noSimple_t X hR.2.2.1 hg hgc c_2 ht) rfl rfl rfl rfl dX8_triangleAt_7 ?_
      intro v h9 q9
      obtain ⟨rfl, sc2, X, hA⟩ := q9
      replace hR := hR.to (hA.wk (by decide) (by decide)) hR.2.2.2.2
      replace ht := (hA.1 0 (by decide)).trans ht
      clear hA
      generalize sc2 = sc at X hR ht
      refine e_if_eq (tgt := 15) ⟨by decide, by decide⟩ dX8_triangleAt_10 rfl (fun c_10 => ?_) (fun c_10 => absurd rfl c_10)
      refine e_aload_n dX8_triangleAt_15 rfl ?_
      refine e_iload_n dX8_triangleAt_16 rfl ?_
      refine e_doesV qcX8_269 X.obj rfl rfl (S_parts X hR.2.2.1 hg c_2.1 (hd g hg c_2) (hmk g hg)) rfl rfl rfl rfl dX8_triangleAt_17 ?_
      intro v h9 q9
      obtain ⟨rfl, sc2, ar2, X, hA, hT⟩ := q9
      have e7 := parF_len (w := sg (da (S g))) 16 (S g) [] 0
      rw [List.length_nil] at e7
      have ht2 := (hA.1 0 (by decide)).trans ht
      replace hR := hR.to (hA.wk (by decide) (by decide)) (hR.2.2.2.2.to (hA.2 5 (by decide)) (hA.2 6 (by decide)) (hA.2 7 (by decide)))
      replace e7 : (parD (S g)).2.1.length ≤ 0 + (S g).length := e7
      have k3 : ∀ TL : List Int, (parD (S g)).2.1 = TL → ∀ t : Int, k_triangleAt S (g : Int) t = if 0 ≤ t ∧ t < TL.length then (0, TL.getD t.toNat 0) else (3, 0) := fun TL e t => by rw [← e]; exact (if_pos c_1).trans (cif_t c_2)
      generalize hTL : (parD (S g)).2.1 = TL at hT e7
      replace k3 := k3 TL hTL
      refine e_aload_n dX8_triangleAt_20 rfl ?_
      refine e_iload_n dX8_triangleAt_21 rfl ?_
      refine e_iconst dX8_triangleAt_22 ?_
      refine e_aload_n dX8_triangleAt_23 rfl ?_
      refine e_getf fX8_259 X.obj rfl dX8_triangleAt_24 ?_
      rw [hT.1]
      refine e_iconst dX8_triangleAt_27 ?_
      refine e_isub dX8_triangleAt_28 ?_
      refine e_pureS qcX8_96 (S_min rt ⟨by decide, by decide⟩ ⟨by omega, by omega⟩) rfl rfl rfl rfl dX8_triangleAt_29 ?_
      refine e_iconst dX8_triangleAt_32 ?_
      
      by_cases c_33 : 0 ≤ t ∧ t ≤ (TL.length : Int) - 1
      · obtain ⟨q, rfl⟩ : ∃ q : Nat, t = (q : Int) := ⟨t.toNat, by omega⟩
        have hq : q < TL.length := by omega
        refine e_pureV qcX8_104 X.obj rfl rfl (S_fails_t X c_33 ht2) rfl rfl rfl rfl dX8_triangleAt_33 ?_
        refine e_if_eq (tgt := 43) ⟨by decide, by decide⟩ dX8_triangleAt_36 rfl (fun c_36 => ?_) (fun c_36 => absurd rfl c_36)
        refine e_aload_n dX8_triangleAt_43 rfl ?_
        refine e_getf fX8_54 X.obj rfl dX8_triangleAt_44 ?_
        refine e_iload_n dX8_triangleAt_47 rfl ?_
        refine e_ial X.a13 (by omega) (by omega) rfl (hT.2 q hq) dX8_triangleAt_48 ?_
        refine e_iret rfl dX8_triangleAt_49 (by decide) (by decide) ?_
        exact mz ((k3 _).trans (if_pos (by omega))) ⟨rfl, rfl, _, _, X, hR, ht2⟩
      refine e_doesV qcX8_104 X.obj rfl rfl (S_fails_f X c_33 ht2 ⟨by decide, by decide⟩) rfl rfl rfl rfl dX8_triangleAt_33 ?_
      intro v h9 q9
      obtain ⟨rfl, X⟩ := q9
      refine e_if_eq (tgt := 43) ⟨by decide, by decide⟩ dX8_triangleAt_36 rfl (fun c_36 => absurd c_36 (by decide)) (fun c_36 => ?_)
      refine e_iconst dX8_triangleAt_39 ?_
      refine e_goto (tgt := 49) dX8_triangleAt_40 rfl ?_
      refine e_iret rfl dX8_triangleAt_49 (by decide) (by decide) ?_
      exact mz ((k3 _).trans (if_neg (by omega))) ⟨rfl, rfl, _, _, X, hR.t0 _, uI_s _ _ _⟩
    refine e_doesV qcX8_245 X.obj rfl rfl (S_noSimple_f2 X hR.2.2.1 hg hgc c_2 ht) rfl rfl rfl rfl dX8_triangleAt_7 ?_
    intro v h9 q9
    obtain ⟨rfl, sc2, X, hA⟩ := q9
    replace hR := hR.to (hA.wk (by decide) (by decide)) hR.2.2.2.2
    refine e_if_eq (tgt := 15) ⟨by decide, by decide⟩ dX8_triangleAt_10 rfl (fun c_10 => absurd c_10 (by decide)) (fun c_10 => ?_)
    refine e_iconst dX8_triangleAt_13 ?_
    refine e_iret rfl dX8_triangleAt_14 (by decide) (by decide) ?_
    exact mz (show (k_triangleAt S (g : Int) t) = (2, 0) from ((if_pos c_1).trans (cif_f c_2))) ⟨rfl, rfl, _, _, X, hR.t0 _, uI_s _ _ _⟩
  refine e_doesV qcX8_245 X.obj rfl rfl (S_noSimple_f1 X rj c_1 ht) rfl rfl rfl rfl dX8_triangleAt_7 ?_
  intro v h9 q9
  obtain ⟨rfl, X⟩ := q9
  refine e_if_eq (tgt := 15) ⟨by decide, by decide⟩ dX8_triangleAt_10 rfl (fun c_10 => absurd c_10 (by decide)) (fun c_10 => ?_)
  refine e_iconst dX8_triangleAt_13 ?_
  refine e_iret rfl dX8_triangleAt_14 (by decide) (by decide) ?_
  exact mz (show (k_triangleAt S j t) = (1, 0) from (if_neg c_1)) ⟨rfl, rfl, _, _, X, hR.t0 _, uI_s _ _ _⟩
end MTHIRTEEN
