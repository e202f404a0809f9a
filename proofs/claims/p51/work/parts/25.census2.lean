/-! Census: cut -/
section PCENSUS2
variable {G : g_X} {N N2 : Nat} {L : PL} {r r2 : Nat} {h : g_hp}
set_option maxRecDepth 20000 in
theorem ct_go {z : Option Nat} (hr : rowAt G N L r h) (hS : okS L) (hl : L.length ≤ N2) (hd : r + 4 ≤ r2 ∨ r2 + 4 ≤ r) {y : Int} (hy : bd y) {u : Prop} [Decidable u] {i : Nat} (hi : i < L.length) {h1 : g_hp} (hc : rowAt G N2 (cutN L y u i) r2 h1) (hf : g_fr r2 4 h h1)
    (k : ∀ h2, rowAt G N2 (cutN L y u (i + 1)) r2 h2 → g_fr r2 4 h h2 → Ev (g_B G mX0_cut 0 0 (fun o z1 h1 => ∃ v, o = .inl v ∧ z1 = z ∧ (v = none ∧ rowAt G N2 (cutN L y u L.length) r2 h1 ∧ g_fr r2 4 h h1))) 0 0 z h2 200 [(4, .int (iN i)), (0, .ref r), (1, .int (iN y)), (2, .int (iN (bP u))), (3, .ref r2)] []) : Ev (g_B G mX0_cut 0 0 (fun o z1 h1 => ∃ v, o = .inl v ∧ z1 = z ∧ (v = none ∧ rowAt G N2 (cutN L y u L.length) r2 h1 ∧ g_fr r2 4 h h1))) 0 0 z h1 68 [(7, .int (iN (ctH L i))), (6, .int (iN (ctL L i))), (4, .int (iN i)), (0, .ref r), (1, .int (iN y)), (2, .int (iN (bP u))), (3, .ref r2)] [] := by
  have hr1 := hr.off hf hd
  have hlo : ctL L i < L.length := by unfold ctL; split; exact hi; exact nxt_lt hi
  have hhi : ctH L i < L.length := by unfold ctH; split; exact nxt_lt hi; exact hi
  have u1 := hr.2.2.1.at hlo
  have u2 := hr.2.2.1.at hhi
  have vb := ctV_bd hS hi (y := y)
  have cl := cutN_len L y u i
  have kn : ¬ ctG L y u i → Ev (g_B G mX0_cut 0 0 (fun o z1 h1 => ∃ v, o = .inl v ∧ z1 = z ∧ (v = none ∧ rowAt G N2 (cutN L y u L.length) r2 h1 ∧ g_fr r2 4 h h1))) 0 0 z h1 200 [(4, .int (iN i)), (0, .ref r), (1, .int (iN y)), (2, .int (iN (bP u))), (3, .ref r2)] [] := fun w => k h1 (by rw [show cutN L y u (i + 1) = cutN L y u i from if_neg w]; exact hc) hf
  have rb : -4000 ≤ ctR L i ∧ ctR L i ≤ 4000 := by show -4000 ≤ _ - _ ∧ _ - _ ≤ 4000; omega
  have ub : -4000 ≤ ctU L y i ∧ ctU L y i ≤ 4000 := by show -4000 ≤ _ - _ ∧ _ - _ ≤ 4000; omega
  refine e_aload_n dX0_cut_68 rfl ?_
  refine e_iload dX0_cut_69 rfl ?_
  refine e_pureV qcX0_50 hr1.obj rfl rfl (S_yAt hr1 hhi) rfl rfl rfl rfl dX0_cut_71 ?_
  refine e_aload_n dX0_cut_74 rfl ?_
  refine e_iload dX0_cut_75 rfl ?_
  refine e_pureV qcX0_50 hr1.obj rfl rfl (S_yAt hr1 hlo) rfl rfl rfl rfl dX0_cut_77 ?_
  refine e_isub dX0_cut_80 ?_
  refine e_istore dX0_cut_81 rfl ?_
  refine e_iload_n dX0_cut_83 rfl ?_
  refine e_aload_n dX0_cut_84 rfl ?_
  refine e_iload dX0_cut_85 rfl ?_
  refine e_pureV qcX0_50 hr1.obj rfl rfl (S_yAt hr1 hlo) rfl rfl rfl rfl dX0_cut_87 ?_
  refine e_isub dX0_cut_90 ?_
  refine e_istore dX0_cut_91 rfl ?_
  refine e_iload_n dX0_cut_93 rfl ?_
  refine e_ifP_eq (tgt := 117) dX0_cut_94 rfl (fun c_94 => ?_) (fun c_94 => ?_)
  · refine e_iload dX0_cut_117 rfl ?_
    refine e_if_le (x := ctU L y i) (tgt := 133) ⟨Int.le_trans (by decide) ub.1, Int.lt_of_le_of_lt ub.2 (by decide)⟩ dX0_cut_119 rfl (fun c_119 => ?_) (fun c_119 => ?_)
    · have kg : ¬ ctG L y u i := fun w => absurd (w.2.1 c_94).1 (Int.not_lt.mpr c_119)
      refine e_iconst dX0_cut_133 ?_
      refine e_istore dX0_cut_134 rfl ?_
      refine e_iload dX0_cut_136 rfl ?_
      refine e_if_eq (tgt := 200) (x := 0) ⟨by decide, by decide⟩ dX0_cut_138 rfl (fun _ => ?_) (fun c => absurd rfl c)
      first | exact e_loc [(4, .int (iN i)), (0, .ref r), (1, .int (iN y)), (2, .int (iN (bP u))), (3, .ref r2)] ⟨rfl, rfl, rfl, rfl, rfl, trivial⟩ (k h4 g4 (hf.tr fr4)) | exact e_loc [(4, .int (iN i)), (0, .ref r), (1, .int (iN y)), (2, .int (iN (bP u))), (3, .ref r2)] ⟨rfl, rfl, rfl, rfl, rfl, trivial⟩ (kn kg)
    · refine e_iload dX0_cut_122 rfl ?_
      refine e_iload dX0_cut_124 rfl ?_
      refine e_icmp_gt (x := ctU L y i) (y := ctR L i) (tgt := 133) ⟨Int.le_trans (by decide) ub.1, Int.lt_of_le_of_lt ub.2 (by decide)⟩ ⟨Int.le_trans (by decide) rb.1, Int.lt_of_le_of_lt rb.2 (by decide)⟩ dX0_cut_126 rfl (fun c_126 => ?_) (fun c_126 => ?_)
      · have kg : ¬ ctG L y u i := fun w => absurd (w.2.1 c_94).2 (Int.not_le.mpr c_126)
        refine e_iconst dX0_cut_133 ?_
        refine e_istore dX0_cut_134 rfl ?_
        refine e_iload dX0_cut_136 rfl ?_
        refine e_if_eq (tgt := 200) (x := 0) ⟨by decide, by decide⟩ dX0_cut_138 rfl (fun _ => ?_) (fun c => absurd rfl c)
        first | exact e_loc [(4, .int (iN i)), (0, .ref r), (1, .int (iN y)), (2, .int (iN (bP u))), (3, .ref r2)] ⟨rfl, rfl, rfl, rfl, rfl, trivial⟩ (k h4 g4 (hf.tr fr4)) | exact e_loc [(4, .int (iN i)), (0, .ref r), (1, .int (iN y)), (2, .int (iN (bP u))), (3, .ref r2)] ⟨rfl, rfl, rfl, rfl, rfl, trivial⟩ (kn kg)
      · have k1 : 0 ≤ ctU L y i ∧ ctU L y i ≤ ctR L i := ⟨Int.le_of_lt (Int.not_le.mp c_119), Int.not_lt.mp c_126⟩
        have k2 : 0 < ctR L i → ctG L y u i := fun w => ⟨fun w9 => absurd w9 c_94, fun _ => ⟨Int.not_le.mp c_119, Int.not_lt.mp c_126⟩, w⟩
        refine e_iconst dX0_cut_129 ?_
        refine e_goto (tgt := 134) dX0_cut_130 rfl ?_
        refine e_istore dX0_cut_134 rfl ?_
        refine e_iload dX0_cut_136 rfl ?_
        refine e_if_eq (tgt := 200) (x := 1) ⟨by decide, by decide⟩ dX0_cut_138 rfl (fun c => absurd c (by decide)) (fun _ => ?_)
        refine e_iload dX0_cut_141 rfl ?_
        refine e_if_le (x := ctR L i) (tgt := 200) ⟨Int.le_trans (by decide) rb.1, Int.lt_of_le_of_lt rb.2 (by decide)⟩ dX0_cut_143 rfl (fun c_143 => ?_) (fun c_143 => ?_)
        · have kg : ¬ ctG L y u i := fun w => absurd w.2.2 (Int.not_lt.mpr c_143)
          first | exact e_loc [(4, .int (iN i)), (0, .ref r), (1, .int (iN y)), (2, .int (iN (bP u))), (3, .ref r2)] ⟨rfl, rfl, rfl, rfl, rfl, trivial⟩ (k h4 g4 (hf.tr fr4)) | exact e_loc [(4, .int (iN i)), (0, .ref r), (1, .int (iN y)), (2, .int (iN (bP u))), (3, .ref r2)] ⟨rfl, rfl, rfl, rfl, rfl, trivial⟩ (kn kg)
        · have k3 : 0 < ctR L i := Int.not_le.mp c_143
          have k4 := k2 k3
          have vv := vb k3 k1
          have s1 : -1000000000 ≤ ctS L y i := Int.le_trans (by decide) vv.1.1
          have s2 : ctS L y i ≤ 1000000000 := Int.le_trans vv.1.2 (by decide)
          have s3 : -1000000000 ≤ -ctS L y i := Int.neg_le_neg s2
          have s4 : -ctS L y i ≤ 1000000000 := Int.neg_le_of_neg_le s1
          have r9 : ctR L i ≤ 10000 := Int.le_trans rb.2 (by decide)
          have hl9 : (cutN L y u i).length < N2 := Nat.lt_of_lt_of_le (Nat.lt_of_le_of_lt cl hi) hl
          refine e_aload_n dX0_cut_146 rfl ?_
          refine e_iload dX0_cut_147 rfl ?_
          refine e_pureV qcX0_53 hr1.obj rfl rfl (S_xAt hr1 hhi) rfl rfl rfl rfl dX0_cut_149 ?_
          refine e_aload_n dX0_cut_152 rfl ?_
          refine e_iload dX0_cut_153 rfl ?_
          refine e_pureV qcX0_53 hr1.obj rfl rfl (S_xAt hr1 hlo) rfl rfl rfl rfl dX0_cut_155 ?_
          refine e_isub dX0_cut_158 ?_
          refine e_istore dX0_cut_159 rfl ?_
          refine e_aload_n dX0_cut_161 rfl ?_
          refine e_iload dX0_cut_162 rfl ?_
          refine e_pureV qcX0_53 hr1.obj rfl rfl (S_xAt hr1 hlo) rfl rfl rfl rfl dX0_cut_164 ?_
          refine e_iload dX0_cut_167 rfl ?_
          refine e_imul dX0_cut_169 ?_
          refine e_iload dX0_cut_170 rfl ?_
          refine e_iload dX0_cut_172 rfl ?_
          refine e_imul dX0_cut_174 ?_
          refine e_iadd dX0_cut_175 ?_
          refine e_istore dX0_cut_176 rfl ?_
          refine e_aload_n dX0_cut_178 rfl ?_
          refine e_iload dX0_cut_179 rfl ?_
          refine e_iload dX0_cut_181 rfl ?_
          refine e_pureS qcX0_56 (S_floorDiv (x := ctS L y i) (y := ctR L i) ⟨s1, s2⟩ ⟨k3, r9⟩) rfl rfl rfl rfl dX0_cut_183 ?_
          refine e_iload dX0_cut_186 rfl ?_
          refine e_ineg dX0_cut_188 ?_
          refine e_iload dX0_cut_189 rfl ?_
          refine e_pureS qcX0_56 (S_floorDiv (x := -ctS L y i) (y := ctR L i) ⟨s3, s4⟩ ⟨k3, r9⟩) rfl rfl rfl rfl dX0_cut_191 ?_
          refine e_isub dX0_cut_194 ?_
          refine e_iconst dX0_cut_195 ?_
          refine e_iconst dX0_cut_196 ?_
          refine e_doesV qcX0_62 hc.obj rfl rfl (S_insertInOrder (x := ctV L y i) (y := 0) (m := 0) hc hl9 vv.2 ⟨by decide, by decide⟩ ⟨by decide, by decide⟩) rfl rfl rfl rfl dX0_cut_197 ?_
          intro v h4 q4
          obtain ⟨rfl, g4, fr4⟩ := q4
          rw [show insE (cutN L y u i) (ctV L y i, 0, 0) = cutN L y u (i + 1) from (if_pos k4).symm] at g4
          first | exact e_loc [(4, .int (iN i)), (0, .ref r), (1, .int (iN y)), (2, .int (iN (bP u))), (3, .ref r2)] ⟨rfl, rfl, rfl, rfl, rfl, trivial⟩ (k h4 g4 (hf.tr fr4)) | exact e_loc [(4, .int (iN i)), (0, .ref r), (1, .int (iN y)), (2, .int (iN (bP u))), (3, .ref r2)] ⟨rfl, rfl, rfl, rfl, rfl, trivial⟩ (kn kg)
  · refine e_iload dX0_cut_97 rfl ?_
    refine e_if_lt (x := ctU L y i) (tgt := 113) ⟨Int.le_trans (by decide) ub.1, Int.lt_of_le_of_lt ub.2 (by decide)⟩ dX0_cut_99 rfl (fun c_99 => ?_) (fun c_99 => ?_)
    · have kg : ¬ ctG L y u i := fun w => absurd (w.1 c_94).1 (Int.not_le.mpr c_99)
      refine e_iconst dX0_cut_113 ?_
      refine e_goto (tgt := 134) dX0_cut_114 rfl ?_
      refine e_istore dX0_cut_134 rfl ?_
      refine e_iload dX0_cut_136 rfl ?_
      refine e_if_eq (tgt := 200) (x := 0) ⟨by decide, by decide⟩ dX0_cut_138 rfl (fun _ => ?_) (fun c => absurd rfl c)
      first | exact e_loc [(4, .int (iN i)), (0, .ref r), (1, .int (iN y)), (2, .int (iN (bP u))), (3, .ref r2)] ⟨rfl, rfl, rfl, rfl, rfl, trivial⟩ (k h4 g4 (hf.tr fr4)) | exact e_loc [(4, .int (iN i)), (0, .ref r), (1, .int (iN y)), (2, .int (iN (bP u))), (3, .ref r2)] ⟨rfl, rfl, rfl, rfl, rfl, trivial⟩ (kn kg)
    · refine e_iload dX0_cut_102 rfl ?_
      refine e_iload dX0_cut_104 rfl ?_
      refine e_icmp_ge (x := ctU L y i) (y := ctR L i) (tgt := 113) ⟨Int.le_trans (by decide) ub.1, Int.lt_of_le_of_lt ub.2 (by decide)⟩ ⟨Int.le_trans (by decide) rb.1, Int.lt_of_le_of_lt rb.2 (by decide)⟩ dX0_cut_106 rfl (fun c_106 => ?_) (fun c_106 => ?_)
      · have kg : ¬ ctG L y u i := fun w => absurd (w.1 c_94).2 (Int.not_lt.mpr c_106)
        refine e_iconst dX0_cut_113 ?_
        refine e_goto (tgt := 134) dX0_cut_114 rfl ?_
        refine e_istore dX0_cut_134 rfl ?_
        refine e_iload dX0_cut_136 rfl ?_
        refine e_if_eq (tgt := 200) (x := 0) ⟨by decide, by decide⟩ dX0_cut_138 rfl (fun _ => ?_) (fun c => absurd rfl c)
        first | exact e_loc [(4, .int (iN i)), (0, .ref r), (1, .int (iN y)), (2, .int (iN (bP u))), (3, .ref r2)] ⟨rfl, rfl, rfl, rfl, rfl, trivial⟩ (k h4 g4 (hf.tr fr4)) | exact e_loc [(4, .int (iN i)), (0, .ref r), (1, .int (iN y)), (2, .int (iN (bP u))), (3, .ref r2)] ⟨rfl, rfl, rfl, rfl, rfl, trivial⟩ (kn kg)
      · have k1 : 0 ≤ ctU L y i ∧ ctU L y i ≤ ctR L i := ⟨Int.not_lt.mp c_99, Int.le_of_lt (Int.not_le.mp c_106)⟩
        have k2 : 0 < ctR L i → ctG L y u i := fun w => ⟨fun _ => ⟨Int.not_lt.mp c_99, Int.not_le.mp c_106⟩, fun w9 => absurd c_94 w9, w⟩
        refine e_iconst dX0_cut_109 ?_
        refine e_goto (tgt := 134) dX0_cut_110 rfl ?_
        refine e_istore dX0_cut_134 rfl ?_
        refine e_iload dX0_cut_136 rfl ?_
        refine e_if_eq (tgt := 200) (x := 1) ⟨by decide, by decide⟩ dX0_cut_138 rfl (fun c => absurd c (by decide)) (fun _ => ?_)
        refine e_iload dX0_cut_141 rfl ?_
        refine e_if_le (x := ctR L i) (tgt := 200) ⟨Int.le_trans (by decide) rb.1, Int.lt_of_le_of_lt rb.2 (by decide)⟩ dX0_cut_143 rfl (fun c_143 => ?_) (fun c_143 => ?_)
        · have kg : ¬ ctG L y u i := fun w => absurd w.2.2 (Int.not_lt.mpr c_143)
          first | exact e_loc [(4, .int (iN i)), (0, .ref r), (1, .int (iN y)), (2, .int (iN (bP u))), (3, .ref r2)] ⟨rfl, rfl, rfl, rfl, rfl, trivial⟩ (k h4 g4 (hf.tr fr4)) | exact e_loc [(4, .int (iN i)), (0, .ref r), (1, .int (iN y)), (2, .int (iN (bP u))), (3, .ref r2)] ⟨rfl, rfl, rfl, rfl, rfl, trivial⟩ (kn kg)
        · have k3 : 0 < ctR L i := Int.not_le.mp c_143
          have k4 := k2 k3
          have vv := vb k3 k1
          have s1 : -1000000000 ≤ ctS L y i := Int.le_trans (by decide) vv.1.1
          have s2 : ctS L y i ≤ 1000000000 := Int.le_trans vv.1.2 (by decide)
          have s3 : -1000000000 ≤ -ctS L y i := Int.neg_le_neg s2
          have s4 : -ctS L y i ≤ 1000000000 := Int.neg_le_of_neg_le s1
          have r9 : ctR L i ≤ 10000 := Int.le_trans rb.2 (by decide)
          have hl9 : (cutN L y u i).length < N2 := Nat.lt_of_lt_of_le (Nat.lt_of_le_of_lt cl hi) hl
          refine e_aload_n dX0_cut_146 rfl ?_
          refine e_iload dX0_cut_147 rfl ?_
          refine e_pureV qcX0_53 hr1.obj rfl rfl (S_xAt hr1 hhi) rfl rfl rfl rfl dX0_cut_149 ?_
          refine e_aload_n dX0_cut_152 rfl ?_
          refine e_iload dX0_cut_153 rfl ?_
          refine e_pureV qcX0_53 hr1.obj rfl rfl (S_xAt hr1 hlo) rfl rfl rfl rfl dX0_cut_155 ?_
          refine e_isub dX0_cut_158 ?_
          refine e_istore dX0_cut_159 rfl ?_
          refine e_aload_n dX0_cut_161 rfl ?_
          refine e_iload dX0_cut_162 rfl ?_
          refine e_pureV qcX0_53 hr1.obj rfl rfl (S_xAt hr1 hlo) rfl rfl rfl rfl dX0_cut_164 ?_
          refine e_iload dX0_cut_167 rfl ?_
          refine e_imul dX0_cut_169 ?_
          refine e_iload dX0_cut_170 rfl ?_
          refine e_iload dX0_cut_172 rfl ?_
          refine e_imul dX0_cut_174 ?_
          refine e_iadd dX0_cut_175 ?_
          refine e_istore dX0_cut_176 rfl ?_
          refine e_aload_n dX0_cut_178 rfl ?_
          refine e_iload dX0_cut_179 rfl ?_
          refine e_iload dX0_cut_181 rfl ?_
          refine e_pureS qcX0_56 (S_floorDiv (x := ctS L y i) (y := ctR L i) ⟨s1, s2⟩ ⟨k3, r9⟩) rfl rfl rfl rfl dX0_cut_183 ?_
          refine e_iload dX0_cut_186 rfl ?_
          refine e_ineg dX0_cut_188 ?_
          refine e_iload dX0_cut_189 rfl ?_
          refine e_pureS qcX0_56 (S_floorDiv (x := -ctS L y i) (y := ctR L i) ⟨s3, s4⟩ ⟨k3, r9⟩) rfl rfl rfl rfl dX0_cut_191 ?_
          refine e_isub dX0_cut_194 ?_
          refine e_iconst dX0_cut_195 ?_
          refine e_iconst dX0_cut_196 ?_
          refine e_doesV qcX0_62 hc.obj rfl rfl (S_insertInOrder (x := ctV L y i) (y := 0) (m := 0) hc hl9 vv.2 ⟨by decide, by decide⟩ ⟨by decide, by decide⟩) rfl rfl rfl rfl dX0_cut_197 ?_
          intro v h4 q4
          obtain ⟨rfl, g4, fr4⟩ := q4
          rw [show insE (cutN L y u i) (ctV L y i, 0, 0) = cutN L y u (i + 1) from (if_pos k4).symm] at g4
          first | exact e_loc [(4, .int (iN i)), (0, .ref r), (1, .int (iN y)), (2, .int (iN (bP u))), (3, .ref r2)] ⟨rfl, rfl, rfl, rfl, rfl, trivial⟩ (k h4 g4 (hf.tr fr4)) | exact e_loc [(4, .int (iN i)), (0, .ref r), (1, .int (iN y)), (2, .int (iN (bP u))), (3, .ref r2)] ⟨rfl, rfl, rfl, rfl, rfl, trivial⟩ (kn kg)
set_option maxRecDepth 20000 in
theorem ct_loop {z : Option Nat} (hr : rowAt G N L r h) (hS : okS L) (hl : L.length ≤ N2) (hd : r + 4 ≤ r2 ∨ r2 + 4 ≤ r) {y : Int} (hy : bd y) {u : Prop} [Decidable u] : ∀ (n i : Nat) (h1 : g_hp), i + n = L.length → rowAt G N2 (cutN L y u i) r2 h1 → g_fr r2 4 h h1 → Ev (g_B G mX0_cut 0 0 (fun o z1 h1 => ∃ v, o = .inl v ∧ z1 = z ∧ (v = none ∧ rowAt G N2 (cutN L y u L.length) r2 h1 ∧ g_fr r2 4 h h1))) 0 0 z h1 7 [(4, .int (iN i)), (0, .ref r), (1, .int (iN y)), (2, .int (iN (bP u))), (3, .ref r2)] [] := by
  have h9 := hr.1
  have h8 := hr.2.1
  intro n
  induction n with
  | zero =>
    intro i h1 hin hc hf
    have e9 : i = L.length := by omega
    subst e9
    have hr1 := hr.off hf hd
    refine e_iload dX0_cut_7 rfl ?_
    refine e_aload_n dX0_cut_9 rfl ?_
    refine e_pureV qcX0_40 hr1.obj rfl rfl (S_size hr1) rfl rfl rfl rfl dX0_cut_10 ?_
    refine e_icmp_ge (tgt := 206) ⟨by omega, by omega⟩ ⟨by omega, by omega⟩ dX0_cut_13 rfl (fun c_13 => ?_) (fun c_13 => absurd (Int.le_refl _) c_13)
    refine e_vret rfl dX0_cut_206 (by decide) (by decide) ?_
    exact ⟨none, rfl, rfl, rfl, hc, hf⟩
  | succ n ih =>
    intro i h1 hin hc hf
    have hi : i < L.length := by omega
    have hr1 := hr.off hf hd
    have rb := (rn_bd hr.2.2.1 hi).2
    have go : Ev (g_B G mX0_cut 0 0 (fun o z1 h1 => ∃ v, o = .inl v ∧ z1 = z ∧ (v = none ∧ rowAt G N2 (cutN L y u L.length) r2 h1 ∧ g_fr r2 4 h h1))) 0 0 z h1 68 [(7, .int (iN (ctH L i))), (6, .int (iN (ctL L i))), (4, .int (iN i)), (0, .ref r), (1, .int (iN y)), (2, .int (iN (bP u))), (3, .ref r2)] [] := by
      refine ct_go hr hS hl hd hy hi hc hf (fun h2 g2 f2 => ?_)
      refine e_iinc dX0_cut_200 rfl ?_
      refine e_goto (tgt := 7) dX0_cut_203 rfl ?_
      exact e_loc [(4, .int (iN (i + 1 : Nat))), (0, .ref r), (1, .int (iN y)), (2, .int (iN (bP u))), (3, .ref r2)] ⟨rfl, rfl, rfl, rfl, rfl, trivial⟩ (ih (i + 1) h2 (by omega) g2 f2)
    by_cases hu : 0 < rsE L i
    · refine e_iload dX0_cut_7 rfl ?_
      refine e_aload_n dX0_cut_9 rfl ?_
      refine e_pureV qcX0_40 hr1.obj rfl rfl (S_size hr1) rfl rfl rfl rfl dX0_cut_10 ?_
      refine e_icmp_ge (tgt := 206) ⟨by omega, by omega⟩ ⟨by omega, by omega⟩ dX0_cut_13 rfl (fun c_13 => absurd c_13 (by omega)) (fun c_13 => ?_)
      refine e_aload_n dX0_cut_16 rfl ?_
      refine e_iload dX0_cut_17 rfl ?_
      refine e_pureS qcX0_43 (S_riseOf hr1 hi) rfl rfl rfl rfl dX0_cut_19 ?_
      refine e_if_le (tgt := 29) ⟨by omega, by omega⟩ dX0_cut_22 rfl (fun c_22 => absurd c_22 (by omega)) (fun c_22 => ?_)
      refine e_iconst dX0_cut_25 ?_
      refine e_goto (tgt := 30) dX0_cut_26 rfl ?_
      refine e_istore dX0_cut_30 rfl ?_
      refine e_iload dX0_cut_32 rfl ?_
      refine e_if_eq (tgt := 42) (x := 1) ⟨by decide, by decide⟩ dX0_cut_34 rfl (fun c => absurd c (by decide)) (fun _ => ?_)
      refine e_iload dX0_cut_37 rfl ?_
      refine e_goto (tgt := 48) dX0_cut_39 rfl ?_
      refine e_istore dX0_cut_48 rfl ?_
      refine e_iload dX0_cut_50 rfl ?_
      refine e_if_eq (tgt := 64) (x := 1) ⟨by decide, by decide⟩ dX0_cut_52 rfl (fun c => absurd c (by decide)) (fun _ => ?_)
      refine e_aload_n dX0_cut_55 rfl ?_
      refine e_iload dX0_cut_56 rfl ?_
      refine e_pureV qcX0_46 hr1.obj rfl rfl (S_next hr1 hi) rfl rfl rfl rfl dX0_cut_58 ?_
      refine e_goto (tgt := 66) dX0_cut_61 rfl ?_
      refine e_istore dX0_cut_66 rfl ?_
      have eL : ctL L i = i := if_pos hu
      have eH : ctH L i = (nxt L.length i) := if_pos hu
      rw [eL, eH] at go
      exact e_loc [(7, .int (iN (nxt L.length i))), (6, .int (iN i)), (4, .int (iN i)), (0, .ref r), (1, .int (iN y)), (2, .int (iN (bP u))), (3, .ref r2)] ⟨rfl, rfl, rfl, rfl, rfl, rfl, rfl, trivial⟩ go
    · refine e_iload dX0_cut_7 rfl ?_
      refine e_aload_n dX0_cut_9 rfl ?_
      refine e_pureV qcX0_40 hr1.obj rfl rfl (S_size hr1) rfl rfl rfl rfl dX0_cut_10 ?_
      refine e_icmp_ge (tgt := 206) ⟨by omega, by omega⟩ ⟨by omega, by omega⟩ dX0_cut_13 rfl (fun c_13 => absurd c_13 (by omega)) (fun c_13 => ?_)
      refine e_aload_n dX0_cut_16 rfl ?_
      refine e_iload dX0_cut_17 rfl ?_
      refine e_pureS qcX0_43 (S_riseOf hr1 hi) rfl rfl rfl rfl dX0_cut_19 ?_
      refine e_if_le (tgt := 29) ⟨by omega, by omega⟩ dX0_cut_22 rfl (fun c_22 => ?_) (fun c_22 => absurd (show rsE L i ≤ 0 by omega) c_22)
      refine e_iconst dX0_cut_29 ?_
      refine e_istore dX0_cut_30 rfl ?_
      refine e_iload dX0_cut_32 rfl ?_
      refine e_if_eq (tgt := 42) (x := 0) ⟨by decide, by decide⟩ dX0_cut_34 rfl (fun _ => ?_) (fun c => absurd rfl c)
      refine e_aload_n dX0_cut_42 rfl ?_
      refine e_iload dX0_cut_43 rfl ?_
      refine e_pureV qcX0_46 hr1.obj rfl rfl (S_next hr1 hi) rfl rfl rfl rfl dX0_cut_45 ?_
      refine e_istore dX0_cut_48 rfl ?_
      refine e_iload dX0_cut_50 rfl ?_
      refine e_if_eq (tgt := 64) (x := 0) ⟨by decide, by decide⟩ dX0_cut_52 rfl (fun _ => ?_) (fun c => absurd rfl c)
      refine e_iload dX0_cut_64 rfl ?_
      refine e_istore dX0_cut_66 rfl ?_
      have eL : ctL L i = (nxt L.length i) := if_neg hu
      have eH : ctH L i = i := if_neg hu
      rw [eL, eH] at go
      exact e_loc [(7, .int (iN i)), (6, .int (iN (nxt L.length i))), (4, .int (iN i)), (0, .ref r), (1, .int (iN y)), (2, .int (iN (bP u))), (3, .ref r2)] ⟨rfl, rfl, rfl, rfl, rfl, rfl, rfl, trivial⟩ go
set_option maxRecDepth 20000 in
theorem S_cut (hr : rowAt G N L r h) (hS : okS L) (hl : L.length ≤ N2) (hd : r + 4 ≤ r2 ∨ r2 + 4 ≤ r) {y : Int} (hy : bd y) {u : Prop} [Decidable u] {L2 : PL} (h2r : rowAt G N2 L2 r2 h) : Does G mX0_cut [.ref r, .int (iN y), .int (iN (bP u)), .ref r2] h (fun v h1 => v = none ∧ rowAt G N2 (cutN L y u L.length) r2 h1 ∧ g_fr r2 4 h h1) := by
  intro z
  refine run_of rfl plX0 rfl ?_
  refine e_aload_n dX0_cut_0 rfl ?_
  refine e_doesV qcX0_37 h2r.obj rfl rfl (S_reset h2r) rfl rfl rfl rfl dX0_cut_1 ?_
  intro v h1 q1
  obtain ⟨rfl, g1, fr1⟩ := q1
  refine e_iconst dX0_cut_4 ?_
  refine e_istore dX0_cut_5 rfl ?_
  exact e_loc [(4, .int (iN (0 : Nat))), (0, .ref r), (1, .int (iN y)), (2, .int (iN (bP u))), (3, .ref r2)] ⟨rfl, rfl, rfl, rfl, rfl, trivial⟩ (ct_loop hr hS hl hd hy L.length 0 h1 (by omega) g1 fr1)
end PCENSUS2
