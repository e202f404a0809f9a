/-! Plane: turns, stretches -/
theorem mul_bd {a b A B : Int} (ha : -A ≤ a ∧ a ≤ A) (hb : -B ≤ b ∧ b ≤ B) : -(A * B) ≤ a * b ∧ a * b ≤ A * B := by
  have h1 : a.natAbs * b.natAbs ≤ A.natAbs * B.natAbs := Nat.mul_le_mul (by omega) (by omega)
  have h2 : (a * b).natAbs ≤ (A * B).natAbs := by rw [Int.natAbs_mul, Int.natAbs_mul]; exact h1
  have h3 : 0 ≤ A * B := Int.mul_nonneg (by omega) (by omega)
  omega
/-- twice the area of a, b, c -/
def tw (ax ay bx by' cx cy : Int) : Int := (bx - ax) * (cy - ay) - (by' - ay) * (cx - ax)
def sg (z : Int) : Int := if 0 < z then 1 else if z < 0 then -1 else 0
theorem sg_bd (z : Int) : -1 ≤ sg z ∧ sg z ≤ 1 := by unfold sg; split <;> (try split) <;> omega
abbrev on (ax ay bx by' x y : Int) : Prop := min ax bx ≤ x ∧ x ≤ max ax bx ∧ min ay by' ≤ y ∧ y ≤ max ay by' ∧ tw ax ay bx by' x y = 0
abbrev b4 (z : Int) : Prop := -10000 ≤ z ∧ z ≤ 10000
abbrev b10 (z : Int) : Prop := -10000000000 ≤ z ∧ z ≤ 10000000000
theorem tw_bd {ax ay bx by' x y : Int} (h1 : b4 ax) (h2 : b4 ay) (h3 : b4 bx) (h4 : b4 by') (h5 : b10 x) (h6 : b10 y) : -500000000000000 ≤ tw ax ay bx by' x y ∧ tw ax ay bx by' x y ≤ 500000000000000 := by
  unfold tw
  have q1 := mul_bd (a := bx - ax) (b := y - ay) (A := 20000) (B := 10000010000) ⟨by omega, by omega⟩ ⟨by omega, by omega⟩
  have q2 := mul_bd (a := by' - ay) (b := x - ax) (A := 20000) (B := 10000010000) ⟨by omega, by omega⟩ ⟨by omega, by omega⟩
  omega
theorem plX3 : plainName RX3 = true := by decide +kernel
section PPLANE
variable {G : g_X} {N N2 : Nat} {L L2 : PL} {r r2 : Nat} {h : g_hp}
set_option maxRecDepth 20000 in
theorem S_twist (ax ay bx by' cx cy : Int) : Pure G mX3_twist [.long (lI ax), .long (lI ay), .long (lI bx), .long (lI by'), .long (lI cx), .long (lI cy)] h (.long (lI (tw ax ay bx by' cx cy))) := by
  intro z
  refine run_of rfl plX3 rfl ?_
  refine e_lload dX3_twist_0 rfl ?_
  refine e_lload_n dX3_twist_2 rfl ?_
  refine e_lsub dX3_twist_3 ?_
  refine e_lload dX3_twist_4 rfl ?_
  refine e_lload_n dX3_twist_6 rfl ?_
  refine e_lsub dX3_twist_7 ?_
  refine e_lmul dX3_twist_8 ?_
  refine e_lload dX3_twist_9 rfl ?_
  refine e_lload_n dX3_twist_11 rfl ?_
  refine e_lsub dX3_twist_12 ?_
  refine e_lload dX3_twist_13 rfl ?_
  refine e_lload_n dX3_twist_15 rfl ?_
  refine e_lsub dX3_twist_16 ?_
  refine e_lmul dX3_twist_17 ?_
  refine e_lsub dX3_twist_18 ?_
  refine e_lret rfl dX3_twist_19 (by decide) (by decide) ?_
  exact ⟨rfl, rfl, rfl⟩
set_option maxRecDepth 20000 in
theorem S_signOf {v : Int} (hv : r64 v) : Pure G mX3_signOf [.long (lI v)] h (.int (iN (sg v))) := by
  intro z
  refine run_of rfl plX3 rfl ?_
  refine e_lload_n dX3_signOf_0 rfl ?_
  refine e_lconst dX3_signOf_1 ?_
  refine e_lif_le (tgt := 10) ⟨by have := hv.1; have := hv.2; first | omega | decide, by have := hv.1; have := hv.2; first | omega | decide⟩ ⟨by have := hv.1; have := hv.2; first | omega | decide, by have := hv.1; have := hv.2; first | omega | decide⟩ dX3_signOf_2 dX3_signOf_3 rfl (fun c_2 => ?_) (fun c_2 => ?_)
  · refine e_lload_n dX3_signOf_10 rfl ?_
    refine e_lconst dX3_signOf_11 ?_
    refine e_lif_ge (tgt := 20) ⟨by have := hv.1; have := hv.2; first | omega | decide, by have := hv.1; have := hv.2; first | omega | decide⟩ ⟨by have := hv.1; have := hv.2; first | omega | decide, by have := hv.1; have := hv.2; first | omega | decide⟩ dX3_signOf_12 dX3_signOf_13 rfl (fun c_12 => ?_) (fun c_12 => ?_)
    · refine e_iconst dX3_signOf_20 ?_
      refine e_iret rfl dX3_signOf_21 (by decide) (by decide) ?_
      exact ⟨by rw [show sg v = 0 by unfold sg; rw [if_neg (by have : v ≤ 0 := c_2; omega), if_neg (by have : 0 ≤ v := c_12; omega)]], rfl, rfl⟩
    · refine e_iconst dX3_signOf_16 ?_
      refine e_goto (tgt := 21) dX3_signOf_17 rfl ?_
      refine e_iret rfl dX3_signOf_21 (by decide) (by decide) ?_
      exact ⟨by rw [show sg v = -1 by unfold sg; rw [if_neg (by have : ¬ 0 ≤ v := c_12; omega), if_pos (by have : ¬ 0 ≤ v := c_12; omega)]], rfl, rfl⟩
  · refine e_iconst dX3_signOf_6 ?_
    refine e_goto (tgt := 21) dX3_signOf_7 rfl ?_
    refine e_iret rfl dX3_signOf_21 (by decide) (by decide) ?_
    exact ⟨by rw [show sg v = 1 by unfold sg; rw [if_pos (by have : ¬ v ≤ 0 := c_2; omega)]], rfl, rfl⟩
set_option maxRecDepth 20000 in
theorem S_isOn {ax ay bx by' x y : Int} (h1 : b4 ax) (h2 : b4 ay) (h3 : b4 bx) (h4 : b4 by') (h5 : b10 x) (h6 : b10 y) : Pure G mX3_isOn [.long (lI ax), .long (lI ay), .long (lI bx), .long (lI by'), .long (lI x), .long (lI y)] h (.int (iN (bP (on ax ay bx by' x y)))) := by
  intro z
  refine run_of rfl plX3 rfl ?_
  have ht := tw_bd h1 h2 h3 h4 h5 h6
  refine e_lload_n dX3_isOn_0 rfl ?_
  refine e_lload dX3_isOn_1 rfl ?_
  refine e_mminL ⟨by omega, by omega⟩ ⟨by omega, by omega⟩ qcX3_7 rfl dX3_isOn_3 ?_
  refine e_lload dX3_isOn_6 rfl ?_
  refine e_lif_gt (tgt := 70) ⟨by omega, by omega⟩ ⟨by omega, by omega⟩ dX3_isOn_8 dX3_isOn_9 rfl (fun c_8 => ?_) (fun c_8 => ?_)
  · refine e_iconst dX3_isOn_70 ?_
    refine e_zret rfl (Or.inl rfl) dX3_isOn_71 (by decide) (by decide) ?_
    exact ⟨by rw [bP_f (fun w => absurd w.1 (by omega))], rfl, rfl⟩
  · refine e_lload dX3_isOn_12 rfl ?_
    refine e_lload_n dX3_isOn_14 rfl ?_
    refine e_lload dX3_isOn_15 rfl ?_
    refine e_mmaxL ⟨by omega, by omega⟩ ⟨by omega, by omega⟩ qcX3_13 rfl dX3_isOn_17 ?_
    refine e_lif_gt (tgt := 70) ⟨by omega, by omega⟩ ⟨by omega, by omega⟩ dX3_isOn_20 dX3_isOn_21 rfl (fun c_20 => ?_) (fun c_20 => ?_)
    · refine e_iconst dX3_isOn_70 ?_
      refine e_zret rfl (Or.inl rfl) dX3_isOn_71 (by decide) (by decide) ?_
      exact ⟨by rw [bP_f (fun w => absurd w.2.1 (by omega))], rfl, rfl⟩
    · refine e_lload_n dX3_isOn_24 rfl ?_
      refine e_lload dX3_isOn_25 rfl ?_
      refine e_mminL ⟨by omega, by omega⟩ ⟨by omega, by omega⟩ qcX3_7 rfl dX3_isOn_27 ?_
      refine e_lload dX3_isOn_30 rfl ?_
      refine e_lif_gt (tgt := 70) ⟨by omega, by omega⟩ ⟨by omega, by omega⟩ dX3_isOn_32 dX3_isOn_33 rfl (fun c_32 => ?_) (fun c_32 => ?_)
      · refine e_iconst dX3_isOn_70 ?_
        refine e_zret rfl (Or.inl rfl) dX3_isOn_71 (by decide) (by decide) ?_
        exact ⟨by rw [bP_f (fun w => absurd w.2.2.1 (by omega))], rfl, rfl⟩
      · refine e_lload dX3_isOn_36 rfl ?_
        refine e_lload_n dX3_isOn_38 rfl ?_
        refine e_lload dX3_isOn_39 rfl ?_
        refine e_mmaxL ⟨by omega, by omega⟩ ⟨by omega, by omega⟩ qcX3_13 rfl dX3_isOn_41 ?_
        refine e_lif_gt (tgt := 70) ⟨by omega, by omega⟩ ⟨by omega, by omega⟩ dX3_isOn_44 dX3_isOn_45 rfl (fun c_44 => ?_) (fun c_44 => ?_)
        · refine e_iconst dX3_isOn_70 ?_
          refine e_zret rfl (Or.inl rfl) dX3_isOn_71 (by decide) (by decide) ?_
          exact ⟨by rw [bP_f (fun w => absurd w.2.2.2.1 (by omega))], rfl, rfl⟩
        · refine e_lload_n dX3_isOn_48 rfl ?_
          refine e_lload_n dX3_isOn_49 rfl ?_
          refine e_lload dX3_isOn_50 rfl ?_
          refine e_lload dX3_isOn_52 rfl ?_
          refine e_lload dX3_isOn_54 rfl ?_
          refine e_lload dX3_isOn_56 rfl ?_
          refine e_pureS qcX3_16 (S_twist ax ay bx by' x y) rfl rfl rfl rfl dX3_isOn_58 ?_
          refine e_lconst dX3_isOn_61 ?_
          refine e_lif_ne (tgt := 70) ⟨by omega, by omega⟩ r64_0 dX3_isOn_62 dX3_isOn_63 rfl (fun c_62 => ?_) (fun c_62 => ?_)
          · refine e_iconst dX3_isOn_70 ?_
            refine e_zret rfl (Or.inl rfl) dX3_isOn_71 (by decide) (by decide) ?_
            exact ⟨by rw [bP_f (fun w => c_62 w.2.2.2.2)], rfl, rfl⟩
          · refine e_iconst dX3_isOn_66 ?_
            refine e_goto (tgt := 71) dX3_isOn_67 rfl ?_
            refine e_zret rfl (Or.inr rfl) dX3_isOn_71 (by decide) (by decide) ?_
            exact ⟨by rw [bP_t ⟨by omega, by omega, by omega, by omega, Classical.not_not.mp c_62⟩], rfl, rfl⟩
abbrev tw3 (L : PL) (a b : Nat) (L2 : PL) (c : Nat) : Int := tw (pX L a) (pY L a) (pX L b) (pY L b) (pX L2 c) (pY L2 c)
abbrev sd3 (L : PL) (a b : Nat) (L2 : PL) (c : Nat) : Int := sg (tw3 L a b L2 c)
abbrev on3 (L : PL) (a b : Nat) (L2 : PL) (c : Nat) : Prop := on (pX L a) (pY L a) (pX L b) (pY L b) (pX L2 c) (pY L2 c)
abbrev pass3 (L : PL) (a b : Nat) (L2 : PL) (c d : Nat) : Prop := sd3 L a b L2 c * sd3 L a b L2 d < 0 ∧ sd3 L2 c d L a * sd3 L2 c d L b < 0
abbrev meet3 (L : PL) (a b : Nat) (L2 : PL) (c d : Nat) : Prop := pass3 L a b L2 c d ∨ on3 L a b L2 c ∨ on3 L a b L2 d ∨ on3 L2 c d L a ∨ on3 L2 c d L b
set_option maxRecDepth 20000 in
theorem S_isBetween (hr : rowAt G N L r h) (hr2 : rowAt G N2 L2 r2 h) {a b c : Nat} (ha : a < L.length) (hb : b < L.length) (hc : c < L2.length) : Pure G mX3_isBetween [.ref r, .int (iN a), .int (iN b), .ref r2, .int (iN c)] h (.int (iN (bP (on3 L a b L2 c)))) := by
  intro z
  refine run_of rfl plX3 rfl ?_
  have u1 := hr.2.2.1.at ha
  have u2 := hr.2.2.1.at hb
  have u3 := hr2.2.2.1.at hc
  refine e_aload_n dX3_isBetween_0 rfl ?_
  refine e_iload_n dX3_isBetween_1 rfl ?_
  refine e_pureV qcX3_22 hr.obj rfl rfl (S_xAt hr ha) rfl rfl rfl rfl dX3_isBetween_2 ?_
  refine e_i2l ⟨by omega, by omega⟩ dX3_isBetween_5 ?_
  refine e_aload_n dX3_isBetween_6 rfl ?_
  refine e_iload_n dX3_isBetween_7 rfl ?_
  refine e_pureV qcX3_28 hr.obj rfl rfl (S_yAt hr ha) rfl rfl rfl rfl dX3_isBetween_8 ?_
  refine e_i2l ⟨by omega, by omega⟩ dX3_isBetween_11 ?_
  refine e_aload_n dX3_isBetween_12 rfl ?_
  refine e_iload_n dX3_isBetween_13 rfl ?_
  refine e_pureV qcX3_22 hr.obj rfl rfl (S_xAt hr hb) rfl rfl rfl rfl dX3_isBetween_14 ?_
  refine e_i2l ⟨by omega, by omega⟩ dX3_isBetween_17 ?_
  refine e_aload_n dX3_isBetween_18 rfl ?_
  refine e_iload_n dX3_isBetween_19 rfl ?_
  refine e_pureV qcX3_28 hr.obj rfl rfl (S_yAt hr hb) rfl rfl rfl rfl dX3_isBetween_20 ?_
  refine e_i2l ⟨by omega, by omega⟩ dX3_isBetween_23 ?_
  refine e_aload_n dX3_isBetween_24 rfl ?_
  refine e_iload dX3_isBetween_25 rfl ?_
  refine e_pureV qcX3_22 hr2.obj rfl rfl (S_xAt hr2 hc) rfl rfl rfl rfl dX3_isBetween_27 ?_
  refine e_i2l ⟨by omega, by omega⟩ dX3_isBetween_30 ?_
  refine e_aload_n dX3_isBetween_31 rfl ?_
  refine e_iload dX3_isBetween_32 rfl ?_
  refine e_pureV qcX3_28 hr2.obj rfl rfl (S_yAt hr2 hc) rfl rfl rfl rfl dX3_isBetween_34 ?_
  refine e_i2l ⟨by omega, by omega⟩ dX3_isBetween_37 ?_
  refine e_pureS qcX3_31 (S_isOn ⟨by omega, by omega⟩ ⟨by omega, by omega⟩ ⟨by omega, by omega⟩ ⟨by omega, by omega⟩ ⟨by omega, by omega⟩ ⟨by omega, by omega⟩) rfl rfl rfl rfl dX3_isBetween_38 ?_
  refine e_zret rfl (bP_01 _) dX3_isBetween_41 (by decide) (by decide) ?_
  exact ⟨rfl, rfl, rfl⟩
set_option maxRecDepth 20000 in
theorem S_side (hr : rowAt G N L r h) (hr2 : rowAt G N2 L2 r2 h) {a b c : Nat} (ha : a < L.length) (hb : b < L.length) (hc : c < L2.length) : Pure G mX3_side [.ref r, .int (iN a), .int (iN b), .ref r2, .int (iN c)] h (.int (iN (sd3 L a b L2 c))) := by
  intro z
  refine run_of rfl plX3 rfl ?_
  have u1 := hr.2.2.1.at ha
  have u2 := hr.2.2.1.at hb
  have u3 := hr2.2.2.1.at hc
  have ht := tw_bd (ax := pX L a) (ay := pY L a) (bx := pX L b) (by' := pY L b) (x := pX L2 c) (y := pY L2 c) ⟨by omega, by omega⟩ ⟨by omega, by omega⟩ ⟨by omega, by omega⟩ ⟨by omega, by omega⟩ ⟨by omega, by omega⟩ ⟨by omega, by omega⟩
  refine e_aload_n dX3_side_0 rfl ?_
  refine e_iload_n dX3_side_1 rfl ?_
  refine e_pureV qcX3_22 hr.obj rfl rfl (S_xAt hr ha) rfl rfl rfl rfl dX3_side_2 ?_
  refine e_i2l ⟨by omega, by omega⟩ dX3_side_5 ?_
  refine e_aload_n dX3_side_6 rfl ?_
  refine e_iload_n dX3_side_7 rfl ?_
  refine e_pureV qcX3_28 hr.obj rfl rfl (S_yAt hr ha) rfl rfl rfl rfl dX3_side_8 ?_
  refine e_i2l ⟨by omega, by omega⟩ dX3_side_11 ?_
  refine e_aload_n dX3_side_12 rfl ?_
  refine e_iload_n dX3_side_13 rfl ?_
  refine e_pureV qcX3_22 hr.obj rfl rfl (S_xAt hr hb) rfl rfl rfl rfl dX3_side_14 ?_
  refine e_i2l ⟨by omega, by omega⟩ dX3_side_17 ?_
  refine e_aload_n dX3_side_18 rfl ?_
  refine e_iload_n dX3_side_19 rfl ?_
  refine e_pureV qcX3_28 hr.obj rfl rfl (S_yAt hr hb) rfl rfl rfl rfl dX3_side_20 ?_
  refine e_i2l ⟨by omega, by omega⟩ dX3_side_23 ?_
  refine e_aload_n dX3_side_24 rfl ?_
  refine e_iload dX3_side_25 rfl ?_
  refine e_pureV qcX3_22 hr2.obj rfl rfl (S_xAt hr2 hc) rfl rfl rfl rfl dX3_side_27 ?_
  refine e_i2l ⟨by omega, by omega⟩ dX3_side_30 ?_
  refine e_aload_n dX3_side_31 rfl ?_
  refine e_iload dX3_side_32 rfl ?_
  refine e_pureV qcX3_28 hr2.obj rfl rfl (S_yAt hr2 hc) rfl rfl rfl rfl dX3_side_34 ?_
  refine e_i2l ⟨by omega, by omega⟩ dX3_side_37 ?_
  refine e_pureS qcX3_16 (S_twist _ _ _ _ _ _) rfl rfl rfl rfl dX3_side_38 ?_
  refine e_lstore dX3_side_41 rfl ?_
  refine e_lload dX3_side_43 rfl ?_
  refine e_pureS qcX3_35 (S_signOf ⟨by omega, by omega⟩) rfl rfl rfl rfl dX3_side_45 ?_
  refine e_iret rfl dX3_side_48 (by decide) (by decide) ?_
  exact ⟨rfl, rfl, rfl⟩
set_option maxRecDepth 20000 in
theorem S_passThrough (hr : rowAt G N L r h) (hr2 : rowAt G N2 L2 r2 h) {a b c d : Nat} (ha : a < L.length) (hb : b < L.length) (hc : c < L2.length) (hd : d < L2.length) : Pure G mX3_passThrough [.ref r, .int (iN a), .int (iN b), .ref r2, .int (iN c), .int (iN d)] h (.int (iN (bP (pass3 L a b L2 c d)))) := by
  intro z
  refine run_of rfl plX3 rfl ?_
  have s1 := sg_bd (tw3 L a b L2 c)
  have s2 := sg_bd (tw3 L a b L2 d)
  have s3 := sg_bd (tw3 L2 c d L a)
  have s4 := sg_bd (tw3 L2 c d L b)
  have m1 : -1 ≤ sd3 L a b L2 c * sd3 L a b L2 d ∧ sd3 L a b L2 c * sd3 L a b L2 d ≤ 1 := mul_bd (A := 1) (B := 1) s1 s2
  have m2 : -1 ≤ sd3 L2 c d L a * sd3 L2 c d L b ∧ sd3 L2 c d L a * sd3 L2 c d L b ≤ 1 := mul_bd (A := 1) (B := 1) s3 s4
  refine e_aload_n dX3_passThrough_0 rfl ?_
  refine e_iload_n dX3_passThrough_1 rfl ?_
  refine e_iload_n dX3_passThrough_2 rfl ?_
  refine e_aload_n dX3_passThrough_3 rfl ?_
  refine e_iload dX3_passThrough_4 rfl ?_
  refine e_pureS qcX3_39 (S_side hr hr2 ha hb hc) rfl rfl rfl rfl dX3_passThrough_6 ?_
  refine e_aload_n dX3_passThrough_9 rfl ?_
  refine e_iload_n dX3_passThrough_10 rfl ?_
  refine e_iload_n dX3_passThrough_11 rfl ?_
  refine e_aload_n dX3_passThrough_12 rfl ?_
  refine e_iload dX3_passThrough_13 rfl ?_
  refine e_pureS qcX3_39 (S_side hr hr2 ha hb hd) rfl rfl rfl rfl dX3_passThrough_15 ?_
  refine e_imul dX3_passThrough_18 ?_
  refine e_if_ge (tgt := 50) ⟨by omega, by omega⟩ dX3_passThrough_19 rfl (fun c_19 => ?_) (fun c_19 => ?_)
  · refine e_iconst dX3_passThrough_50 ?_
    refine e_zret rfl (Or.inl rfl) dX3_passThrough_51 (by decide) (by decide) ?_
    exact ⟨by rw [bP_f (fun w => absurd w.1 (by omega))], rfl, rfl⟩
  · refine e_aload_n dX3_passThrough_22 rfl ?_
    refine e_iload dX3_passThrough_23 rfl ?_
    refine e_iload dX3_passThrough_25 rfl ?_
    refine e_aload_n dX3_passThrough_27 rfl ?_
    refine e_iload_n dX3_passThrough_28 rfl ?_
    refine e_pureS qcX3_39 (S_side hr2 hr hc hd ha) rfl rfl rfl rfl dX3_passThrough_29 ?_
    refine e_aload_n dX3_passThrough_32 rfl ?_
    refine e_iload dX3_passThrough_33 rfl ?_
    refine e_iload dX3_passThrough_35 rfl ?_
    refine e_aload_n dX3_passThrough_37 rfl ?_
    refine e_iload_n dX3_passThrough_38 rfl ?_
    refine e_pureS qcX3_39 (S_side hr2 hr hc hd hb) rfl rfl rfl rfl dX3_passThrough_39 ?_
    refine e_imul dX3_passThrough_42 ?_
    refine e_if_ge (tgt := 50) ⟨by omega, by omega⟩ dX3_passThrough_43 rfl (fun c_43 => ?_) (fun c_43 => ?_)
    · refine e_iconst dX3_passThrough_50 ?_
      refine e_zret rfl (Or.inl rfl) dX3_passThrough_51 (by decide) (by decide) ?_
      exact ⟨by rw [bP_f (fun w => absurd w.2 (by omega))], rfl, rfl⟩
    · refine e_iconst dX3_passThrough_46 ?_
      refine e_goto (tgt := 51) dX3_passThrough_47 rfl ?_
      refine e_zret rfl (Or.inr rfl) dX3_passThrough_51 (by decide) (by decide) ?_
      exact ⟨by rw [bP_t ⟨by omega, by omega⟩], rfl, rfl⟩
set_option maxRecDepth 20000 in
theorem S_meet (hr : rowAt G N L r h) (hr2 : rowAt G N2 L2 r2 h) {a b c d : Nat} (ha : a < L.length) (hb : b < L.length) (hc : c < L2.length) (hd : d < L2.length) : Pure G mX3_meet [.ref r, .int (iN a), .int (iN b), .ref r2, .int (iN c), .int (iN d)] h (.int (iN (bP (meet3 L a b L2 c d)))) := by
  intro z
  refine run_of rfl plX3 rfl ?_
  refine e_aload_n dX3_meet_0 rfl ?_
  refine e_iload_n dX3_meet_1 rfl ?_
  refine e_iload_n dX3_meet_2 rfl ?_
  refine e_aload_n dX3_meet_3 rfl ?_
  refine e_iload dX3_meet_4 rfl ?_
  refine e_iload dX3_meet_6 rfl ?_
  refine e_pureS qcX3_43 (S_passThrough hr hr2 ha hb hc hd) rfl rfl rfl rfl dX3_meet_8 ?_
  refine e_ifP_ne (tgt := 64) dX3_meet_11 rfl (fun c_11 => ?_) (fun c_11 => ?_)
  · refine e_iconst dX3_meet_64 ?_
    refine e_goto (tgt := 69) dX3_meet_65 rfl ?_
    refine e_zret rfl (Or.inr rfl) dX3_meet_69 (by decide) (by decide) ?_
    exact ⟨by rw [bP_t (Or.inl c_11)], rfl, rfl⟩
  · refine e_aload_n dX3_meet_14 rfl ?_
    refine e_iload_n dX3_meet_15 rfl ?_
    refine e_iload_n dX3_meet_16 rfl ?_
    refine e_aload_n dX3_meet_17 rfl ?_
    refine e_iload dX3_meet_18 rfl ?_
    refine e_pureS qcX3_47 (S_isBetween hr hr2 ha hb hc) rfl rfl rfl rfl dX3_meet_20 ?_
    refine e_ifP_ne (tgt := 64) dX3_meet_23 rfl (fun c_23 => ?_) (fun c_23 => ?_)
    · refine e_iconst dX3_meet_64 ?_
      refine e_goto (tgt := 69) dX3_meet_65 rfl ?_
      refine e_zret rfl (Or.inr rfl) dX3_meet_69 (by decide) (by decide) ?_
      exact ⟨by rw [bP_t (Or.inr (Or.inl c_23))], rfl, rfl⟩
    · refine e_aload_n dX3_meet_26 rfl ?_
      refine e_iload_n dX3_meet_27 rfl ?_
      refine e_iload_n dX3_meet_28 rfl ?_
      refine e_aload_n dX3_meet_29 rfl ?_
      refine e_iload dX3_meet_30 rfl ?_
      refine e_pureS qcX3_47 (S_isBetween hr hr2 ha hb hd) rfl rfl rfl rfl dX3_meet_32 ?_
      refine e_ifP_ne (tgt := 64) dX3_meet_35 rfl (fun c_35 => ?_) (fun c_35 => ?_)
      · refine e_iconst dX3_meet_64 ?_
        refine e_goto (tgt := 69) dX3_meet_65 rfl ?_
        refine e_zret rfl (Or.inr rfl) dX3_meet_69 (by decide) (by decide) ?_
        exact ⟨by rw [bP_t (Or.inr (Or.inr (Or.inl c_35)))], rfl, rfl⟩
      · refine e_aload_n dX3_meet_38 rfl ?_
        refine e_iload dX3_meet_39 rfl ?_
        refine e_iload dX3_meet_41 rfl ?_
        refine e_aload_n dX3_meet_43 rfl ?_
        refine e_iload_n dX3_meet_44 rfl ?_
        refine e_pureS qcX3_47 (S_isBetween hr2 hr hc hd ha) rfl rfl rfl rfl dX3_meet_45 ?_
        refine e_ifP_ne (tgt := 64) dX3_meet_48 rfl (fun c_48 => ?_) (fun c_48 => ?_)
        · refine e_iconst dX3_meet_64 ?_
          refine e_goto (tgt := 69) dX3_meet_65 rfl ?_
          refine e_zret rfl (Or.inr rfl) dX3_meet_69 (by decide) (by decide) ?_
          exact ⟨by rw [bP_t (Or.inr (Or.inr (Or.inr (Or.inl c_48))))], rfl, rfl⟩
        · refine e_aload_n dX3_meet_51 rfl ?_
          refine e_iload dX3_meet_52 rfl ?_
          refine e_iload dX3_meet_54 rfl ?_
          refine e_aload_n dX3_meet_56 rfl ?_
          refine e_iload_n dX3_meet_57 rfl ?_
          refine e_pureS qcX3_47 (S_isBetween hr2 hr hc hd hb) rfl rfl rfl rfl dX3_meet_58 ?_
          refine e_ifP_eq (tgt := 68) dX3_meet_61 rfl (fun c_61 => ?_) (fun c_61 => ?_)
          · refine e_iconst dX3_meet_68 ?_
            refine e_zret rfl (Or.inl rfl) dX3_meet_69 (by decide) (by decide) ?_
            exact ⟨by rw [bP_f (fun w => by rcases w with w | w | w | w | w <;> contradiction)], rfl, rfl⟩
          · refine e_iconst dX3_meet_64 ?_
            refine e_goto (tgt := 69) dX3_meet_65 rfl ?_
            refine e_zret rfl (Or.inr rfl) dX3_meet_69 (by decide) (by decide) ?_
            exact ⟨by rw [bP_t (Or.inr (Or.inr (Or.inr (Or.inr c_61))))], rfl, rfl⟩
/-- the loop of commonDivisor at its i-th turn -/
def gcI (D i g l : Nat) : Prop := Nat.gcd g l = D ∧ g < 2 ^ 62 ∧ l < 2 ^ 62 ∧ (i = 0 ∨ (l < g ∧ g * l < 2 ^ (127 - i)) ∨ l = 0)
theorem gcI_step {D i g l : Nat} (h : gcI D i g l) (hl : l ≠ 0) (hi : i ≤ 126) : gcI D (i + 1) l (g % l) := by
  obtain ⟨h1, h2, h3, h4⟩ := h
  have hm : g % l < l := Nat.mod_lt _ (by omega)
  refine ⟨by rw [← h1, Nat.gcd_comm g l, Nat.gcd_rec l g, Nat.gcd_comm], h3, by omega, Or.inr ?_⟩
  by_cases c : g % l = 0
  · exact Or.inr c
  · refine Or.inl ⟨hm, ?_⟩
    rcases h4 with h4 | ⟨h4, h5⟩ | h4
    · subst h4
      have q1 : l * (g % l) < 2 ^ 62 * 2 ^ 62 := Nat.mul_lt_mul_of_lt_of_lt h3 (by omega)
      exact Nat.lt_of_lt_of_le q1 (by decide)
    · have q0 := Nat.div_add_mod g l
      have q1 : 1 ≤ g / l := (Nat.one_le_div_iff (by omega)).mpr (by omega)
      have q2 : l * 1 ≤ l * (g / l) := Nat.mul_le_mul_left l q1
      have q3 : 2 * (g % l) ≤ g := by omega
      have q4 : 2 * (l * (g % l)) ≤ g * l := by
        have := Nat.mul_le_mul_left l q3
        rw [show l * (2 * (g % l)) = 2 * (l * (g % l)) by rw [Nat.mul_left_comm], Nat.mul_comm l g] at this
        exact this
      have q5 : 2 ^ (127 - i) = 2 * 2 ^ (127 - (i + 1)) := by
        rw [show 127 - i = (127 - (i + 1)) + 1 by omega, Nat.pow_succ, Nat.mul_comm]
      omega
    · exact absurd h4 hl
theorem gcI_end {D g l : Nat} (h : gcI D 127 g l) : l = 0 := by
  obtain ⟨h1, h2, h3, h4⟩ := h
  rcases h4 with h4 | ⟨h4, h5⟩ | h4
  · omega
  · rcases Nat.eq_zero_or_pos l with q | q
    · exact q
    · have := Nat.mul_le_mul (show 1 ≤ g by omega) q
      simp at h5
      omega
  · exact h4
set_option maxRecDepth 20000 in
theorem gc_loop {z : Option Nat} {D : Nat} : ∀ (n i g l : Nat), i + n = 127 → gcI D i g l → ∀ (L0 : List (Nat × Value)), g_sub L0 [(8, .int (iN i)), (4, .long (lI g)), (6, .long (lI l))] → Ev (g_B G mX3_commonDivisor 0 0 (fun o z1 h1 => o = .inl (some (.long (lI D))) ∧ z1 = z ∧ h1 = h)) 0 0 z h 15 L0 [] := by
  have done : ∀ g : Nat, gcI D 127 g 0 ∨ Nat.gcd g 0 = D → g = D := fun g q => by rcases q with q | q; exact (Nat.gcd_zero_right g).symm.trans q.1; exact (Nat.gcd_zero_right g).symm.trans q
  intro n
  induction n with
  | zero =>
    intro i g l hi hI L0 hL
    have e9 : i = 127 := by omega
    subst e9
    have l0 := gcI_end hI
    subst l0
    have hg := hI.2.1
    refine e_loc _ hL ?_
    refine e_iload dX3_commonDivisor_15 rfl ?_
    refine e_sipush dX3_commonDivisor_17 (by decide) ?_
    refine e_icmp_ge (tgt := 51) ⟨by omega, by omega⟩ ⟨by omega, by omega⟩ dX3_commonDivisor_20 rfl (fun c_20 => ?_) (fun c_20 => ?_)
    · exact absurd c_20 (by omega)
    · refine e_lload dX3_commonDivisor_23 rfl ?_
      refine e_lconst dX3_commonDivisor_25 ?_
      refine e_lif_eq (tgt := 51) ⟨by omega, by omega⟩ ⟨by decide, by decide⟩ dX3_commonDivisor_26 dX3_commonDivisor_27 rfl (fun c_26 => ?_) (fun c_26 => absurd (show ((0 : Nat) : Int) = ((0 : Fin 2) : Nat) from rfl) c_26)
      refine e_lload dX3_commonDivisor_51 rfl ?_
      refine e_lret rfl dX3_commonDivisor_53 (by decide) (by decide) ?_
      exact ⟨by rw [done g (Or.inl hI)], rfl, rfl⟩
  | succ n ih =>
    intro i g l hi hI L0 hL
    obtain ⟨h1, h2, h3, h4⟩ := id hI
    refine e_loc _ hL ?_
    refine e_iload dX3_commonDivisor_15 rfl ?_
    refine e_sipush dX3_commonDivisor_17 (by decide) ?_
    refine e_icmp_ge (tgt := 51) ⟨by omega, by omega⟩ ⟨by omega, by omega⟩ dX3_commonDivisor_20 rfl (fun c_20 => ?_) (fun c_20 => ?_)
    · exact absurd c_20 (by omega)
    · refine e_lload dX3_commonDivisor_23 rfl ?_
      refine e_lconst dX3_commonDivisor_25 ?_
      refine e_lif_eq (tgt := 51) ⟨by omega, by omega⟩ ⟨by decide, by decide⟩ dX3_commonDivisor_26 dX3_commonDivisor_27 rfl (fun c_26 => ?_) (fun c_26 => ?_)
      · refine e_lload dX3_commonDivisor_51 rfl ?_
        refine e_lret rfl dX3_commonDivisor_53 (by decide) (by decide) ?_
        have l0 : l = 0 := by have : (l : Int) = 0 := c_26; omega
        subst l0
        exact ⟨by rw [done g (Or.inr h1)], rfl, rfl⟩
      · refine e_lload dX3_commonDivisor_30 rfl ?_
        refine e_lload dX3_commonDivisor_32 rfl ?_
        refine e_lrem ⟨by omega, by omega⟩ ⟨by omega, by omega⟩ (fun q => c_26 q) dX3_commonDivisor_34 ?_
        refine e_lstore dX3_commonDivisor_35 rfl ?_
        refine e_lload dX3_commonDivisor_37 rfl ?_
        refine e_lstore dX3_commonDivisor_39 rfl ?_
        refine e_lload dX3_commonDivisor_41 rfl ?_
        refine e_lstore dX3_commonDivisor_43 rfl ?_
        refine e_iinc dX3_commonDivisor_45 rfl ?_
        refine e_goto (tgt := 15) dX3_commonDivisor_48 rfl ?_
        refine ih (i + 1) l (g % l) (by omega) (gcI_step hI (fun q => c_26 (by rw [q]; rfl)) (by omega)) _ ⟨rfl, rfl, ?_, trivial⟩
        show some (Value.long (lI ((g : Int).tmod l))) = _
        rw [show (g : Int).tmod l = ((g % l : Nat) : Int) from rfl]
set_option maxRecDepth 20000 in
theorem S_commonDivisor {a b : Int} (ha : -(2 ^ 62 - 1) ≤ a ∧ a ≤ 2 ^ 62 - 1) (hb : -(2 ^ 62 - 1) ≤ b ∧ b ≤ 2 ^ 62 - 1) : Pure G mX3_commonDivisor [.long (lI a), .long (lI b)] h (.long (lI (Nat.gcd a.natAbs b.natAbs))) := by
  intro z
  refine run_of rfl plX3 rfl ?_
  refine e_lload_n dX3_commonDivisor_0 rfl ?_
  refine e_mabsL ⟨by omega, by omega⟩ qcX3_51 rfl dX3_commonDivisor_1 ?_
  refine e_lstore dX3_commonDivisor_4 rfl ?_
  refine e_lload_n dX3_commonDivisor_6 rfl ?_
  refine e_mabsL ⟨by omega, by omega⟩ qcX3_51 rfl dX3_commonDivisor_7 ?_
  refine e_lstore dX3_commonDivisor_10 rfl ?_
  refine e_iconst dX3_commonDivisor_12 ?_
  refine e_istore dX3_commonDivisor_13 rfl ?_
  exact gc_loop 127 0 a.natAbs b.natAbs (by omega) ⟨rfl, by omega, by omega, Or.inl rfl⟩ _ ⟨rfl, rfl, rfl, trivial⟩
end PPLANE
