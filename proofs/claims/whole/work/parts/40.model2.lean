/-! The reference: small methods -/
section MTWO
variable {G : g_X} {sc : Nat → Int} {ar : Nat → Nat → Int} {m : Nat} {h0 h : g_hp}
theorem nrOK_iff {x y : Int} : nrOK x y ↔ (-200 ≤ x ∧ x ≤ 200) ∧ (-200 ≤ y ∧ y ≤ 200) := ⟨fun w => ⟨⟨w.1, w.2.1⟩, w.2.2⟩, fun w => ⟨w.1.1, w.1.2, w.2⟩⟩
set_option maxRecDepth 20000 in
theorem S_isPlace {x y : Int} (hx : r32 x) (hy : r32 y) : Pure G mX8_isPlace [.int (iN x), .int (iN y)] h (.int (iN (bP (nrOK x y)))) := by
  intro z
  refine run_of rfl plX8 rfl ?_
  refine e_iload_n dX8_isPlace_0 rfl ?_
  refine e_sipush dX8_isPlace_1 (by decide) ?_
  refine e_sipush dX8_isPlace_4 (by decide) ?_
  refine e_pureS qcX8_96 (S_min hx ⟨by decide, by decide⟩ ⟨by decide, by decide⟩) rfl rfl rfl rfl dX8_isPlace_7 ?_
  refine e_ifP_eq (tgt := 30) dX8_isPlace_10 rfl (fun c_10 => ?_) (fun c_10 => ?_)
  · refine e_iconst dX8_isPlace_30 ?_
    refine e_zret rfl (by first | exact Or.inl rfl | exact Or.inr rfl | exact bP_01 _) dX8_isPlace_31 (by decide) (by decide) ?_
    first | exact ⟨congrArg _ (congrArg _ (congrArg _ (congrArg _ (bP_t (nrOK_iff.mpr ⟨c_10, c_23⟩)).symm))), rfl, rfl⟩ | exact ⟨congrArg _ (congrArg _ (congrArg _ (congrArg _ (bP_f (fun w => c_10 (nrOK_iff.mp w).1)).symm))), rfl, rfl⟩ | exact ⟨congrArg _ (congrArg _ (congrArg _ (congrArg _ (bP_f (fun w => c_23 (nrOK_iff.mp w).2)).symm))), rfl, rfl⟩
  · refine e_iload_n dX8_isPlace_13 rfl ?_
    refine e_sipush dX8_isPlace_14 (by decide) ?_
    refine e_sipush dX8_isPlace_17 (by decide) ?_
    refine e_pureS qcX8_96 (S_min hy ⟨by decide, by decide⟩ ⟨by decide, by decide⟩) rfl rfl rfl rfl dX8_isPlace_20 ?_
    refine e_ifP_eq (tgt := 30) dX8_isPlace_23 rfl (fun c_23 => ?_) (fun c_23 => ?_)
    · refine e_iconst dX8_isPlace_30 ?_
      refine e_zret rfl (by first | exact Or.inl rfl | exact Or.inr rfl | exact bP_01 _) dX8_isPlace_31 (by decide) (by decide) ?_
      first | exact ⟨congrArg _ (congrArg _ (congrArg _ (congrArg _ (bP_t (nrOK_iff.mpr ⟨c_10, c_23⟩)).symm))), rfl, rfl⟩ | exact ⟨congrArg _ (congrArg _ (congrArg _ (congrArg _ (bP_f (fun w => c_10 (nrOK_iff.mp w).1)).symm))), rfl, rfl⟩ | exact ⟨congrArg _ (congrArg _ (congrArg _ (congrArg _ (bP_f (fun w => c_23 (nrOK_iff.mp w).2)).symm))), rfl, rfl⟩
    · refine e_iconst dX8_isPlace_26 ?_
      refine e_goto (tgt := 31) dX8_isPlace_27 rfl ?_
      refine e_zret rfl (by first | exact Or.inl rfl | exact Or.inr rfl | exact bP_01 _) dX8_isPlace_31 (by decide) (by decide) ?_
      first | exact ⟨congrArg _ (congrArg _ (congrArg _ (congrArg _ (bP_t (nrOK_iff.mpr ⟨c_10, c_23⟩)).symm))), rfl, rfl⟩ | exact ⟨congrArg _ (congrArg _ (congrArg _ (congrArg _ (bP_f (fun w => c_10 (nrOK_iff.mp w).1)).symm))), rfl, rfl⟩ | exact ⟨congrArg _ (congrArg _ (congrArg _ (congrArg _ (bP_f (fun w => c_23 (nrOK_iff.mp w).2)).symm))), rfl, rfl⟩
set_option maxRecDepth 20000 in
theorem S_amount {v : Int} (hv : r32 v) : Pure G mX8_amount [.int (iN v)] h (.int (iN (v.natAbs : Int))) := by
  have hv1 := hv.1
  have hv2 := hv.2
  intro z
  refine run_of rfl plX8 rfl ?_
  refine e_iload_n dX8_amount_0 rfl ?_
  refine e_if_ge (tgt := 10) ⟨by omega, by omega⟩ dX8_amount_1 rfl (fun c_1 => ?_) (fun c_1 => ?_)
  · refine e_iload_n dX8_amount_10 rfl ?_
    refine e_iret rfl dX8_amount_11 (by decide) (by decide) ?_
    first | exact ⟨congrArg _ (congrArg _ (congrArg _ (congrArg _ (show (0 : Int) - v = _ by omega)))), rfl, rfl⟩ | exact ⟨congrArg _ (congrArg _ (congrArg _ (congrArg _ (show v = _ by omega)))), rfl, rfl⟩
  · refine e_iconst dX8_amount_4 ?_
    refine e_iload_n dX8_amount_5 rfl ?_
    refine e_isub dX8_amount_6 ?_
    refine e_goto (tgt := 11) dX8_amount_7 rfl ?_
    refine e_iret rfl dX8_amount_11 (by decide) (by decide) ?_
    first | exact ⟨congrArg _ (congrArg _ (congrArg _ (congrArg _ (show (0 : Int) - v = _ by omega)))), rfl, rfl⟩ | exact ⟨congrArg _ (congrArg _ (congrArg _ (congrArg _ (show v = _ by omega)))), rfl, rfl⟩
set_option maxRecDepth 20000 in
theorem cm_loop {z : Option Nat} {D : Nat} : ∀ (n p q : Nat), q ≤ n → p < 2147483648 → q < 2147483648 → Nat.gcd p q = D → ∀ L0 : List (Nat × Value), g_sub L0 [(2, .int (iN p)), (3, .int (iN q))] → Ev (g_B G mX8_common 0 0 (fun o z1 h1 => o = .inl (some (.int (iN (D : Nat)))) ∧ z1 = z ∧ h1 = h)) 0 0 z h 10 L0 [] := by
  intro n
  induction n with
  | zero =>
    intro p q hn hp hq hD L0 hL
    have e9 : q = 0 := by omega
    subst e9
    rw [Nat.gcd_zero_right] at hD
    subst hD
    refine e_loc _ hL ?_
    refine e_iload_n dX8_common_10 rfl ?_
    refine e_if_le (tgt := 27) ⟨by omega, by omega⟩ dX8_common_11 rfl (fun c_11 => ?_) (fun c_11 => absurd (by omega) c_11)
    refine e_iload_n dX8_common_27 rfl ?_
    refine e_iret rfl dX8_common_28 (by decide) (by decide) ?_
    exact ⟨rfl, rfl, rfl⟩
  | succ n ih =>
    intro p q hn hp hq hD L0 hL
    refine e_loc _ hL ?_
    refine e_iload_n dX8_common_10 rfl ?_
    refine e_if_le (tgt := 27) ⟨by omega, by omega⟩ dX8_common_11 rfl (fun c_11 => ?_) (fun c_11 => ?_)
    · have e9 : q = 0 := by omega
      subst e9
      rw [Nat.gcd_zero_right] at hD
      subst hD
      refine e_iload_n dX8_common_27 rfl ?_
      refine e_iret rfl dX8_common_28 (by decide) (by decide) ?_
      exact ⟨rfl, rfl, rfl⟩
    · have hl := Nat.mod_lt p (show 0 < q by omega)
      refine e_iload_n dX8_common_14 rfl ?_
      refine e_iload_n dX8_common_15 rfl ?_
      refine e_irem ⟨by omega, by omega⟩ ⟨by omega, by omega⟩ (by omega) dX8_common_16 ?_
      rw [show ((p : Int)).tmod (q : Int) = ((p % q : Nat) : Int) from rfl]
      refine e_istore dX8_common_17 rfl ?_
      refine e_iload_n dX8_common_19 rfl ?_
      refine e_istore_n dX8_common_20 rfl ?_
      refine e_iload dX8_common_21 rfl ?_
      refine e_istore_n dX8_common_23 rfl ?_
      refine e_goto (tgt := 10) dX8_common_24 rfl ?_
      exact ih q (p % q) (by omega) hq (by omega) (by rw [Nat.gcd_comm, ← Nat.gcd_rec, Nat.gcd_comm]; exact hD) _ ⟨rfl, rfl, trivial⟩
set_option maxRecDepth 20000 in
theorem S_common {a b D : Nat} {x y : Int} (ea : x.natAbs = a) (eb : y.natAbs = b) (hD : Nat.gcd a b = D) (hx : -2147483647 ≤ x ∧ x ≤ 2147483647) (hy : -2147483647 ≤ y ∧ y ≤ 2147483647) : Pure G mX8_common [.int (iN x), .int (iN y)] h (.int (iN (D : Nat))) := by
  subst ea
  subst eb
  intro z
  refine run_of rfl plX8 rfl ?_
  refine e_iload_n dX8_common_0 rfl ?_
  refine e_pureS qcX8_100 (S_amount (v := x) ⟨by omega, by omega⟩) rfl rfl rfl rfl dX8_common_1 ?_
  refine e_istore_n dX8_common_4 rfl ?_
  refine e_iload_n dX8_common_5 rfl ?_
  refine e_pureS qcX8_100 (S_amount (v := y) ⟨by omega, by omega⟩) rfl rfl rfl rfl dX8_common_6 ?_
  refine e_istore_n dX8_common_9 rfl ?_
  exact cm_loop y.natAbs x.natAbs y.natAbs (Nat.le_refl _) (by omega) (by omega) hD _ ⟨rfl, rfl, trivial⟩
set_option maxRecDepth 20000 in
theorem S_turns {ax ay bx by' cx cy : Int} (hr : r64 (tw ax ay bx by' cx cy)) : Pure G mX8_turns [.long (lI ax), .long (lI ay), .long (lI bx), .long (lI by'), .long (lI cx), .long (lI cy)] h (.int (iN (sg (tw ax ay bx by' cx cy)))) := by
  intro z
  refine run_of rfl plX8 rfl ?_
  refine e_lload dX8_turns_0 rfl ?_
  refine e_lload_n dX8_turns_2 rfl ?_
  refine e_lsub dX8_turns_3 ?_
  refine e_lload dX8_turns_4 rfl ?_
  refine e_lload_n dX8_turns_6 rfl ?_
  refine e_lsub dX8_turns_7 ?_
  refine e_lmul dX8_turns_8 ?_
  refine e_lload dX8_turns_9 rfl ?_
  refine e_lload_n dX8_turns_11 rfl ?_
  refine e_lsub dX8_turns_12 ?_
  refine e_lload dX8_turns_13 rfl ?_
  refine e_lload_n dX8_turns_15 rfl ?_
  refine e_lsub dX8_turns_16 ?_
  refine e_lmul dX8_turns_17 ?_
  refine e_lsub dX8_turns_18 ?_
  rw [show (bx - ax) * (cy - ay) - (by' - ay) * (cx - ax) = tw ax ay bx by' cx cy from rfl]
  generalize tw ax ay bx by' cx cy = v at hr ⊢
  have hr1 := hr.1
  have hr2 := hr.2
  refine e_lstore dX8_turns_19 rfl ?_
  refine e_lload dX8_turns_21 rfl ?_
  refine e_lconst dX8_turns_23 ?_
  refine e_lif_le (tgt := 32) ⟨by omega, by omega⟩ ⟨by omega, by omega⟩ dX8_turns_24 dX8_turns_25 rfl (fun c_24 => ?_) (fun c_24 => ?_)
  · refine e_lload dX8_turns_32 rfl ?_
    refine e_lconst dX8_turns_34 ?_
    refine e_lif_ge (tgt := 43) ⟨by omega, by omega⟩ ⟨by omega, by omega⟩ dX8_turns_35 dX8_turns_36 rfl (fun c_35 => ?_) (fun c_35 => ?_)
    · refine e_iconst dX8_turns_43 ?_
      refine e_iret rfl dX8_turns_44 (by decide) (by decide) ?_
      first | exact ⟨congrArg _ (congrArg _ (congrArg _ (congrArg _ (show (1 : Int) = sg v by unfold sg; rw [if_pos (by omega)])))), rfl, rfl⟩ | exact ⟨congrArg _ (congrArg _ (congrArg _ (congrArg _ (show (-1 : Int) = sg v by unfold sg; rw [if_neg (by omega), if_pos (by omega)])))), rfl, rfl⟩ | exact ⟨congrArg _ (congrArg _ (congrArg _ (congrArg _ (show (0 : Int) = sg v by unfold sg; rw [if_neg (by omega), if_neg (by omega)])))), rfl, rfl⟩
    · refine e_iconst dX8_turns_39 ?_
      refine e_goto (tgt := 44) dX8_turns_40 rfl ?_
      refine e_iret rfl dX8_turns_44 (by decide) (by decide) ?_
      first | exact ⟨congrArg _ (congrArg _ (congrArg _ (congrArg _ (show (1 : Int) = sg v by unfold sg; rw [if_pos (by omega)])))), rfl, rfl⟩ | exact ⟨congrArg _ (congrArg _ (congrArg _ (congrArg _ (show (-1 : Int) = sg v by unfold sg; rw [if_neg (by omega), if_pos (by omega)])))), rfl, rfl⟩ | exact ⟨congrArg _ (congrArg _ (congrArg _ (congrArg _ (show (0 : Int) = sg v by unfold sg; rw [if_neg (by omega), if_neg (by omega)])))), rfl, rfl⟩
  · refine e_iconst dX8_turns_28 ?_
    refine e_goto (tgt := 44) dX8_turns_29 rfl ?_
    refine e_iret rfl dX8_turns_44 (by decide) (by decide) ?_
    first | exact ⟨congrArg _ (congrArg _ (congrArg _ (congrArg _ (show (1 : Int) = sg v by unfold sg; rw [if_pos (by omega)])))), rfl, rfl⟩ | exact ⟨congrArg _ (congrArg _ (congrArg _ (congrArg _ (show (-1 : Int) = sg v by unfold sg; rw [if_neg (by omega), if_pos (by omega)])))), rfl, rfl⟩ | exact ⟨congrArg _ (congrArg _ (congrArg _ (congrArg _ (show (0 : Int) = sg v by unfold sg; rw [if_neg (by omega), if_neg (by omega)])))), rfl, rfl⟩
theorem prod_le {a b x : Int} : (x - a) * (x - b) ≤ 0 ↔ min a b ≤ x ∧ x ≤ max a b := by
  constructor
  · intro w
    constructor
    · apply Classical.byContradiction
      intro c
      have h1 : 0 < a - x := by omega
      have h2 : 0 < b - x := by omega
      have h3 := Int.mul_pos h1 h2
      rw [show (a - x) * (b - x) = (x - a) * (x - b) by rw [← Int.neg_mul_neg, Int.neg_sub, Int.neg_sub]] at h3
      exact absurd h3 (Int.not_lt.mpr w)
    · apply Classical.byContradiction
      intro c
      have h3 := Int.mul_pos (show 0 < x - a by omega) (show 0 < x - b by omega)
      exact absurd h3 (Int.not_lt.mpr w)
  · intro w
    rcases Int.le_total a b with c | c
    · exact Int.mul_nonpos_of_nonneg_of_nonpos (show 0 ≤ x - a by omega) (show x - b ≤ 0 by omega)
    · exact Int.mul_nonpos_of_nonpos_of_nonneg (show x - a ≤ 0 by omega) (show 0 ≤ x - b by omega)
theorem on_iff {ax ay bx by' x y : Int} : on ax ay bx by' x y ↔ tw ax ay bx by' x y = 0 ∧ (x - ax) * (x - bx) ≤ 0 ∧ (y - ay) * (y - by') ≤ 0 := by
  rw [prod_le, prod_le]
  exact ⟨fun w => ⟨w.2.2.2.2, ⟨w.1, w.2.1⟩, w.2.2.1, w.2.2.2.1⟩, fun w => ⟨w.2.1.1, w.2.1.2, w.2.2.1, w.2.2.2, w.1⟩⟩
/-- small enough for the reference's products -/
abbrev b31 (v : Int) : Prop := -2147483648 ≤ v ∧ v ≤ 2147483647
theorem sg_0 {v : Int} : sg v = 0 ↔ v = 0 := by unfold sg; constructor <;> (intro w; split at * <;> (try split at *) <;> omega)
theorem twr {ax ay bx by' x y : Int} (h1 : b4 ax) (h2 : b4 ay) (h3 : b4 bx) (h4 : b4 by') (h5 : b31 x) (h6 : b31 y) : r64 (tw ax ay bx by' x y) := by
  have := tw_bd h1 h2 h3 h4 (show b10 x from ⟨by omega, by omega⟩) (show b10 y from ⟨by omega, by omega⟩)
  exact ⟨by omega, by omega⟩
set_option maxRecDepth 20000 in
theorem S_misOn {ax ay bx by' x y : Int} (h1 : b4 ax) (h2 : b4 ay) (h3 : b4 bx) (h4 : b4 by') (h5 : b31 x) (h6 : b31 y) : Pure G mX8_isOn [.long (lI ax), .long (lI ay), .long (lI bx), .long (lI by'), .long (lI x), .long (lI y)] h (.int (iN (bP (on ax ay bx by' x y)))) := by
  have hs := sg_bd (tw ax ay bx by' x y)
  have mx := mul_bd (a := x - ax) (b := x - bx) (A := 2147500000) (B := 2147500000) ⟨by omega, by omega⟩ ⟨by omega, by omega⟩
  have my := mul_bd (a := y - ay) (b := y - by') (A := 2147500000) (B := 2147500000) ⟨by omega, by omega⟩ ⟨by omega, by omega⟩
  intro z
  refine run_of rfl plX8 rfl ?_
  refine e_lload_n dX8_isOn_0 rfl ?_
  refine e_lload_n dX8_isOn_1 rfl ?_
  refine e_lload dX8_isOn_2 rfl ?_
  refine e_lload dX8_isOn_4 rfl ?_
  refine e_lload dX8_isOn_6 rfl ?_
  refine e_lload dX8_isOn_8 rfl ?_
  refine e_pureS qcX8_132 (S_turns (twr h1 h2 h3 h4 h5 h6)) rfl rfl rfl rfl dX8_isOn_10 ?_
  refine e_if_eq (tgt := 18) ⟨by omega, by omega⟩ dX8_isOn_13 rfl (fun c_13 => ?_) (fun c_13 => ?_)
  · have c0 : tw ax ay bx by' x y = 0 := sg_0.mp c_13
    refine e_lload dX8_isOn_18 rfl ?_
    refine e_lload_n dX8_isOn_20 rfl ?_
    refine e_lsub dX8_isOn_21 ?_
    refine e_lload dX8_isOn_22 rfl ?_
    refine e_lload dX8_isOn_24 rfl ?_
    refine e_lsub dX8_isOn_26 ?_
    refine e_lmul dX8_isOn_27 ?_
    refine e_lconst dX8_isOn_28 ?_
    refine e_lif_gt (tgt := 52) (x := (x - ax) * (x - bx)) ⟨by omega, by omega⟩ ⟨by decide, by decide⟩ dX8_isOn_29 dX8_isOn_30 rfl (fun c_29 => ?_) (fun c_29 => ?_)
    · refine e_iconst dX8_isOn_52 ?_
      refine e_zret rfl (by first | exact Or.inl rfl | exact Or.inr rfl | exact bP_01 _) dX8_isOn_53 (by decide) (by decide) ?_
      first | exact ⟨congrArg _ (congrArg _ (congrArg _ (congrArg _ (bP_t (on_iff.mpr ⟨c0, Int.not_lt.mp c_29, Int.not_lt.mp c_44⟩)).symm))), rfl, rfl⟩ | exact ⟨congrArg _ (congrArg _ (congrArg _ (congrArg _ (bP_f (fun w => absurd (on_iff.mp w).2.2 (Int.not_le.mpr c_44))).symm))), rfl, rfl⟩ | exact ⟨congrArg _ (congrArg _ (congrArg _ (congrArg _ (bP_f (fun w => absurd (on_iff.mp w).2.1 (Int.not_le.mpr c_29))).symm))), rfl, rfl⟩ | exact ⟨congrArg _ (congrArg _ (congrArg _ (congrArg _ (bP_f (fun w => c0 (on_iff.mp w).1)).symm))), rfl, rfl⟩
    · refine e_lload dX8_isOn_33 rfl ?_
      refine e_lload_n dX8_isOn_35 rfl ?_
      refine e_lsub dX8_isOn_36 ?_
      refine e_lload dX8_isOn_37 rfl ?_
      refine e_lload dX8_isOn_39 rfl ?_
      refine e_lsub dX8_isOn_41 ?_
      refine e_lmul dX8_isOn_42 ?_
      refine e_lconst dX8_isOn_43 ?_
      refine e_lif_gt (tgt := 52) (x := (y - ay) * (y - by')) ⟨by omega, by omega⟩ ⟨by decide, by decide⟩ dX8_isOn_44 dX8_isOn_45 rfl (fun c_44 => ?_) (fun c_44 => ?_)
      · refine e_iconst dX8_isOn_52 ?_
        refine e_zret rfl (by first | exact Or.inl rfl | exact Or.inr rfl | exact bP_01 _) dX8_isOn_53 (by decide) (by decide) ?_
        first | exact ⟨congrArg _ (congrArg _ (congrArg _ (congrArg _ (bP_t (on_iff.mpr ⟨c0, Int.not_lt.mp c_29, Int.not_lt.mp c_44⟩)).symm))), rfl, rfl⟩ | exact ⟨congrArg _ (congrArg _ (congrArg _ (congrArg _ (bP_f (fun w => absurd (on_iff.mp w).2.2 (Int.not_le.mpr c_44))).symm))), rfl, rfl⟩ | exact ⟨congrArg _ (congrArg _ (congrArg _ (congrArg _ (bP_f (fun w => absurd (on_iff.mp w).2.1 (Int.not_le.mpr c_29))).symm))), rfl, rfl⟩ | exact ⟨congrArg _ (congrArg _ (congrArg _ (congrArg _ (bP_f (fun w => c0 (on_iff.mp w).1)).symm))), rfl, rfl⟩
      · refine e_iconst dX8_isOn_48 ?_
        refine e_goto (tgt := 53) dX8_isOn_49 rfl ?_
        refine e_zret rfl (by first | exact Or.inl rfl | exact Or.inr rfl | exact bP_01 _) dX8_isOn_53 (by decide) (by decide) ?_
        first | exact ⟨congrArg _ (congrArg _ (congrArg _ (congrArg _ (bP_t (on_iff.mpr ⟨c0, Int.not_lt.mp c_29, Int.not_lt.mp c_44⟩)).symm))), rfl, rfl⟩ | exact ⟨congrArg _ (congrArg _ (congrArg _ (congrArg _ (bP_f (fun w => absurd (on_iff.mp w).2.2 (Int.not_le.mpr c_44))).symm))), rfl, rfl⟩ | exact ⟨congrArg _ (congrArg _ (congrArg _ (congrArg _ (bP_f (fun w => absurd (on_iff.mp w).2.1 (Int.not_le.mpr c_29))).symm))), rfl, rfl⟩ | exact ⟨congrArg _ (congrArg _ (congrArg _ (congrArg _ (bP_f (fun w => c0 (on_iff.mp w).1)).symm))), rfl, rfl⟩
  · have c0 : ¬ tw ax ay bx by' x y = 0 := fun w => c_13 (sg_0.mpr w)
    refine e_iconst dX8_isOn_16 ?_
    refine e_zret rfl (by first | exact Or.inl rfl | exact Or.inr rfl | exact bP_01 _) dX8_isOn_17 (by decide) (by decide) ?_
    first | exact ⟨congrArg _ (congrArg _ (congrArg _ (congrArg _ (bP_t (on_iff.mpr ⟨c0, Int.not_lt.mp c_29, Int.not_lt.mp c_44⟩)).symm))), rfl, rfl⟩ | exact ⟨congrArg _ (congrArg _ (congrArg _ (congrArg _ (bP_f (fun w => absurd (on_iff.mp w).2.2 (Int.not_le.mpr c_44))).symm))), rfl, rfl⟩ | exact ⟨congrArg _ (congrArg _ (congrArg _ (congrArg _ (bP_f (fun w => absurd (on_iff.mp w).2.1 (Int.not_le.mpr c_29))).symm))), rfl, rfl⟩ | exact ⟨congrArg _ (congrArg _ (congrArg _ (congrArg _ (bP_f (fun w => c0 (on_iff.mp w).1)).symm))), rfl, rfl⟩
set_option maxRecDepth 20000 in
theorem S_fails_t (X : mdX G sc ar m h0 h) {p : Prop} [Decidable p] (hp : p) (ht : sc 0 = 0) {c : Int} : Pure G mX8_fails [.ref m, .int (iN (bP p)), .int (iN c)] h (.int (iN 0)) := by
  intro z
  refine run_of rfl plX8 rfl ?_
  refine e_iload_n dX8_fails_0 rfl ?_
  refine e_ifP_ne (tgt := 16) dX8_fails_1 rfl (fun c_1 => ?_) (fun c_1 => absurd hp c_1)
  refine e_aload_n dX8_fails_16 rfl ?_
  refine e_getf fX8_1 X.obj rfl dX8_fails_17 ?_
  rw [ht]
  refine e_if_eq (tgt := 27) ⟨by decide, by decide⟩ dX8_fails_20 rfl (fun c_20 => ?_) (fun c_20 => absurd rfl c_20)
  refine e_iconst dX8_fails_27 ?_
  refine e_zret rfl (by first | exact Or.inl rfl | exact Or.inr rfl | exact bP_01 _) dX8_fails_28 (by decide) (by decide) ?_
  exact ⟨rfl, rfl, rfl⟩
set_option maxRecDepth 20000 in
theorem S_fails_f (X : mdX G sc ar m h0 h) {p : Prop} [Decidable p] (hp : ¬ p) (ht : sc 0 = 0) {c : Int} (hc : 1 ≤ c ∧ c ≤ 9) : Does G mX8_fails [.ref m, .int (iN (bP p)), .int (iN c)] h (fun v h1 => v = some (.int (iN 1)) ∧ mdX G (uI sc 0 c) ar m h0 h1) := by
  intro z
  refine run_of rfl plX8 rfl ?_
  refine e_iload_n dX8_fails_0 rfl ?_
  refine e_ifP_ne (tgt := 16) dX8_fails_1 rfl (fun c_1 => absurd c_1 hp) (fun c_1 => ?_)
  refine e_aload_n dX8_fails_4 rfl ?_
  refine e_getf fX8_1 X.obj rfl dX8_fails_5 ?_
  rw [ht]
  refine e_if_ne (tgt := 16) ⟨by decide, by decide⟩ dX8_fails_8 rfl (fun c_8 => absurd rfl c_8) (fun c_8 => ?_)
  refine e_aload_n dX8_fails_11 rfl ?_
  refine e_iload_n dX8_fails_12 rfl ?_
  refine e_putf pfX8_1 X.obj rfl rfl rfl dX8_fails_13 ?_
  refine X.pto (q := 0) (fun h9 X9 => ?_) rfl
  replace X := X9
  clear X9
  refine e_aload_n dX8_fails_16 rfl ?_
  refine e_getf fX8_1 X.obj rfl dX8_fails_17 ?_
  rw [show uI sc 0 c 0 = c from rfl]
  refine e_if_eq (tgt := 27) ⟨by omega, by omega⟩ dX8_fails_20 rfl (fun c_20 => absurd c_20 (by omega)) (fun c_20 => ?_)
  refine e_iconst dX8_fails_23 ?_
  refine e_goto (tgt := 28) dX8_fails_24 rfl ?_
  refine e_zret rfl (by first | exact Or.inl rfl | exact Or.inr rfl | exact bP_01 _) dX8_fails_28 (by decide) (by decide) ?_
  exact ⟨_, rfl, rfl, rfl, X⟩
/-- a check that fails: the number is put down -/
abbrev fld (G : g_X) (sc : Nat → Int) (ar : Nat → Nat → Int) (m : Nat) (h0 : g_hp) (c : Int) : Option Value → g_hp → Prop := fun v h1 => v = some (.int (iN 1)) ∧ mdX G (uI sc 0 c) ar m h0 h1
set_option maxRecDepth 20000 in
theorem S_noHeap_t (X : mdX G sc ar m h0 h) {a : Int} (ha : r32 a) (c : hpOK a) (ht : sc 0 = 0) : Pure G mX8_noHeap [.ref m, .int (iN a)] h (.int (iN 0)) := by
  intro z
  refine run_of rfl plX8 rfl ?_
  refine e_aload_n dX8_noHeap_0 rfl ?_
  refine e_iload_n dX8_noHeap_1 rfl ?_
  refine e_iconst dX8_noHeap_2 ?_
  refine e_iconst dX8_noHeap_3 ?_
  refine e_pureS qcX8_96 (S_min ha ⟨by decide, by decide⟩ ⟨by decide, by decide⟩) rfl rfl rfl rfl dX8_noHeap_4 ?_
  refine e_iconst dX8_noHeap_7 ?_
  refine e_pureV qcX8_104 X.obj rfl rfl (S_fails_t X (p := 0 ≤ a ∧ a ≤ 2) (by omega) ht) rfl rfl rfl rfl dX8_noHeap_8 ?_
  refine e_zret rfl (by first | exact Or.inl rfl | exact Or.inr rfl | exact bP_01 _) dX8_noHeap_11 (by decide) (by decide) ?_
  exact ⟨rfl, rfl, rfl⟩
set_option maxRecDepth 20000 in
theorem S_noHeap_f (X : mdX G sc ar m h0 h) {a : Int} (ha : r32 a) (c : ¬ (hpOK a)) (ht : sc 0 = 0) : Does G mX8_noHeap [.ref m, .int (iN a)] h (fld G sc ar m h0 1) := by
  intro z
  refine run_of rfl plX8 rfl ?_
  refine e_aload_n dX8_noHeap_0 rfl ?_
  refine e_iload_n dX8_noHeap_1 rfl ?_
  refine e_iconst dX8_noHeap_2 ?_
  refine e_iconst dX8_noHeap_3 ?_
  refine e_pureS qcX8_96 (S_min ha ⟨by decide, by decide⟩ ⟨by decide, by decide⟩) rfl rfl rfl rfl dX8_noHeap_4 ?_
  refine e_iconst dX8_noHeap_7 ?_
  refine e_doesV qcX8_104 X.obj rfl rfl (S_fails_f X (p := 0 ≤ a ∧ a ≤ 2) (by omega) ht ⟨by decide, by decide⟩) rfl rfl rfl rfl dX8_noHeap_8 ?_
  intro v h9 q9
  obtain ⟨rfl, X⟩ := q9
  refine e_zret rfl (by first | exact Or.inl rfl | exact Or.inr rfl | exact bP_01 _) dX8_noHeap_11 (by decide) (by decide) ?_
  exact ⟨_, rfl, rfl, rfl, X⟩
set_option maxRecDepth 20000 in
theorem S_noPolygon_t (X : mdX G sc ar m h0 h) {a : Int} (ha : r32 a) (c : pgOK a) (ht : sc 0 = 0) : Pure G mX8_noPolygon [.ref m, .int (iN a)] h (.int (iN 0)) := by
  intro z
  refine run_of rfl plX8 rfl ?_
  refine e_aload_n dX8_noPolygon_0 rfl ?_
  refine e_iload_n dX8_noPolygon_1 rfl ?_
  refine e_iconst dX8_noPolygon_2 ?_
  refine e_iconst dX8_noPolygon_3 ?_
  refine e_pureS qcX8_96 (S_min ha ⟨by decide, by decide⟩ ⟨by decide, by decide⟩) rfl rfl rfl rfl dX8_noPolygon_4 ?_
  refine e_iconst dX8_noPolygon_7 ?_
  refine e_pureV qcX8_104 X.obj rfl rfl (S_fails_t X (p := 0 ≤ a ∧ a ≤ 3) (by omega) ht) rfl rfl rfl rfl dX8_noPolygon_8 ?_
  refine e_zret rfl (by first | exact Or.inl rfl | exact Or.inr rfl | exact bP_01 _) dX8_noPolygon_11 (by decide) (by decide) ?_
  exact ⟨rfl, rfl, rfl⟩
set_option maxRecDepth 20000 in
theorem S_noPolygon_f (X : mdX G sc ar m h0 h) {a : Int} (ha : r32 a) (c : ¬ (pgOK a)) (ht : sc 0 = 0) : Does G mX8_noPolygon [.ref m, .int (iN a)] h (fld G sc ar m h0 1) := by
  intro z
  refine run_of rfl plX8 rfl ?_
  refine e_aload_n dX8_noPolygon_0 rfl ?_
  refine e_iload_n dX8_noPolygon_1 rfl ?_
  refine e_iconst dX8_noPolygon_2 ?_
  refine e_iconst dX8_noPolygon_3 ?_
  refine e_pureS qcX8_96 (S_min ha ⟨by decide, by decide⟩ ⟨by decide, by decide⟩) rfl rfl rfl rfl dX8_noPolygon_4 ?_
  refine e_iconst dX8_noPolygon_7 ?_
  refine e_doesV qcX8_104 X.obj rfl rfl (S_fails_f X (p := 0 ≤ a ∧ a ≤ 3) (by omega) ht ⟨by decide, by decide⟩) rfl rfl rfl rfl dX8_noPolygon_8 ?_
  intro v h9 q9
  obtain ⟨rfl, X⟩ := q9
  refine e_zret rfl (by first | exact Or.inl rfl | exact Or.inr rfl | exact bP_01 _) dX8_noPolygon_11 (by decide) (by decide) ?_
  exact ⟨_, rfl, rfl, rfl, X⟩
set_option maxRecDepth 20000 in
theorem S_noLine_t {E : PL} (X : mdX G sc ar m h0 h) (hE : mdE sc ar E) {a : Int} (ha : r32 a) (c : lnOK E a) (ht : sc 0 = 0) : Pure G mX8_noLine [.ref m, .int (iN a)] h (.int (iN 0)) := by
  obtain ⟨e1, -, e3, -⟩ := hE
  have ha1 := ha.1
  have ha2 := ha.2
  intro z
  refine run_of rfl plX8 rfl ?_
  refine e_aload_n dX8_noLine_0 rfl ?_
  refine e_iload_n dX8_noLine_1 rfl ?_
  refine e_iconst dX8_noLine_2 ?_
  refine e_aload_n dX8_noLine_3 rfl ?_
  refine e_getf fX8_281 X.obj rfl dX8_noLine_4 ?_
  rw [e1]
  refine e_iconst dX8_noLine_7 ?_
  refine e_isub dX8_noLine_8 ?_
  refine e_pureS qcX8_96 (S_min ha ⟨by decide, by decide⟩ ⟨by omega, by omega⟩) rfl rfl rfl rfl dX8_noLine_9 ?_
  refine e_iconst dX8_noLine_12 ?_
  refine e_pureV qcX8_104 X.obj rfl rfl (S_fails_t X (p := 0 ≤ a ∧ a ≤ ((E.length / 2 : Nat) : Int) - 1) (by omega) ht) rfl rfl rfl rfl dX8_noLine_13 ?_
  refine e_zret rfl (by first | exact Or.inl rfl | exact Or.inr rfl | exact bP_01 _) dX8_noLine_16 (by decide) (by decide) ?_
  exact ⟨rfl, rfl, rfl⟩
set_option maxRecDepth 20000 in
theorem S_noLine_f {E : PL} (X : mdX G sc ar m h0 h) (hE : mdE sc ar E) {a : Int} (ha : r32 a) (c : ¬ lnOK E a) (ht : sc 0 = 0) : Does G mX8_noLine [.ref m, .int (iN a)] h (fld G sc ar m h0 1) := by
  obtain ⟨e1, -, e3, -⟩ := hE
  have ha1 := ha.1
  have ha2 := ha.2
  intro z
  refine run_of rfl plX8 rfl ?_
  refine e_aload_n dX8_noLine_0 rfl ?_
  refine e_iload_n dX8_noLine_1 rfl ?_
  refine e_iconst dX8_noLine_2 ?_
  refine e_aload_n dX8_noLine_3 rfl ?_
  refine e_getf fX8_281 X.obj rfl dX8_noLine_4 ?_
  rw [e1]
  refine e_iconst dX8_noLine_7 ?_
  refine e_isub dX8_noLine_8 ?_
  refine e_pureS qcX8_96 (S_min ha ⟨by decide, by decide⟩ ⟨by omega, by omega⟩) rfl rfl rfl rfl dX8_noLine_9 ?_
  refine e_iconst dX8_noLine_12 ?_
  refine e_doesV qcX8_104 X.obj rfl rfl (S_fails_f X (p := 0 ≤ a ∧ a ≤ ((E.length / 2 : Nat) : Int) - 1) (by omega) ht ⟨by decide, by decide⟩) rfl rfl rfl rfl dX8_noLine_13 ?_
  intro v h9 q9
  obtain ⟨rfl, X⟩ := q9
  refine e_zret rfl (by first | exact Or.inl rfl | exact Or.inr rfl | exact bP_01 _) dX8_noLine_16 (by decide) (by decide) ?_
  exact ⟨_, rfl, rfl, rfl, X⟩
set_option maxRecDepth 20000 in
theorem S_noPoint_t {P : PL} (X : mdX G sc ar m h0 h) (hP : mdP sc ar P) {a : Int} (ha : r32 a) (c : isPt P a) (ht : sc 0 = 0) : Pure G mX8_noPoint [.ref m, .int (iN a)] h (.int (iN 0)) := by
  obtain ⟨e1, e2, e3, e4⟩ := hP
  have ha1 := ha.1
  have ha2 := ha.2
  intro z
  refine run_of rfl plX8 rfl ?_
  refine e_aload_n dX8_noPoint_0 rfl ?_
  refine e_iload_n dX8_noPoint_1 rfl ?_
  refine e_iconst dX8_noPoint_2 ?_
  refine e_aload_n dX8_noPoint_3 rfl ?_
  refine e_getf fX8_108 X.obj rfl dX8_noPoint_4 ?_
  refine e_iconst dX8_noPoint_7 ?_
  refine e_isub dX8_noPoint_8 ?_
  refine e_pureS qcX8_96 (S_min ha ⟨by decide, by decide⟩ ⟨by omega, by omega⟩) rfl rfl rfl rfl dX8_noPoint_9 ?_
  refine e_ifP_eq (tgt := 29) dX8_noPoint_12 rfl (fun c_12 => ?_) (fun c_12 => ?_)
  · refine e_iconst dX8_noPoint_29 ?_
    first | refine e_top (bP (isPt P a)) (bP_f (fun w => c_12 ⟨w.1, by have := w.2.1; omega⟩)).symm ?_ | refine e_top (bP (isPt P (n : Int))) (bP_f (fun w => w.2.2 c_22)).symm ?_
    refine e_iconst dX8_noPoint_30 ?_
    first | refine e_pureV qcX8_104 X.obj rfl rfl (S_fails_t X (p := isPt P a) c ht) rfl rfl rfl rfl dX8_noPoint_31 ?_ | refine e_pureV qcX8_104 X.obj rfl rfl (S_fails_t X (p := isPt P (n : Int)) c ht) rfl rfl rfl rfl dX8_noPoint_31 ?_
    refine e_zret rfl (by first | exact Or.inl rfl | exact Or.inr rfl | exact bP_01 _) dX8_noPoint_34 (by decide) (by decide) ?_
    exact ⟨rfl, rfl, rfl⟩
  · obtain ⟨n, rfl⟩ : ∃ n : Nat, a = (n : Int) := ⟨a.toNat, by omega⟩
    have hn : n < P.length := by omega
    have hb := (e3.at hn).2.2
    refine e_aload_n dX8_noPoint_15 rfl ?_
    refine e_getf fX8_13 X.obj rfl dX8_noPoint_16 ?_
    refine e_iload_n dX8_noPoint_19 rfl ?_
    refine e_ial X.a0 (by omega) (by omega) rfl (e4 n hn).1 dX8_noPoint_20 ?_
    refine e_iconst dX8_noPoint_21 ?_
    refine e_icmp_eq (tgt := 29) ⟨by omega, by omega⟩ ⟨by omega, by omega⟩ dX8_noPoint_22 rfl (fun c_22 => ?_) (fun c_22 => ?_)
    · refine e_iconst dX8_noPoint_29 ?_
      first | refine e_top (bP (isPt P a)) (bP_f (fun w => c_12 ⟨w.1, by have := w.2.1; omega⟩)).symm ?_ | refine e_top (bP (isPt P (n : Int))) (bP_f (fun w => w.2.2 c_22)).symm ?_
      refine e_iconst dX8_noPoint_30 ?_
      first | refine e_pureV qcX8_104 X.obj rfl rfl (S_fails_t X (p := isPt P a) c ht) rfl rfl rfl rfl dX8_noPoint_31 ?_ | refine e_pureV qcX8_104 X.obj rfl rfl (S_fails_t X (p := isPt P (n : Int)) c ht) rfl rfl rfl rfl dX8_noPoint_31 ?_
      refine e_zret rfl (by first | exact Or.inl rfl | exact Or.inr rfl | exact bP_01 _) dX8_noPoint_34 (by decide) (by decide) ?_
      exact ⟨rfl, rfl, rfl⟩
    · refine e_iconst dX8_noPoint_25 ?_
      refine e_top (bP (isPt P (n : Int))) (bP_t ⟨by omega, by omega, c_22⟩).symm ?_
      refine e_goto (tgt := 30) dX8_noPoint_26 rfl ?_
      refine e_iconst dX8_noPoint_30 ?_
      first | refine e_pureV qcX8_104 X.obj rfl rfl (S_fails_t X (p := isPt P a) c ht) rfl rfl rfl rfl dX8_noPoint_31 ?_ | refine e_pureV qcX8_104 X.obj rfl rfl (S_fails_t X (p := isPt P (n : Int)) c ht) rfl rfl rfl rfl dX8_noPoint_31 ?_
      refine e_zret rfl (by first | exact Or.inl rfl | exact Or.inr rfl | exact bP_01 _) dX8_noPoint_34 (by decide) (by decide) ?_
      exact ⟨rfl, rfl, rfl⟩
set_option maxRecDepth 20000 in
theorem S_noPoint_f {P : PL} (X : mdX G sc ar m h0 h) (hP : mdP sc ar P) {a : Int} (ha : r32 a) (c : ¬ isPt P a) (ht : sc 0 = 0) : Does G mX8_noPoint [.ref m, .int (iN a)] h (fld G sc ar m h0 1) := by
  obtain ⟨e1, e2, e3, e4⟩ := hP
  have ha1 := ha.1
  have ha2 := ha.2
  intro z
  refine run_of rfl plX8 rfl ?_
  refine e_aload_n dX8_noPoint_0 rfl ?_
  refine e_iload_n dX8_noPoint_1 rfl ?_
  refine e_iconst dX8_noPoint_2 ?_
  refine e_aload_n dX8_noPoint_3 rfl ?_
  refine e_getf fX8_108 X.obj rfl dX8_noPoint_4 ?_
  refine e_iconst dX8_noPoint_7 ?_
  refine e_isub dX8_noPoint_8 ?_
  refine e_pureS qcX8_96 (S_min ha ⟨by decide, by decide⟩ ⟨by omega, by omega⟩) rfl rfl rfl rfl dX8_noPoint_9 ?_
  refine e_ifP_eq (tgt := 29) dX8_noPoint_12 rfl (fun c_12 => ?_) (fun c_12 => ?_)
  · refine e_iconst dX8_noPoint_29 ?_
    first | refine e_top (bP (isPt P a)) (bP_f (fun w => c_12 ⟨w.1, by have := w.2.1; omega⟩)).symm ?_ | refine e_top (bP (isPt P (n : Int))) (bP_f (fun w => w.2.2 c_22)).symm ?_
    refine e_iconst dX8_noPoint_30 ?_
    first | refine e_doesV qcX8_104 X.obj rfl rfl (S_fails_f X (p := isPt P a) c ht ⟨by decide, by decide⟩) rfl rfl rfl rfl dX8_noPoint_31 ?_ | refine e_doesV qcX8_104 X.obj rfl rfl (S_fails_f X (p := isPt P (n : Int)) c ht ⟨by decide, by decide⟩) rfl rfl rfl rfl dX8_noPoint_31 ?_
    intro v h9 q9
    obtain ⟨rfl, X⟩ := q9
    refine e_zret rfl (by first | exact Or.inl rfl | exact Or.inr rfl | exact bP_01 _) dX8_noPoint_34 (by decide) (by decide) ?_
    exact ⟨_, rfl, rfl, rfl, X⟩
  · obtain ⟨n, rfl⟩ : ∃ n : Nat, a = (n : Int) := ⟨a.toNat, by omega⟩
    have hn : n < P.length := by omega
    have hb := (e3.at hn).2.2
    refine e_aload_n dX8_noPoint_15 rfl ?_
    refine e_getf fX8_13 X.obj rfl dX8_noPoint_16 ?_
    refine e_iload_n dX8_noPoint_19 rfl ?_
    refine e_ial X.a0 (by omega) (by omega) rfl (e4 n hn).1 dX8_noPoint_20 ?_
    refine e_iconst dX8_noPoint_21 ?_
    refine e_icmp_eq (tgt := 29) ⟨by omega, by omega⟩ ⟨by omega, by omega⟩ dX8_noPoint_22 rfl (fun c_22 => ?_) (fun c_22 => ?_)
    · refine e_iconst dX8_noPoint_29 ?_
      first | refine e_top (bP (isPt P a)) (bP_f (fun w => c_12 ⟨w.1, by have := w.2.1; omega⟩)).symm ?_ | refine e_top (bP (isPt P (n : Int))) (bP_f (fun w => w.2.2 c_22)).symm ?_
      refine e_iconst dX8_noPoint_30 ?_
      first | refine e_doesV qcX8_104 X.obj rfl rfl (S_fails_f X (p := isPt P a) c ht ⟨by decide, by decide⟩) rfl rfl rfl rfl dX8_noPoint_31 ?_ | refine e_doesV qcX8_104 X.obj rfl rfl (S_fails_f X (p := isPt P (n : Int)) c ht ⟨by decide, by decide⟩) rfl rfl rfl rfl dX8_noPoint_31 ?_
      intro v h9 q9
      obtain ⟨rfl, X⟩ := q9
      refine e_zret rfl (by first | exact Or.inl rfl | exact Or.inr rfl | exact bP_01 _) dX8_noPoint_34 (by decide) (by decide) ?_
      exact ⟨_, rfl, rfl, rfl, X⟩
    · refine e_iconst dX8_noPoint_25 ?_
      refine e_top (bP (isPt P (n : Int))) (bP_t ⟨by omega, by omega, c_22⟩).symm ?_
      refine e_goto (tgt := 30) dX8_noPoint_26 rfl ?_
      refine e_iconst dX8_noPoint_30 ?_
      first | refine e_doesV qcX8_104 X.obj rfl rfl (S_fails_f X (p := isPt P a) c ht ⟨by decide, by decide⟩) rfl rfl rfl rfl dX8_noPoint_31 ?_ | refine e_doesV qcX8_104 X.obj rfl rfl (S_fails_f X (p := isPt P (n : Int)) c ht ⟨by decide, by decide⟩) rfl rfl rfl rfl dX8_noPoint_31 ?_
      intro v h9 q9
      obtain ⟨rfl, X⟩ := q9
      refine e_zret rfl (by first | exact Or.inl rfl | exact Or.inr rfl | exact bP_01 _) dX8_noPoint_34 (by decide) (by decide) ?_
      exact ⟨_, rfl, rfl, rfl, X⟩
end MTWO
