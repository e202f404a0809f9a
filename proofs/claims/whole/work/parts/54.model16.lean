/-! The reference: pairs, boxes, checksum, mean, fill -/
theorem sqd_comm (P : PL) (i j : Nat) : sqd P i j = sqd P j i := by
  unfold sqd
  rw [← Int.neg_sub (pX P i) (pX P j), ← Int.neg_sub (pY P i) (pY P j), Int.neg_mul_neg, Int.neg_mul_neg]
def exK (P : PL) (a : Int) (u : Prop) [Decidable u] (p : Nat) (s : I2) (n : Nat) : I2 := if pM P p = a then exJ P a u p s n else s
def exV (P : PL) (s : I2) : Prop := s.1 = -1 ∨ ∃ i j : Nat, i < P.length ∧ j < P.length ∧ s.1 = 100 * (i : Int) + (j : Int) ∧ s.2 = sqd P i j
theorem exS_v {P : PL} {a : Int} {u : Prop} [Decidable u] {i j : Nat} {s : I2} (hi : i < P.length) (hj : j < P.length) (h : exV P s) : exV P (exS P a u i j s) := by
  unfold exS
  split
  · exact Or.inr ⟨i, j, hi, hj, rfl, rfl⟩
  · exact h
theorem exJ_v {P : PL} {a : Int} {u : Prop} [Decidable u] {i : Nat} {s : I2} (hi : i < P.length) (h : exV P s) : ∀ n, i + n < P.length → exV P (exJ P a u i s n)
  | 0, _ => h
  | n + 1, hn => exS_v hi (by omega) (exJ_v hi h n (by omega))
theorem exI_v {P : PL} {a : Int} {u : Prop} [Decidable u] : ∀ n, n ≤ P.length → exV P (exI P a u n)
  | 0, _ => Or.inl rfl
  | n + 1, hn => by
    unfold exI
    split
    · exact exJ_v (by omega) (exI_v n (by omega)) _ (by omega)
    · exact exI_v n (by omega)
theorem exK_v {P : PL} {a : Int} {u : Prop} [Decidable u] {i : Nat} {s : I2} (hi : i < P.length) (h : exV P s) (n : Nat) (hn : i + n < P.length) : exV P (exK P a u i s n) := by
  unfold exK
  split
  · exact exJ_v hi h n hn
  · exact h
theorem exK_s {P : PL} {a : Int} {u : Prop} [Decidable u] {i n : Nat} {s : I2} (c : pM P i = a) : exK P a u i s (n + 1) = exS P a u i (i + 1 + n) (exK P a u i s n) := by
  unfold exK
  rw [if_pos c, if_pos c]
  rfl
theorem exK_n {P : PL} {a : Int} {u : Prop} [Decidable u] {i n : Nat} {s : I2} (c : ¬ pM P i = a) : exK P a u i s n = s := if_neg c
theorem exI_k {P : PL} {a : Int} {u : Prop} [Decidable u] {n : Nat} : exI P a u (n + 1) = exK P a u n (exI P a u n) (P.length - (n + 1)) := rfl
/-- the point that tells a side of the box -/
abbrev bxV (P : PL) (w : Int) (p : Nat) : Int := if w < 2 then pX P p else pY P p
def bxC (P : PL) (a w : Int) (q : Option Nat) (p : Nat) : Prop := pM P p = a ∧ (match q with | none => True | some q => if w % 2 = 0 then bxV P w p < bxV P w q else bxV P w q < bxV P w p)
noncomputable def bxN (P : PL) (a w : Int) : Nat → Option Nat
  | 0 => none
  | p + 1 => cif (bxC P a w (bxN P a w p) p) (some p) (bxN P a w p)
theorem bxN_lt {P : PL} {a w : Int} : ∀ {n q : Nat}, bxN P a w n = some q → q < n
  | 0, _, h => by cases h
  | n + 1, q, h => by
    by_cases c : bxC P a w (bxN P a w n) n
    · rw [show bxN P a w (n + 1) = some n from cif_t c] at h
      cases h
      omega
    · rw [show bxN P a w (n + 1) = bxN P a w n from cif_f c] at h
      have := bxN_lt h
      omega
def enc0 : Option Nat → Int
  | none => -1
  | some q => (q : Int)
section MSIXTEEN
variable {G : g_X} {sc sc0 : Nat → Int} {ar : Nat → Nat → Int} {m : Nat} {h0 h : g_hp} {P E : PL} {S : Nat → PL} {b : Int} {P2 E2 : PL} {S2 : Nat → PL} {F : PL}
set_option maxRecDepth 20000 in
theorem po_inner {z : Option Nat} (X : mdX G sc ar m h0 h) (hP : mdP sc ar P) {a : Int} (ra : r32 a) {u : Prop} [Decidable u] {p : Nat} (hp : p < P.length) {s0 : I2} (hv0 : exV P s0) (k : Ev (g_B G mX8_pairOf 0 0 (fun o z1 h1 => o = .inl (some (.int (iN (exI P a u P.length).1))) ∧ z1 = z ∧ h1 = h)) 0 0 z h 130 [(4, .int (iN (p : Nat))), (3, .int (iN (exK P a u p s0 (P.length - (p + 1))).1)), (0, .ref m), (1, .int (iN a)), (2, .int (iN (bP u)))] []) : ∀ (n t : Nat), t + n = P.length - (p + 1) → Ev (g_B G mX8_pairOf 0 0 (fun o z1 h1 => o = .inl (some (.int (iN (exI P a u P.length).1))) ∧ z1 = z ∧ h1 = h)) 0 0 z h 20 [(5, .int (iN (p + 1 + t : Nat))), (4, .int (iN (p : Nat))), (3, .int (iN (exK P a u p s0 t).1)), (0, .ref m), (1, .int (iN a)), (2, .int (iN (bP u)))] [] := by
  have hP9 := hP
  obtain ⟨e1, e2, e3, e4⟩ := hP
  have ra1 := ra.1
  have ra2 := ra.2
  intro n
  induction n with
  | zero =>
    intro t htn
    have e9 : t = P.length - (p + 1) := by omega
    rw [← e9] at k
    refine e_iload dX8_pairOf_20 rfl ?_
    refine e_aload_n dX8_pairOf_22 rfl ?_
    refine e_getf fX8_108 X.obj rfl dX8_pairOf_23 ?_
    rw [e1]
    refine e_icmp_ge (tgt := 130) ⟨by omega, by omega⟩ ⟨by omega, by omega⟩ dX8_pairOf_26 rfl (fun c_26 => ?_) (fun c_26 => absurd (by omega) c_26)
    exact e_loc [(4, .int (iN (p : Nat))), (3, .int (iN (exK P a u p s0 t).1)), (0, .ref m), (1, .int (iN a)), (2, .int (iN (bP u)))] ⟨rfl, rfl, rfl, rfl, rfl, trivial⟩ k
  | succ n ih =>
    intro t htn
    have ho : p + 1 + t < P.length := by omega
    have b1 := (e3.at hp).2.2
    have b2 := (e3.at ho).2.2
    have hv := exK_v (a := a) (u := u) hp hv0 t (by omega)
    have hS := exK_s (P := P) (a := a) (u := u) (i := p) (n := t) (s := s0)
    have hN := exK_n (P := P) (a := a) (u := u) (i := p) (n := t + 1) (s := s0)
    have hN2 := exK_n (P := P) (a := a) (u := u) (i := p) (n := t) (s := s0)
    have d1 : 0 ≤ sqd P (p + 1 + t) p ∧ sqd P (p + 1 + t) p ≤ 1000000 := by
      have b1 := e3.at hp
      have b2 := e3.at ho
      have m1 := mul_bd (A := 400) (B := 400) (a := pX P p - pX P (p + 1 + t)) (b := pX P p - pX P (p + 1 + t)) ⟨by omega, by omega⟩ ⟨by omega, by omega⟩
      have m2 := mul_bd (A := 400) (B := 400) (a := pY P p - pY P (p + 1 + t)) (b := pY P p - pY P (p + 1 + t)) ⟨by omega, by omega⟩ ⟨by omega, by omega⟩
      have s1 : 0 ≤ (pX P p - pX P (p + 1 + t)) * (pX P p - pX P (p + 1 + t)) := by rcases Int.le_total 0 (pX P p - pX P (p + 1 + t)) with w | w; exact Int.mul_nonneg w w; exact Int.mul_nonneg_of_nonpos_of_nonpos w w
      have s2 : 0 ≤ (pY P p - pY P (p + 1 + t)) * (pY P p - pY P (p + 1 + t)) := by rcases Int.le_total 0 (pY P p - pY P (p + 1 + t)) with w | w; exact Int.mul_nonneg w w; exact Int.mul_nonneg_of_nonpos_of_nonpos w w
      show 0 ≤ (pX P p - pX P (p + 1 + t)) * (pX P p - pX P (p + 1 + t)) + (pY P p - pY P (p + 1 + t)) * (pY P p - pY P (p + 1 + t)) ∧ (pX P p - pX P (p + 1 + t)) * (pX P p - pX P (p + 1 + t)) + (pY P p - pY P (p + 1 + t)) * (pY P p - pY P (p + 1 + t)) ≤ 1000000
      generalize (pX P p - pX P (p + 1 + t)) * (pX P p - pX P (p + 1 + t)) = x1 at *
      generalize (pY P p - pY P (p + 1 + t)) * (pY P p - pY P (p + 1 + t)) = x2 at *
      omega
    have hqc := sqd_comm P p (p + 1 + t)
    generalize exK P a u p s0 t = s at *
    obtain ⟨s1, s2⟩ := s
    rcases hv with hv | ⟨i, j, hi, hj, hv1, hv2⟩
    · replace hv : s1 = -1 := hv
      refine e_iload dX8_pairOf_20 rfl ?_
      refine e_aload_n dX8_pairOf_22 rfl ?_
      refine e_getf fX8_108 X.obj rfl dX8_pairOf_23 ?_
      rw [e1]
      refine e_icmp_ge (tgt := 130) ⟨by omega, by omega⟩ ⟨by omega, by omega⟩ dX8_pairOf_26 rfl (fun c_26 => absurd c_26 (by omega)) (fun c_26 => ?_)
      refine e_aload_n dX8_pairOf_29 rfl ?_
      refine e_getf fX8_13 X.obj rfl dX8_pairOf_30 ?_
      refine e_iload dX8_pairOf_33 rfl ?_
      refine e_ial X.a0 (by omega) (by omega) rfl (e4 p hp).1 dX8_pairOf_35 ?_
      refine e_iload_n dX8_pairOf_36 rfl ?_
      refine e_icmp_ne (tgt := 124) ⟨by omega, by omega⟩ ⟨by omega, by omega⟩ dX8_pairOf_37 rfl (fun c_37 => ?_) (fun c_37 => ?_)
      · have e6 : (exK P a u p s0 (t + 1)) = (s1, s2) := (hN c_37).trans (hN2 c_37).symm
        refine e_iinc dX8_pairOf_124 rfl ?_
        refine e_goto (tgt := 20) dX8_pairOf_127 rfl ?_
        exact e_loc [(5, .int (iN (p + 1 + (t + 1) : Nat))), (4, .int (iN (p : Nat))), (3, .int (iN (exK P a u p s0 (t + 1)).1)), (0, .ref m), (1, .int (iN a)), (2, .int (iN (bP u)))] ⟨rfl, rfl, by rw [e6]; rfl, rfl, rfl, rfl, trivial⟩ (ih (t + 1) (by omega))
      · refine e_aload_n dX8_pairOf_40 rfl ?_
        refine e_getf fX8_13 X.obj rfl dX8_pairOf_41 ?_
        refine e_iload dX8_pairOf_44 rfl ?_
        refine e_ial X.a0 (by omega) (by omega) rfl (e4 _ ho).1 dX8_pairOf_46 ?_
        refine e_iload_n dX8_pairOf_47 rfl ?_
        refine e_icmp_eq (tgt := 54) ⟨by omega, by omega⟩ ⟨by omega, by omega⟩ dX8_pairOf_48 rfl (fun c_48 => ?_) (fun c_48 => ?_)
        · refine e_iload_n dX8_pairOf_54 rfl ?_
          refine e_iconst dX8_pairOf_55 ?_
          refine e_icmp_ne (tgt := 63) (x := s1) (y := -1) ⟨by omega, by omega⟩ ⟨by decide, by decide⟩ dX8_pairOf_56 rfl (fun c_56 => absurd hv c_56) (fun c_56 => ?_)
          refine e_iconst dX8_pairOf_59 ?_
          refine e_goto (tgt := 75) dX8_pairOf_60 rfl ?_
          refine e_istore dX8_pairOf_75 rfl ?_
          refine e_iload_n dX8_pairOf_77 rfl ?_
          refine e_iconst dX8_pairOf_78 ?_
          refine e_icmp_eq (tgt := 115) (x := s1) (y := -1) ⟨by omega, by omega⟩ ⟨by decide, by decide⟩ dX8_pairOf_79 rfl (fun c_79 => ?_) (fun c_79 => absurd hv c_79)
          have e6 : (exK P a u p s0 (t + 1)) = (100 * (p : Int) + ((p + 1 + t : Nat) : Int), sqd P p (p + 1 + t)) := (hS (Decidable.of_not_not c_37)).trans (exS_new c_48 (Or.inl (show s1 < 0 by omega)))
          refine e_bipush dX8_pairOf_115 (by decide) ?_
          refine e_iload dX8_pairOf_117 rfl ?_
          refine e_imul dX8_pairOf_119 ?_
          refine e_iload dX8_pairOf_120 rfl ?_
          refine e_iadd dX8_pairOf_122 ?_
          refine e_istore_n dX8_pairOf_123 rfl ?_
          refine e_iinc dX8_pairOf_124 rfl ?_
          refine e_goto (tgt := 20) dX8_pairOf_127 rfl ?_
          exact e_loc [(5, .int (iN (p + 1 + (t + 1) : Nat))), (4, .int (iN (p : Nat))), (3, .int (iN (exK P a u p s0 (t + 1)).1)), (0, .ref m), (1, .int (iN a)), (2, .int (iN (bP u)))] ⟨rfl, rfl, by rw [e6]; rfl, rfl, rfl, rfl, trivial⟩ (ih (t + 1) (by omega))
        · have e6 : (exK P a u p s0 (t + 1)) = (s1, s2) := (hS (Decidable.of_not_not c_37)).trans (exS_no c_48)
          refine e_goto (tgt := 124) dX8_pairOf_51 rfl ?_
          refine e_iinc dX8_pairOf_124 rfl ?_
          refine e_goto (tgt := 20) dX8_pairOf_127 rfl ?_
          exact e_loc [(5, .int (iN (p + 1 + (t + 1) : Nat))), (4, .int (iN (p : Nat))), (3, .int (iN (exK P a u p s0 (t + 1)).1)), (0, .ref m), (1, .int (iN a)), (2, .int (iN (bP u)))] ⟨rfl, rfl, by rw [e6]; rfl, rfl, rfl, rfl, trivial⟩ (ih (t + 1) (by omega))
    · replace hv1 : s1 = 100 * (i : Int) + (j : Int) := hv1
      replace hv2 : s2 = sqd P i j := hv2
      have d2 : 0 ≤ s2 ∧ s2 ≤ 32000000 := by
        rw [hv2]
        exact sqd_bd (fun e he => by
          obtain ⟨q, hq, rfl⟩ := List.mem_iff_getElem.mp he
          have := e3 q hq
          unfold pX pY pM at this
          rw [getD_at hq] at this
          exact ⟨⟨by omega, by omega⟩, ⟨by omega, by omega⟩, ⟨by omega, by omega⟩⟩) hi hj
      refine e_iload dX8_pairOf_20 rfl ?_
      refine e_aload_n dX8_pairOf_22 rfl ?_
      refine e_getf fX8_108 X.obj rfl dX8_pairOf_23 ?_
      rw [e1]
      refine e_icmp_ge (tgt := 130) ⟨by omega, by omega⟩ ⟨by omega, by omega⟩ dX8_pairOf_26 rfl (fun c_26 => absurd c_26 (by omega)) (fun c_26 => ?_)
      refine e_aload_n dX8_pairOf_29 rfl ?_
      refine e_getf fX8_13 X.obj rfl dX8_pairOf_30 ?_
      refine e_iload dX8_pairOf_33 rfl ?_
      refine e_ial X.a0 (by omega) (by omega) rfl (e4 p hp).1 dX8_pairOf_35 ?_
      refine e_iload_n dX8_pairOf_36 rfl ?_
      refine e_icmp_ne (tgt := 124) ⟨by omega, by omega⟩ ⟨by omega, by omega⟩ dX8_pairOf_37 rfl (fun c_37 => ?_) (fun c_37 => ?_)
      · have e6 : (exK P a u p s0 (t + 1)) = (s1, s2) := (hN c_37).trans (hN2 c_37).symm
        refine e_iinc dX8_pairOf_124 rfl ?_
        refine e_goto (tgt := 20) dX8_pairOf_127 rfl ?_
        exact e_loc [(5, .int (iN (p + 1 + (t + 1) : Nat))), (4, .int (iN (p : Nat))), (3, .int (iN (exK P a u p s0 (t + 1)).1)), (0, .ref m), (1, .int (iN a)), (2, .int (iN (bP u)))] ⟨rfl, rfl, by rw [e6]; rfl, rfl, rfl, rfl, trivial⟩ (ih (t + 1) (by omega))
      · refine e_aload_n dX8_pairOf_40 rfl ?_
        refine e_getf fX8_13 X.obj rfl dX8_pairOf_41 ?_
        refine e_iload dX8_pairOf_44 rfl ?_
        refine e_ial X.a0 (by omega) (by omega) rfl (e4 _ ho).1 dX8_pairOf_46 ?_
        refine e_iload_n dX8_pairOf_47 rfl ?_
        refine e_icmp_eq (tgt := 54) ⟨by omega, by omega⟩ ⟨by omega, by omega⟩ dX8_pairOf_48 rfl (fun c_48 => ?_) (fun c_48 => ?_)
        · refine e_iload_n dX8_pairOf_54 rfl ?_
          refine e_iconst dX8_pairOf_55 ?_
          refine e_icmp_ne (tgt := 63) (x := s1) (y := -1) ⟨by omega, by omega⟩ ⟨by decide, by decide⟩ dX8_pairOf_56 rfl (fun c_56 => ?_) (fun c_56 => absurd (show s1 = -1 by omega) (by omega))
          refine e_aload_n dX8_pairOf_63 rfl ?_
          refine e_iload_n dX8_pairOf_64 rfl ?_
          refine e_bipush dX8_pairOf_65 (by decide) ?_
          refine e_idiv ⟨by omega, by omega⟩ ⟨by decide, by decide⟩ (by decide) dX8_pairOf_67 ?_
          rw [show s1.tdiv 100 = ((i : Nat) : Int) from by rw [hv1, Int.tdiv_eq_ediv_of_nonneg (by omega)]; omega]
          refine e_iload_n dX8_pairOf_68 rfl ?_
          refine e_bipush dX8_pairOf_69 (by decide) ?_
          refine e_irem ⟨by omega, by omega⟩ ⟨by decide, by decide⟩ (by decide) dX8_pairOf_71 ?_
          rw [show s1.tmod 100 = ((j : Nat) : Int) from by rw [hv1, Int.tmod_eq_emod_of_nonneg (by omega)]; omega]
          refine e_pureV qcX8_296 X.obj rfl rfl (S_squared X hP9 hi hj) rfl rfl rfl rfl dX8_pairOf_72 ?_
          rw [show sqd P j i = s2 from (sqd_comm P j i).trans hv2.symm]
          refine e_istore dX8_pairOf_75 rfl ?_
          refine e_iload_n dX8_pairOf_77 rfl ?_
          refine e_iconst dX8_pairOf_78 ?_
          refine e_icmp_eq (tgt := 115) (x := s1) (y := -1) ⟨by omega, by omega⟩ ⟨by decide, by decide⟩ dX8_pairOf_79 rfl (fun c_79 => absurd c_79 (by omega)) (fun c_79 => ?_)
          refine e_iload_n dX8_pairOf_82 rfl ?_
          refine e_ifP_eq (tgt := 102) dX8_pairOf_83 rfl (fun c_83 => ?_) (fun c_83 => ?_)
          · refine e_aload_n dX8_pairOf_102 rfl ?_
            refine e_iload dX8_pairOf_103 rfl ?_
            refine e_iload dX8_pairOf_105 rfl ?_
            refine e_pureV qcX8_296 X.obj rfl rfl (S_squared X hP9 hp ho) rfl rfl rfl rfl dX8_pairOf_107 ?_
            refine e_iload dX8_pairOf_110 rfl ?_
            refine e_icmp_ge (tgt := 124) ⟨by omega, by omega⟩ ⟨by omega, by omega⟩ dX8_pairOf_112 rfl (fun c_112 => ?_) (fun c_112 => ?_)
            · have e6 : (exK P a u p s0 (t + 1)) = (s1, s2) := (hS (Decidable.of_not_not c_37)).trans (exS_old (show ¬ s1 < 0 by omega) (fun w => w.elim (fun w => c_83 w.1) (fun w => absurd w.2 (by rw [hqc]; exact Int.not_lt.mpr c_112))))
              refine e_iinc dX8_pairOf_124 rfl ?_
              refine e_goto (tgt := 20) dX8_pairOf_127 rfl ?_
              exact e_loc [(5, .int (iN (p + 1 + (t + 1) : Nat))), (4, .int (iN (p : Nat))), (3, .int (iN (exK P a u p s0 (t + 1)).1)), (0, .ref m), (1, .int (iN a)), (2, .int (iN (bP u)))] ⟨rfl, rfl, by rw [e6]; rfl, rfl, rfl, rfl, trivial⟩ (ih (t + 1) (by omega))
            · have e6 : (exK P a u p s0 (t + 1)) = (100 * (p : Int) + ((p + 1 + t : Nat) : Int), sqd P p (p + 1 + t)) := (hS (Decidable.of_not_not c_37)).trans (exS_new c_48 (Or.inr (Or.inr ⟨c_83, by rw [hqc]; exact Int.not_le.mp c_112⟩)))
              refine e_bipush dX8_pairOf_115 (by decide) ?_
              refine e_iload dX8_pairOf_117 rfl ?_
              refine e_imul dX8_pairOf_119 ?_
              refine e_iload dX8_pairOf_120 rfl ?_
              refine e_iadd dX8_pairOf_122 ?_
              refine e_istore_n dX8_pairOf_123 rfl ?_
              refine e_iinc dX8_pairOf_124 rfl ?_
              refine e_goto (tgt := 20) dX8_pairOf_127 rfl ?_
              exact e_loc [(5, .int (iN (p + 1 + (t + 1) : Nat))), (4, .int (iN (p : Nat))), (3, .int (iN (exK P a u p s0 (t + 1)).1)), (0, .ref m), (1, .int (iN a)), (2, .int (iN (bP u)))] ⟨rfl, rfl, by rw [e6]; rfl, rfl, rfl, rfl, trivial⟩ (ih (t + 1) (by omega))
          · refine e_aload_n dX8_pairOf_86 rfl ?_
            refine e_iload dX8_pairOf_87 rfl ?_
            refine e_iload dX8_pairOf_89 rfl ?_
            refine e_pureV qcX8_296 X.obj rfl rfl (S_squared X hP9 hp ho) rfl rfl rfl rfl dX8_pairOf_91 ?_
            refine e_iload dX8_pairOf_94 rfl ?_
            refine e_icmp_le (tgt := 124) ⟨by omega, by omega⟩ ⟨by omega, by omega⟩ dX8_pairOf_96 rfl (fun c_96 => ?_) (fun c_96 => ?_)
            · have e6 : (exK P a u p s0 (t + 1)) = (s1, s2) := (hS (Decidable.of_not_not c_37)).trans (exS_old (show ¬ s1 < 0 by omega) (fun w => w.elim (fun w => absurd w.2 (by rw [hqc]; exact Int.not_lt.mpr c_96)) (fun w => w.1 c_83)))
              refine e_iinc dX8_pairOf_124 rfl ?_
              refine e_goto (tgt := 20) dX8_pairOf_127 rfl ?_
              exact e_loc [(5, .int (iN (p + 1 + (t + 1) : Nat))), (4, .int (iN (p : Nat))), (3, .int (iN (exK P a u p s0 (t + 1)).1)), (0, .ref m), (1, .int (iN a)), (2, .int (iN (bP u)))] ⟨rfl, rfl, by rw [e6]; rfl, rfl, rfl, rfl, trivial⟩ (ih (t + 1) (by omega))
            · have e6 : (exK P a u p s0 (t + 1)) = (100 * (p : Int) + ((p + 1 + t : Nat) : Int), sqd P p (p + 1 + t)) := (hS (Decidable.of_not_not c_37)).trans (exS_new c_48 (Or.inr (Or.inl ⟨c_83, by rw [hqc]; exact Int.not_le.mp c_96⟩)))
              refine e_goto (tgt := 115) dX8_pairOf_99 rfl ?_
              refine e_bipush dX8_pairOf_115 (by decide) ?_
              refine e_iload dX8_pairOf_117 rfl ?_
              refine e_imul dX8_pairOf_119 ?_
              refine e_iload dX8_pairOf_120 rfl ?_
              refine e_iadd dX8_pairOf_122 ?_
              refine e_istore_n dX8_pairOf_123 rfl ?_
              refine e_iinc dX8_pairOf_124 rfl ?_
              refine e_goto (tgt := 20) dX8_pairOf_127 rfl ?_
              exact e_loc [(5, .int (iN (p + 1 + (t + 1) : Nat))), (4, .int (iN (p : Nat))), (3, .int (iN (exK P a u p s0 (t + 1)).1)), (0, .ref m), (1, .int (iN a)), (2, .int (iN (bP u)))] ⟨rfl, rfl, by rw [e6]; rfl, rfl, rfl, rfl, trivial⟩ (ih (t + 1) (by omega))
        · have e6 : (exK P a u p s0 (t + 1)) = (s1, s2) := (hS (Decidable.of_not_not c_37)).trans (exS_no c_48)
          refine e_goto (tgt := 124) dX8_pairOf_51 rfl ?_
          refine e_iinc dX8_pairOf_124 rfl ?_
          refine e_goto (tgt := 20) dX8_pairOf_127 rfl ?_
          exact e_loc [(5, .int (iN (p + 1 + (t + 1) : Nat))), (4, .int (iN (p : Nat))), (3, .int (iN (exK P a u p s0 (t + 1)).1)), (0, .ref m), (1, .int (iN a)), (2, .int (iN (bP u)))] ⟨rfl, rfl, by rw [e6]; rfl, rfl, rfl, rfl, trivial⟩ (ih (t + 1) (by omega))
set_option maxRecDepth 20000 in
theorem po_outer {z : Option Nat} (X : mdX G sc ar m h0 h) (hP : mdP sc ar P) {a : Int} (ra : r32 a) {u : Prop} [Decidable u] : ∀ (n p : Nat), p + n = P.length → Ev (g_B G mX8_pairOf 0 0 (fun o z1 h1 => o = .inl (some (.int (iN (exI P a u P.length).1))) ∧ z1 = z ∧ h1 = h)) 0 0 z h 5 [(4, .int (iN (p : Nat))), (3, .int (iN (exI P a u p).1)), (0, .ref m), (1, .int (iN a)), (2, .int (iN (bP u)))] [] := by
  have hP9 := hP
  obtain ⟨e1, e2, e3, e4⟩ := hP
  have ra1 := ra.1
  have ra2 := ra.2
  intro n
  induction n with
  | zero =>
    intro p hpn
    have e9 : p = P.length := by omega
    rw [e9]
    refine e_iload dX8_pairOf_5 rfl ?_
    refine e_aload_n dX8_pairOf_7 rfl ?_
    refine e_getf fX8_108 X.obj rfl dX8_pairOf_8 ?_
    rw [e1]
    refine e_icmp_ge (tgt := 136) ⟨by omega, by omega⟩ ⟨by omega, by omega⟩ dX8_pairOf_11 rfl (fun c_11 => ?_) (fun c_11 => absurd (by omega) c_11)
    refine e_iload_n dX8_pairOf_136 rfl ?_
    refine e_iret rfl dX8_pairOf_137 (by decide) (by decide) ?_
    exact ⟨rfl, rfl, rfl⟩
  | succ n ih =>
    intro p hpn
    have hp : p < P.length := by omega
    refine e_iload dX8_pairOf_5 rfl ?_
    refine e_aload_n dX8_pairOf_7 rfl ?_
    refine e_getf fX8_108 X.obj rfl dX8_pairOf_8 ?_
    rw [e1]
    refine e_icmp_ge (tgt := 136) ⟨by omega, by omega⟩ ⟨by omega, by omega⟩ dX8_pairOf_11 rfl (fun c_11 => absurd c_11 (by omega)) (fun c_11 => ?_)
    refine e_iload dX8_pairOf_14 rfl ?_
    refine e_iconst dX8_pairOf_16 ?_
    refine e_iadd dX8_pairOf_17 ?_
    refine e_istore dX8_pairOf_18 rfl ?_
    refine e_loc [(5, .int (iN (p + 1 + 0 : Nat))), (4, .int (iN (p : Nat))), (3, .int (iN (exK P a u p (exI P a u p) 0).1)), (0, .ref m), (1, .int (iN a)), (2, .int (iN (bP u)))] ⟨rfl, rfl, (by unfold exK; split <;> rfl), rfl, rfl, rfl, trivial⟩ (po_inner X hP9 ra hp (exI_v p (by omega)) ?_ _ 0 (Nat.zero_add _))
    refine e_iinc dX8_pairOf_130 rfl ?_
    refine e_goto (tgt := 5) dX8_pairOf_133 rfl ?_
    exact e_loc [(4, .int (iN (p + 1 : Nat))), (3, .int (iN (exI P a u (p + 1)).1)), (0, .ref m), (1, .int (iN a)), (2, .int (iN (bP u)))] ⟨rfl, rfl, rfl, rfl, rfl, trivial⟩ (ih (p + 1) (by omega))
set_option maxRecDepth 20000 in
theorem S_pairOf (X : mdX G sc ar m h0 h) (hP : mdP sc ar P) {a : Int} (ra : r32 a) {u : Prop} [Decidable u] : Pure G mX8_pairOf [.ref m, .int (iN a), .int (iN (bP u))] h (.int (iN (exI P a u P.length).1)) := by
  intro z
  refine run_of rfl plX8 rfl ?_
  refine e_iconst dX8_pairOf_0 ?_
  refine e_istore_n dX8_pairOf_1 rfl ?_
  refine e_iconst dX8_pairOf_2 ?_
  refine e_istore dX8_pairOf_3 rfl ?_
  exact e_loc [(4, .int (iN (0 : Nat))), (3, .int (iN (exI P a u 0).1)), (0, .ref m), (1, .int (iN a)), (2, .int (iN (bP u)))] ⟨rfl, rfl, rfl, rfl, rfl, trivial⟩ (po_outer X hP ra _ 0 (Nat.zero_add _))
set_option maxRecDepth 20000 in
theorem M_pair (X : mdX G sc0 ar m h0 h) (hR : mdR sc0 ar P E S b P2 E2 S2 F) {a : Int} (ra : r32 a) {u : Prop} [Decidable u] : Run G mX8_pair [.ref m, .int (iN a), .int (iN (bP u))] none h 0 0 (mZ G (k_pair P a u) P E S b P2 E2 S2 F m h0) := by
  refine run_of rfl plX8 rfl ?_
  refine e_aload_n dX8_pair_0 rfl ?_
  refine e_iconst dX8_pair_1 ?_
  refine e_putf pfX8_1 X.obj rfl rfl rfl dX8_pair_2 ?_
  refine X.pto (q := 0) (fun h9 X9 => ?_) rfl
  replace X := X9
  clear X9
  replace hR := hR.t0 0
  have ht : uI sc0 0 0 0 = 0 := uI_s _ _ _
  generalize uI sc0 0 0 = sc at X hR ht
  refine e_aload_n dX8_pair_5 rfl ?_
  refine e_iload_n dX8_pair_6 rfl ?_
  
  by_cases c_7 : hpOK a
  · have e8 := cntN_le P a P.length
    have e7 := hR.1.2.1
    refine e_pureV qcX8_111 X.obj rfl rfl (S_noHeap_t X ra c_7 ht) rfl rfl rfl rfl dX8_pair_7 ?_
    refine e_if_ne (tgt := 35) ⟨by decide, by decide⟩ dX8_pair_10 rfl (fun c_10 => absurd rfl c_10) (fun c_10 => ?_)
    refine e_aload_n dX8_pair_13 rfl ?_
    refine e_aload_n dX8_pair_14 rfl ?_
    refine e_iload_n dX8_pair_15 rfl ?_
    refine e_pureV qcX8_122 X.obj rfl rfl (S_many X hR.1 ra) rfl rfl rfl rfl dX8_pair_16 ?_
    refine e_iconst dX8_pair_19 ?_
    
    by_cases c_m : 2 ≤ cntN P a P.length
    · refine e_icmp_le (tgt := 27) ⟨by omega, by omega⟩ ⟨by omega, by omega⟩ dX8_pair_20 rfl (fun c_0 => absurd c_0 (by omega)) (fun c_0 => ?_)
      refine e_iconst dX8_pair_23 ?_
      refine e_top (bP (2 ≤ cntN P a P.length)) (bP_t c_m).symm ?_
      refine e_goto (tgt := 28) dX8_pair_24 rfl ?_
      refine e_iconst dX8_pair_28 ?_
      refine e_pureV qcX8_104 X.obj rfl rfl (S_fails_t X c_m ht) rfl rfl rfl rfl dX8_pair_29 ?_
      refine e_if_eq (tgt := 39) ⟨by decide, by decide⟩ dX8_pair_32 rfl (fun c_32 => ?_) (fun c_32 => absurd rfl c_32)
      refine e_aload_n dX8_pair_39 rfl ?_
      refine e_iload_n dX8_pair_40 rfl ?_
      refine e_iload_n dX8_pair_41 rfl ?_
      refine e_pureV qcX8_299 X.obj rfl rfl (S_pairOf X hR.1 ra) rfl rfl rfl rfl dX8_pair_42 ?_
      refine e_iret rfl dX8_pair_45 (by decide) (by decide) ?_
      exact mz (show (k_pair P a u) = (0, (exI P a u P.length).1) from ((if_pos c_7).trans (if_pos c_m))) ⟨rfl, rfl, _, _, X, hR, ht⟩
    refine e_icmp_le (tgt := 27) ⟨by omega, by omega⟩ ⟨by omega, by omega⟩ dX8_pair_20 rfl (fun c_0 => ?_) (fun c_0 => absurd (by omega) c_0)
    refine e_iconst dX8_pair_27 ?_
    refine e_top (bP (2 ≤ cntN P a P.length)) (bP_f c_m).symm ?_
    refine e_iconst dX8_pair_28 ?_
    refine e_doesV qcX8_104 X.obj rfl rfl (S_fails_f X c_m ht ⟨by decide, by decide⟩) rfl rfl rfl rfl dX8_pair_29 ?_
    intro v h9 q9
    obtain ⟨rfl, X⟩ := q9
    refine e_if_eq (tgt := 39) ⟨by decide, by decide⟩ dX8_pair_32 rfl (fun c_32 => absurd c_32 (by decide)) (fun c_32 => ?_)
    refine e_iconst dX8_pair_35 ?_
    refine e_goto (tgt := 45) dX8_pair_36 rfl ?_
    refine e_iret rfl dX8_pair_45 (by decide) (by decide) ?_
    exact mz (show (k_pair P a u) = (2, 0) from ((if_pos c_7).trans (if_neg c_m))) ⟨rfl, rfl, _, _, X, hR.t0 _, uI_s _ _ _⟩
  refine e_doesV qcX8_111 X.obj rfl rfl (S_noHeap_f X ra c_7 ht) rfl rfl rfl rfl dX8_pair_7 ?_
  intro v h9 q9
  obtain ⟨rfl, X⟩ := q9
  refine e_if_ne (tgt := 35) ⟨by decide, by decide⟩ dX8_pair_10 rfl (fun c_10 => ?_) (fun c_10 => absurd (by decide) c_10)
  refine e_iconst dX8_pair_35 ?_
  refine e_goto (tgt := 45) dX8_pair_36 rfl ?_
  refine e_iret rfl dX8_pair_45 (by decide) (by decide) ?_
  exact mz (show (k_pair P a u) = (1, 0) from (if_neg c_7)) ⟨rfl, rfl, _, _, X, hR.t0 _, uI_s _ _ _⟩
set_option maxRecDepth 20000 in
theorem M_distance (X : mdX G sc0 ar m h0 h) (hR : mdR sc0 ar P E S b P2 E2 S2 F) {a : Int} (ra : r32 a) {u : Prop} [Decidable u] (hh : 2 ≤ cntN P a P.length → 0 ≤ (exI P a u P.length).1 ∧ (exI P a u P.length).1 ≤ 10000 ∧ exT P a u / 100 < P.length ∧ exT P a u % 100 < P.length) : Run G mX8_distance [.ref m, .int (iN a), .int (iN (bP u))] none h 0 0 (mZ G (k_distance P a u) P E S b P2 E2 S2 F m h0) := by
  refine run_of rfl plX8 rfl ?_
  refine e_aload_n dX8_distance_0 rfl ?_
  refine e_iconst dX8_distance_1 ?_
  refine e_putf pfX8_1 X.obj rfl rfl rfl dX8_distance_2 ?_
  refine X.pto (q := 0) (fun h9 X9 => ?_) rfl
  replace X := X9
  clear X9
  replace hR := hR.t0 0
  have ht : uI sc0 0 0 0 = 0 := uI_s _ _ _
  generalize uI sc0 0 0 = sc at X hR ht
  refine e_aload_n dX8_distance_5 rfl ?_
  refine e_iload_n dX8_distance_6 rfl ?_
  
  by_cases c_7 : hpOK a
  · have e8 := cntN_le P a P.length
    have e7 := hR.1.2.1
    refine e_pureV qcX8_111 X.obj rfl rfl (S_noHeap_t X ra c_7 ht) rfl rfl rfl rfl dX8_distance_7 ?_
    refine e_if_ne (tgt := 35) ⟨by decide, by decide⟩ dX8_distance_10 rfl (fun c_10 => absurd rfl c_10) (fun c_10 => ?_)
    refine e_aload_n dX8_distance_13 rfl ?_
    refine e_aload_n dX8_distance_14 rfl ?_
    refine e_iload_n dX8_distance_15 rfl ?_
    refine e_pureV qcX8_122 X.obj rfl rfl (S_many X hR.1 ra) rfl rfl rfl rfl dX8_distance_16 ?_
    refine e_iconst dX8_distance_19 ?_
    
    by_cases c_m : 2 ≤ cntN P a P.length
    · obtain ⟨h1, h2, h3, h4⟩ := hh c_m
      have e5 : (exI P a u P.length).1 = ((exT P a u : Nat) : Int) := (Int.toNat_of_nonneg h1).symm
      refine e_icmp_le (tgt := 27) ⟨by omega, by omega⟩ ⟨by omega, by omega⟩ dX8_distance_20 rfl (fun c_0 => absurd c_0 (by omega)) (fun c_0 => ?_)
      refine e_iconst dX8_distance_23 ?_
      refine e_top (bP (2 ≤ cntN P a P.length)) (bP_t c_m).symm ?_
      refine e_goto (tgt := 28) dX8_distance_24 rfl ?_
      refine e_iconst dX8_distance_28 ?_
      refine e_pureV qcX8_104 X.obj rfl rfl (S_fails_t X c_m ht) rfl rfl rfl rfl dX8_distance_29 ?_
      refine e_if_eq (tgt := 37) ⟨by decide, by decide⟩ dX8_distance_32 rfl (fun c_32 => ?_) (fun c_32 => absurd rfl c_32)
      refine e_aload_n dX8_distance_37 rfl ?_
      refine e_iload_n dX8_distance_38 rfl ?_
      refine e_iload_n dX8_distance_39 rfl ?_
      refine e_pureV qcX8_299 X.obj rfl rfl (S_pairOf X hR.1 ra) rfl rfl rfl rfl dX8_distance_40 ?_
      rw [e5]
      refine e_istore_n dX8_distance_43 rfl ?_
      refine e_aload_n dX8_distance_44 rfl ?_
      refine e_iload_n dX8_distance_45 rfl ?_
      refine e_bipush dX8_distance_46 (by decide) ?_
      refine e_idiv ⟨by omega, by omega⟩ ⟨by omega, by omega⟩ (by decide) dX8_distance_48 ?_
      rw [show ((exT P a u : Nat) : Int).tdiv 100 = ((exT P a u / 100 : Nat) : Int) from rfl]
      refine e_iload_n dX8_distance_49 rfl ?_
      refine e_bipush dX8_distance_50 (by decide) ?_
      refine e_irem ⟨by omega, by omega⟩ ⟨by omega, by omega⟩ (by decide) dX8_distance_52 ?_
      rw [show ((exT P a u : Nat) : Int).tmod 100 = ((exT P a u % 100 : Nat) : Int) from rfl]
      refine e_pureV qcX8_296 X.obj rfl rfl (S_squared X hR.1 h3 h4) rfl rfl rfl rfl dX8_distance_53 ?_
      rw [sqd_comm]
      refine e_iret rfl dX8_distance_56 (by decide) (by decide) ?_
      exact mz (show (k_distance P a u) = (0, sqd P (exT P a u / 100) (exT P a u % 100)) from ((if_pos c_7).trans (if_pos c_m))) ⟨rfl, rfl, _, _, X, hR, ht⟩
    refine e_icmp_le (tgt := 27) ⟨by omega, by omega⟩ ⟨by omega, by omega⟩ dX8_distance_20 rfl (fun c_0 => ?_) (fun c_0 => absurd (by omega) c_0)
    refine e_iconst dX8_distance_27 ?_
    refine e_top (bP (2 ≤ cntN P a P.length)) (bP_f c_m).symm ?_
    refine e_iconst dX8_distance_28 ?_
    refine e_doesV qcX8_104 X.obj rfl rfl (S_fails_f X c_m ht ⟨by decide, by decide⟩) rfl rfl rfl rfl dX8_distance_29 ?_
    intro v h9 q9
    obtain ⟨rfl, X⟩ := q9
    refine e_if_eq (tgt := 37) ⟨by decide, by decide⟩ dX8_distance_32 rfl (fun c_32 => absurd c_32 (by decide)) (fun c_32 => ?_)
    refine e_iconst dX8_distance_35 ?_
    refine e_iret rfl dX8_distance_36 (by decide) (by decide) ?_
    exact mz (show (k_distance P a u) = (2, 0) from ((if_pos c_7).trans (if_neg c_m))) ⟨rfl, rfl, _, _, X, hR.t0 _, uI_s _ _ _⟩
  refine e_doesV qcX8_111 X.obj rfl rfl (S_noHeap_f X ra c_7 ht) rfl rfl rfl rfl dX8_distance_7 ?_
  intro v h9 q9
  obtain ⟨rfl, X⟩ := q9
  refine e_if_ne (tgt := 35) ⟨by decide, by decide⟩ dX8_distance_10 rfl (fun c_10 => ?_) (fun c_10 => absurd (by decide) c_10)
  refine e_iconst dX8_distance_35 ?_
  refine e_iret rfl dX8_distance_36 (by decide) (by decide) ?_
  exact mz (show (k_distance P a u) = (1, 0) from (if_neg c_7)) ⟨rfl, rfl, _, _, X, hR.t0 _, uI_s _ _ _⟩
set_option maxRecDepth 20000 in
theorem ck_loop8 (X : mdX G sc ar m h0 h) (hR : mdR sc ar P E S b P2 E2 S2 F) (ht : sc 0 = 0) : ∀ (n k : Nat), k + n = F.length → Ev (g_B G mX8_checksum 0 0 (mZ G ((0, ckN F F.length) : Nat × Int) P E S b P2 E2 S2 F m h0)) 0 0 none h 10 [(2, .int (iN (k : Nat))), (1, .int (iN (ckN F (k)))), (0, .ref m)] [] := by
  obtain ⟨f1, f2, f3, f4⟩ := id hR.2.2.2.2
  have g4 : ∀ k, k < F.length → ar 5 k = pX F k ∧ ar 6 k = pY F k := fun k hk => by have := f4 k hk; rw [show 200 * 0 + k = k by omega] at this; exact this
  intro n
  induction n with
  | zero =>
    intro k hkn
    have e9 : k = F.length := by omega
    rw [e9]
    refine e_iload_n dX8_checksum_10 rfl ?_
    refine e_aload_n dX8_checksum_11 rfl ?_
    refine e_getf fX8_35 X.obj rfl dX8_checksum_12 ?_
    refine e_iconst dX8_checksum_15 ?_
    refine e_ial X.a7 (by omega) (by omega) rfl f1 dX8_checksum_16 ?_
    refine e_icmp_ge (tgt := 48) ⟨by omega, by omega⟩ ⟨by omega, by omega⟩ dX8_checksum_17 rfl (fun c_17 => ?_) (fun c_17 => absurd (by omega) c_17)
    refine e_iload_n dX8_checksum_48 rfl ?_
    refine e_iret rfl dX8_checksum_49 (by decide) (by decide) ?_
    exact ⟨rfl, rfl, _, _, X, hR, ht⟩
  | succ n ih =>
    intro k hkn
    have hk : k < F.length := by omega
    refine e_iload_n dX8_checksum_10 rfl ?_
    refine e_aload_n dX8_checksum_11 rfl ?_
    refine e_getf fX8_35 X.obj rfl dX8_checksum_12 ?_
    refine e_iconst dX8_checksum_15 ?_
    refine e_ial X.a7 (by omega) (by omega) rfl f1 dX8_checksum_16 ?_
    refine e_icmp_ge (tgt := 48) ⟨by omega, by omega⟩ ⟨by omega, by omega⟩ dX8_checksum_17 rfl (fun c_17 => absurd c_17 (by omega)) (fun c_17 => ?_)
    refine e_bipush dX8_checksum_20 (by decide) ?_
    refine e_bipush dX8_checksum_22 (by decide) ?_
    refine e_iload_n dX8_checksum_24 rfl ?_
    refine e_imul dX8_checksum_25 ?_
    refine e_aload_n dX8_checksum_26 rfl ?_
    refine e_getf fX8_29 X.obj rfl dX8_checksum_27 ?_
    refine e_iload_n dX8_checksum_30 rfl ?_
    refine e_ial X.a5 (by omega) (by omega) rfl (g4 k hk).1 dX8_checksum_31 ?_
    refine e_iadd dX8_checksum_32 ?_
    refine e_imul dX8_checksum_33 ?_
    refine e_aload_n dX8_checksum_34 rfl ?_
    refine e_getf fX8_32 X.obj rfl dX8_checksum_35 ?_
    refine e_iload_n dX8_checksum_38 rfl ?_
    refine e_ial X.a6 (by omega) (by omega) rfl (g4 k hk).2 dX8_checksum_39 ?_
    refine e_iadd dX8_checksum_40 ?_
    refine e_istore_n dX8_checksum_41 rfl ?_
    refine e_iinc dX8_checksum_42 rfl ?_
    refine e_goto (tgt := 10) dX8_checksum_45 rfl ?_
    exact e_loc [(2, .int (iN (k + 1 : Nat))), (1, .int (iN (ckN F (k + 1)))), (0, .ref m)] ⟨rfl, rfl, rfl, trivial⟩ (ih (k + 1) (by omega))
set_option maxRecDepth 20000 in
theorem M_checksum (X : mdX G sc0 ar m h0 h) (hR : mdR sc0 ar P E S b P2 E2 S2 F) : Run G mX8_checksum [.ref m] none h 0 0 (mZ G (0, ckN F F.length) P E S b P2 E2 S2 F m h0) := by
  refine run_of rfl plX8 rfl ?_
  refine e_aload_n dX8_checksum_0 rfl ?_
  refine e_iconst dX8_checksum_1 ?_
  refine e_putf pfX8_1 X.obj rfl rfl rfl dX8_checksum_2 ?_
  refine X.pto (q := 0) (fun h9 X9 => ?_) rfl
  replace X := X9
  clear X9
  replace hR := hR.t0 0
  have ht : uI sc0 0 0 0 = 0 := uI_s _ _ _
  generalize uI sc0 0 0 = sc at X hR ht
  refine e_bipush dX8_checksum_5 (by decide) ?_
  refine e_istore_n dX8_checksum_7 rfl ?_
  refine e_iconst dX8_checksum_8 ?_
  refine e_istore_n dX8_checksum_9 rfl ?_
  exact e_loc [(2, .int (iN (0 : Nat))), (1, .int (iN (ckN F (0)))), (0, .ref m)] ⟨rfl, rfl, rfl, trivial⟩ (ck_loop8 X hR ht _ 0 (Nat.zero_add _))
set_option maxRecDepth 20000 in
theorem M_errors (X : mdX G sc0 ar m h0 h) (hR : mdR sc0 ar P E S b P2 E2 S2 F) : Run G mX8_errors [.ref m] none h 0 0 (mZ G (0, 0) P E S b P2 E2 S2 F m h0) := by
  refine run_of rfl plX8 rfl ?_
  refine e_aload_n dX8_errors_0 rfl ?_
  refine e_iconst dX8_errors_1 ?_
  refine e_putf pfX8_1 X.obj rfl rfl rfl dX8_errors_2 ?_
  refine X.pto (q := 0) (fun h9 X9 => ?_) rfl
  replace X := X9
  clear X9
  replace hR := hR.t0 0
  have ht : uI sc0 0 0 0 = 0 := uI_s _ _ _
  generalize uI sc0 0 0 = sc at X hR ht
  refine e_iconst dX8_errors_5 ?_
  refine e_iret rfl dX8_errors_6 (by decide) (by decide) ?_
  exact ⟨rfl, rfl, _, _, X, hR, ht⟩
set_option maxRecDepth 20000 in
theorem bx_loop {Z : g_Z} (X : mdX G sc ar m h0 h) (hP : mdP sc ar P) {a w : Int} (ra : r32 a) (hw : 0 ≤ w ∧ w ≤ 3) (k : Ev (g_B G mX8_box 0 0 Z) 0 0 none h 157 [(3, .int (iN (enc0 (bxN P a w P.length)))), (0, .ref m), (1, .int (iN a)), (2, .int (iN w))] []) : ∀ (n p : Nat), p + n = P.length → Ev (g_B G mX8_box 0 0 Z) 0 0 none h 42 [(4, .int (iN (p : Nat))), (3, .int (iN (enc0 (bxN P a w (p))))), (0, .ref m), (1, .int (iN a)), (2, .int (iN w))] [] := by
  have hP9 := hP
  obtain ⟨e1, e2, e3, e4⟩ := hP
  have ra1 := ra.1
  have ra2 := ra.2
  intro n
  induction n with
  | zero =>
    intro p hpn
    have e9 : p = P.length := by omega
    rw [e9]
    refine e_iload dX8_box_42 rfl ?_
    refine e_aload_n dX8_box_44 rfl ?_
    refine e_getf fX8_108 X.obj rfl dX8_box_45 ?_
    rw [e1]
    refine e_icmp_ge (tgt := 157) ⟨by omega, by omega⟩ ⟨by omega, by omega⟩ dX8_box_48 rfl (fun c_48 => ?_) (fun c_48 => absurd (by omega) c_48)
    exact e_loc [(3, .int (iN (enc0 (bxN P a w P.length)))), (0, .ref m), (1, .int (iN a)), (2, .int (iN w))] ⟨rfl, rfl, rfl, rfl, trivial⟩ k
  | succ n ih =>
    intro p hpn
    have hp : p < P.length := by omega
    have b1 := e3.at hp
    have e6 : bxN P a w (p + 1) = cif (bxC P a w (bxN P a w p) p) (some p) (bxN P a w p) := rfl
    have mw : w.tmod 2 = w % 2 := Int.tmod_eq_emod_of_nonneg (by omega)
    cases hq : bxN P a w p with
    | none =>
      rw [hq] at e6
      refine (show Ev _ 0 0 none h 42 [(4, .int (iN (p : Nat))), (3, .int (iN (-1))), (0, .ref m), (1, .int (iN a)), (2, .int (iN w))] [] from ?_)
      by_cases wx : w < 2
      · refine e_iload dX8_box_42 rfl ?_
        refine e_aload_n dX8_box_44 rfl ?_
        refine e_getf fX8_108 X.obj rfl dX8_box_45 ?_
        rw [e1]
        refine e_icmp_ge (tgt := 157) ⟨by omega, by omega⟩ ⟨by omega, by omega⟩ dX8_box_48 rfl (fun c_48 => absurd c_48 (by omega)) (fun c_48 => ?_)
        refine e_aload_n dX8_box_51 rfl ?_
        refine e_getf fX8_13 X.obj rfl dX8_box_52 ?_
        refine e_iload dX8_box_55 rfl ?_
        refine e_ial X.a0 (by omega) (by omega) rfl (e4 p hp).1 dX8_box_57 ?_
        refine e_iload_n dX8_box_58 rfl ?_
        refine e_icmp_eq (tgt := 65) ⟨by omega, by omega⟩ ⟨by omega, by omega⟩ dX8_box_59 rfl (fun c_59 => ?_) (fun c_59 => ?_)
        · refine e_iload_n dX8_box_65 rfl ?_
          refine e_iconst dX8_box_66 ?_
          refine e_icmp_ge (tgt := 80) ⟨by omega, by omega⟩ ⟨by omega, by omega⟩ dX8_box_67 rfl (fun c_67 => absurd c_67 (by omega)) (fun c_67 => ?_)
          refine e_aload_n dX8_box_70 rfl ?_
          refine e_getf fX8_17 X.obj rfl dX8_box_71 ?_
          refine e_iload dX8_box_74 rfl ?_
          refine e_ial X.a1 (by omega) (by omega) rfl (e4 p hp).2.1 dX8_box_76 ?_
          refine e_goto (tgt := 87) dX8_box_77 rfl ?_
          refine e_istore dX8_box_87 rfl ?_
          refine e_iload_n dX8_box_89 rfl ?_
          refine e_iconst dX8_box_90 ?_
          refine e_icmp_ne (tgt := 98) (x := -1) (y := -1) ⟨by decide, by decide⟩ ⟨by decide, by decide⟩ dX8_box_91 rfl (fun c_91 => absurd rfl c_91) (fun c_91 => ?_)
          refine e_iconst dX8_box_94 ?_
          refine e_goto (tgt := 118) dX8_box_95 rfl ?_
          refine e_istore dX8_box_118 rfl ?_
          refine e_iload_n dX8_box_120 rfl ?_
          refine e_iconst dX8_box_121 ?_
          refine e_icmp_eq (tgt := 148) (x := -1) (y := -1) ⟨by decide, by decide⟩ ⟨by decide, by decide⟩ dX8_box_122 rfl (fun c_122 => ?_) (fun c_122 => absurd rfl c_122)
          have e5 : bxN P a w (p + 1) = some p := e6.trans (cif_t ⟨c_59, trivial⟩)
          refine e_iload dX8_box_148 rfl ?_
          refine e_istore_n dX8_box_150 rfl ?_
          refine e_iinc dX8_box_151 rfl ?_
          refine e_goto (tgt := 42) dX8_box_154 rfl ?_
          exact e_loc [(4, .int (iN (p + 1 : Nat))), (3, .int (iN (enc0 (bxN P a w (p + 1))))), (0, .ref m), (1, .int (iN a)), (2, .int (iN w))] ⟨rfl, by rw [e5]; rfl, rfl, rfl, rfl, trivial⟩ (ih (p + 1) (by omega))
        · have e5 : bxN P a w (p + 1) = none := e6.trans (cif_f (fun v => c_59 v.1))
          refine e_goto (tgt := 151) dX8_box_62 rfl ?_
          refine e_iinc dX8_box_151 rfl ?_
          refine e_goto (tgt := 42) dX8_box_154 rfl ?_
          exact e_loc [(4, .int (iN (p + 1 : Nat))), (3, .int (iN (enc0 (bxN P a w (p + 1))))), (0, .ref m), (1, .int (iN a)), (2, .int (iN w))] ⟨rfl, by rw [e5]; rfl, rfl, rfl, rfl, trivial⟩ (ih (p + 1) (by omega))
      refine e_iload dX8_box_42 rfl ?_
      refine e_aload_n dX8_box_44 rfl ?_
      refine e_getf fX8_108 X.obj rfl dX8_box_45 ?_
      rw [e1]
      refine e_icmp_ge (tgt := 157) ⟨by omega, by omega⟩ ⟨by omega, by omega⟩ dX8_box_48 rfl (fun c_48 => absurd c_48 (by omega)) (fun c_48 => ?_)
      refine e_aload_n dX8_box_51 rfl ?_
      refine e_getf fX8_13 X.obj rfl dX8_box_52 ?_
      refine e_iload dX8_box_55 rfl ?_
      refine e_ial X.a0 (by omega) (by omega) rfl (e4 p hp).1 dX8_box_57 ?_
      refine e_iload_n dX8_box_58 rfl ?_
      refine e_icmp_eq (tgt := 65) ⟨by omega, by omega⟩ ⟨by omega, by omega⟩ dX8_box_59 rfl (fun c_59 => ?_) (fun c_59 => ?_)
      · refine e_iload_n dX8_box_65 rfl ?_
        refine e_iconst dX8_box_66 ?_
        refine e_icmp_ge (tgt := 80) ⟨by omega, by omega⟩ ⟨by omega, by omega⟩ dX8_box_67 rfl (fun c_67 => ?_) (fun c_67 => absurd (by omega) c_67)
        refine e_aload_n dX8_box_80 rfl ?_
        refine e_getf fX8_20 X.obj rfl dX8_box_81 ?_
        refine e_iload dX8_box_84 rfl ?_
        refine e_ial X.a2 (by omega) (by omega) rfl (e4 p hp).2.2 dX8_box_86 ?_
        refine e_istore dX8_box_87 rfl ?_
        refine e_iload_n dX8_box_89 rfl ?_
        refine e_iconst dX8_box_90 ?_
        refine e_icmp_ne (tgt := 98) (x := -1) (y := -1) ⟨by decide, by decide⟩ ⟨by decide, by decide⟩ dX8_box_91 rfl (fun c_91 => absurd rfl c_91) (fun c_91 => ?_)
        refine e_iconst dX8_box_94 ?_
        refine e_goto (tgt := 118) dX8_box_95 rfl ?_
        refine e_istore dX8_box_118 rfl ?_
        refine e_iload_n dX8_box_120 rfl ?_
        refine e_iconst dX8_box_121 ?_
        refine e_icmp_eq (tgt := 148) (x := -1) (y := -1) ⟨by decide, by decide⟩ ⟨by decide, by decide⟩ dX8_box_122 rfl (fun c_122 => ?_) (fun c_122 => absurd rfl c_122)
        have e5 : bxN P a w (p + 1) = some p := e6.trans (cif_t ⟨c_59, trivial⟩)
        refine e_iload dX8_box_148 rfl ?_
        refine e_istore_n dX8_box_150 rfl ?_
        refine e_iinc dX8_box_151 rfl ?_
        refine e_goto (tgt := 42) dX8_box_154 rfl ?_
        exact e_loc [(4, .int (iN (p + 1 : Nat))), (3, .int (iN (enc0 (bxN P a w (p + 1))))), (0, .ref m), (1, .int (iN a)), (2, .int (iN w))] ⟨rfl, by rw [e5]; rfl, rfl, rfl, rfl, trivial⟩ (ih (p + 1) (by omega))
      · have e5 : bxN P a w (p + 1) = none := e6.trans (cif_f (fun v => c_59 v.1))
        refine e_goto (tgt := 151) dX8_box_62 rfl ?_
        refine e_iinc dX8_box_151 rfl ?_
        refine e_goto (tgt := 42) dX8_box_154 rfl ?_
        exact e_loc [(4, .int (iN (p + 1 : Nat))), (3, .int (iN (enc0 (bxN P a w (p + 1))))), (0, .ref m), (1, .int (iN a)), (2, .int (iN w))] ⟨rfl, by rw [e5]; rfl, rfl, rfl, rfl, trivial⟩ (ih (p + 1) (by omega))
    | some q =>
      have hq3 : q < P.length := by have := bxN_lt hq; omega
      have b2 := e3.at hq3
      rw [hq] at e6
      refine (show Ev _ 0 0 none h 42 [(4, .int (iN (p : Nat))), (3, .int (iN (q : Int))), (0, .ref m), (1, .int (iN a)), (2, .int (iN w))] [] from ?_)
      by_cases wx : w < 2
      · refine e_iload dX8_box_42 rfl ?_
        refine e_aload_n dX8_box_44 rfl ?_
        refine e_getf fX8_108 X.obj rfl dX8_box_45 ?_
        rw [e1]
        refine e_icmp_ge (tgt := 157) ⟨by omega, by omega⟩ ⟨by omega, by omega⟩ dX8_box_48 rfl (fun c_48 => absurd c_48 (by omega)) (fun c_48 => ?_)
        refine e_aload_n dX8_box_51 rfl ?_
        refine e_getf fX8_13 X.obj rfl dX8_box_52 ?_
        refine e_iload dX8_box_55 rfl ?_
        refine e_ial X.a0 (by omega) (by omega) rfl (e4 p hp).1 dX8_box_57 ?_
        refine e_iload_n dX8_box_58 rfl ?_
        refine e_icmp_eq (tgt := 65) ⟨by omega, by omega⟩ ⟨by omega, by omega⟩ dX8_box_59 rfl (fun c_59 => ?_) (fun c_59 => ?_)
        · refine e_iload_n dX8_box_65 rfl ?_
          refine e_iconst dX8_box_66 ?_
          refine e_icmp_ge (tgt := 80) ⟨by omega, by omega⟩ ⟨by omega, by omega⟩ dX8_box_67 rfl (fun c_67 => absurd c_67 (by omega)) (fun c_67 => ?_)
          refine e_aload_n dX8_box_70 rfl ?_
          refine e_getf fX8_17 X.obj rfl dX8_box_71 ?_
          refine e_iload dX8_box_74 rfl ?_
          refine e_ial X.a1 (by omega) (by omega) rfl (e4 p hp).2.1 dX8_box_76 ?_
          refine e_goto (tgt := 87) dX8_box_77 rfl ?_
          refine e_istore dX8_box_87 rfl ?_
          refine e_iload_n dX8_box_89 rfl ?_
          refine e_iconst dX8_box_90 ?_
          refine e_icmp_ne (tgt := 98) (x := (q : Int)) (y := -1) ⟨by omega, by omega⟩ ⟨by decide, by decide⟩ dX8_box_91 rfl (fun c_91 => ?_) (fun c_91 => absurd (show ¬ (q : Int) = -1 by omega) c_91)
          refine e_iload_n dX8_box_98 rfl ?_
          refine e_iconst dX8_box_99 ?_
          refine e_icmp_ge (tgt := 112) ⟨by omega, by omega⟩ ⟨by omega, by omega⟩ dX8_box_100 rfl (fun c_100 => absurd c_100 (by omega)) (fun c_100 => ?_)
          refine e_aload_n dX8_box_103 rfl ?_
          refine e_getf fX8_17 X.obj rfl dX8_box_104 ?_
          refine e_iload_n dX8_box_107 rfl ?_
          refine e_ial X.a1 (by omega) (by omega) rfl (e4 q hq3).2.1 dX8_box_108 ?_
          refine e_goto (tgt := 118) dX8_box_109 rfl ?_
          refine e_istore dX8_box_118 rfl ?_
          refine e_iload_n dX8_box_120 rfl ?_
          refine e_iconst dX8_box_121 ?_
          refine e_icmp_eq (tgt := 148) (x := (q : Int)) (y := -1) ⟨by omega, by omega⟩ ⟨by decide, by decide⟩ dX8_box_122 rfl (fun c_122 => absurd c_122 (by omega)) (fun c_122 => ?_)
          refine e_iload_n dX8_box_125 rfl ?_
          refine e_iconst dX8_box_126 ?_
          refine e_irem ⟨by omega, by omega⟩ ⟨by decide, by decide⟩ (by decide) dX8_box_127 ?_
          rw [mw]
          refine e_if_ne (tgt := 141) ⟨by omega, by omega⟩ dX8_box_128 rfl (fun c_128 => ?_) (fun c_128 => ?_)
          · refine e_iload dX8_box_141 rfl ?_
            refine e_iload dX8_box_143 rfl ?_
            refine e_icmp_le (tgt := 151) ⟨by omega, by omega⟩ ⟨by omega, by omega⟩ dX8_box_145 rfl (fun c_145 => ?_) (fun c_145 => ?_)
            · have e5 : bxN P a w (p + 1) = some q := e6.trans (cif_f (fun v => absurd ((show (if w % 2 = 0 then bxV P w p < bxV P w q else bxV P w q < bxV P w p) ↔ pX P q < pX P p from by rw [if_neg c_128, (show bxV P w p = pX P p from if_pos wx), (show bxV P w q = pX P q from if_pos wx)]).mp v.2) (by omega)))
              refine e_iinc dX8_box_151 rfl ?_
              refine e_goto (tgt := 42) dX8_box_154 rfl ?_
              exact e_loc [(4, .int (iN (p + 1 : Nat))), (3, .int (iN (enc0 (bxN P a w (p + 1))))), (0, .ref m), (1, .int (iN a)), (2, .int (iN w))] ⟨rfl, by rw [e5]; rfl, rfl, rfl, rfl, trivial⟩ (ih (p + 1) (by omega))
            · have e5 : bxN P a w (p + 1) = some p := e6.trans (cif_t ⟨c_59, (show (if w % 2 = 0 then bxV P w p < bxV P w q else bxV P w q < bxV P w p) ↔ pX P q < pX P p from by rw [if_neg c_128, (show bxV P w p = pX P p from if_pos wx), (show bxV P w q = pX P q from if_pos wx)]).mpr (by omega)⟩)
              refine e_iload dX8_box_148 rfl ?_
              refine e_istore_n dX8_box_150 rfl ?_
              refine e_iinc dX8_box_151 rfl ?_
              refine e_goto (tgt := 42) dX8_box_154 rfl ?_
              exact e_loc [(4, .int (iN (p + 1 : Nat))), (3, .int (iN (enc0 (bxN P a w (p + 1))))), (0, .ref m), (1, .int (iN a)), (2, .int (iN w))] ⟨rfl, by rw [e5]; rfl, rfl, rfl, rfl, trivial⟩ (ih (p + 1) (by omega))
          · refine e_iload dX8_box_131 rfl ?_
            refine e_iload dX8_box_133 rfl ?_
            refine e_icmp_ge (tgt := 151) ⟨by omega, by omega⟩ ⟨by omega, by omega⟩ dX8_box_135 rfl (fun c_135 => ?_) (fun c_135 => ?_)
            · have e5 : bxN P a w (p + 1) = some q := e6.trans (cif_f (fun v => absurd ((show (if w % 2 = 0 then bxV P w p < bxV P w q else bxV P w q < bxV P w p) ↔ pX P p < pX P q from by rw [if_pos (by omega), (show bxV P w p = pX P p from if_pos wx), (show bxV P w q = pX P q from if_pos wx)]).mp v.2) (by omega)))
              refine e_iinc dX8_box_151 rfl ?_
              refine e_goto (tgt := 42) dX8_box_154 rfl ?_
              exact e_loc [(4, .int (iN (p + 1 : Nat))), (3, .int (iN (enc0 (bxN P a w (p + 1))))), (0, .ref m), (1, .int (iN a)), (2, .int (iN w))] ⟨rfl, by rw [e5]; rfl, rfl, rfl, rfl, trivial⟩ (ih (p + 1) (by omega))
            · have e5 : bxN P a w (p + 1) = some p := e6.trans (cif_t ⟨c_59, (show (if w % 2 = 0 then bxV P w p < bxV P w q else bxV P w q < bxV P w p) ↔ pX P p < pX P q from by rw [if_pos (by omega), (show bxV P w p = pX P p from if_pos wx), (show bxV P w q = pX P q from if_pos wx)]).mpr (by omega)⟩)
              refine e_goto (tgt := 148) dX8_box_138 rfl ?_
              refine e_iload dX8_box_148 rfl ?_
              refine e_istore_n dX8_box_150 rfl ?_
              refine e_iinc dX8_box_151 rfl ?_
              refine e_goto (tgt := 42) dX8_box_154 rfl ?_
              exact e_loc [(4, .int (iN (p + 1 : Nat))), (3, .int (iN (enc0 (bxN P a w (p + 1))))), (0, .ref m), (1, .int (iN a)), (2, .int (iN w))] ⟨rfl, by rw [e5]; rfl, rfl, rfl, rfl, trivial⟩ (ih (p + 1) (by omega))
        · have e5 : bxN P a w (p + 1) = some q := e6.trans (cif_f (fun v => c_59 v.1))
          refine e_goto (tgt := 151) dX8_box_62 rfl ?_
          refine e_iinc dX8_box_151 rfl ?_
          refine e_goto (tgt := 42) dX8_box_154 rfl ?_
          exact e_loc [(4, .int (iN (p + 1 : Nat))), (3, .int (iN (enc0 (bxN P a w (p + 1))))), (0, .ref m), (1, .int (iN a)), (2, .int (iN w))] ⟨rfl, by rw [e5]; rfl, rfl, rfl, rfl, trivial⟩ (ih (p + 1) (by omega))
      refine e_iload dX8_box_42 rfl ?_
      refine e_aload_n dX8_box_44 rfl ?_
      refine e_getf fX8_108 X.obj rfl dX8_box_45 ?_
      rw [e1]
      refine e_icmp_ge (tgt := 157) ⟨by omega, by omega⟩ ⟨by omega, by omega⟩ dX8_box_48 rfl (fun c_48 => absurd c_48 (by omega)) (fun c_48 => ?_)
      refine e_aload_n dX8_box_51 rfl ?_
      refine e_getf fX8_13 X.obj rfl dX8_box_52 ?_
      refine e_iload dX8_box_55 rfl ?_
      refine e_ial X.a0 (by omega) (by omega) rfl (e4 p hp).1 dX8_box_57 ?_
      refine e_iload_n dX8_box_58 rfl ?_
      refine e_icmp_eq (tgt := 65) ⟨by omega, by omega⟩ ⟨by omega, by omega⟩ dX8_box_59 rfl (fun c_59 => ?_) (fun c_59 => ?_)
      · refine e_iload_n dX8_box_65 rfl ?_
        refine e_iconst dX8_box_66 ?_
        refine e_icmp_ge (tgt := 80) ⟨by omega, by omega⟩ ⟨by omega, by omega⟩ dX8_box_67 rfl (fun c_67 => ?_) (fun c_67 => absurd (by omega) c_67)
        refine e_aload_n dX8_box_80 rfl ?_
        refine e_getf fX8_20 X.obj rfl dX8_box_81 ?_
        refine e_iload dX8_box_84 rfl ?_
        refine e_ial X.a2 (by omega) (by omega) rfl (e4 p hp).2.2 dX8_box_86 ?_
        refine e_istore dX8_box_87 rfl ?_
        refine e_iload_n dX8_box_89 rfl ?_
        refine e_iconst dX8_box_90 ?_
        refine e_icmp_ne (tgt := 98) (x := (q : Int)) (y := -1) ⟨by omega, by omega⟩ ⟨by decide, by decide⟩ dX8_box_91 rfl (fun c_91 => ?_) (fun c_91 => absurd (show ¬ (q : Int) = -1 by omega) c_91)
        refine e_iload_n dX8_box_98 rfl ?_
        refine e_iconst dX8_box_99 ?_
        refine e_icmp_ge (tgt := 112) ⟨by omega, by omega⟩ ⟨by omega, by omega⟩ dX8_box_100 rfl (fun c_100 => ?_) (fun c_100 => absurd (by omega) c_100)
        refine e_aload_n dX8_box_112 rfl ?_
        refine e_getf fX8_20 X.obj rfl dX8_box_113 ?_
        refine e_iload_n dX8_box_116 rfl ?_
        refine e_ial X.a2 (by omega) (by omega) rfl (e4 q hq3).2.2 dX8_box_117 ?_
        refine e_istore dX8_box_118 rfl ?_
        refine e_iload_n dX8_box_120 rfl ?_
        refine e_iconst dX8_box_121 ?_
        refine e_icmp_eq (tgt := 148) (x := (q : Int)) (y := -1) ⟨by omega, by omega⟩ ⟨by decide, by decide⟩ dX8_box_122 rfl (fun c_122 => absurd c_122 (by omega)) (fun c_122 => ?_)
        refine e_iload_n dX8_box_125 rfl ?_
        refine e_iconst dX8_box_126 ?_
        refine e_irem ⟨by omega, by omega⟩ ⟨by decide, by decide⟩ (by decide) dX8_box_127 ?_
        rw [mw]
        refine e_if_ne (tgt := 141) ⟨by omega, by omega⟩ dX8_box_128 rfl (fun c_128 => ?_) (fun c_128 => ?_)
        · refine e_iload dX8_box_141 rfl ?_
          refine e_iload dX8_box_143 rfl ?_
          refine e_icmp_le (tgt := 151) ⟨by omega, by omega⟩ ⟨by omega, by omega⟩ dX8_box_145 rfl (fun c_145 => ?_) (fun c_145 => ?_)
          · have e5 : bxN P a w (p + 1) = some q := e6.trans (cif_f (fun v => absurd ((show (if w % 2 = 0 then bxV P w p < bxV P w q else bxV P w q < bxV P w p) ↔ pY P q < pY P p from by rw [if_neg c_128, (show bxV P w p = pY P p from if_neg wx), (show bxV P w q = pY P q from if_neg wx)]).mp v.2) (by omega)))
            refine e_iinc dX8_box_151 rfl ?_
            refine e_goto (tgt := 42) dX8_box_154 rfl ?_
            exact e_loc [(4, .int (iN (p + 1 : Nat))), (3, .int (iN (enc0 (bxN P a w (p + 1))))), (0, .ref m), (1, .int (iN a)), (2, .int (iN w))] ⟨rfl, by rw [e5]; rfl, rfl, rfl, rfl, trivial⟩ (ih (p + 1) (by omega))
          · have e5 : bxN P a w (p + 1) = some p := e6.trans (cif_t ⟨c_59, (show (if w % 2 = 0 then bxV P w p < bxV P w q else bxV P w q < bxV P w p) ↔ pY P q < pY P p from by rw [if_neg c_128, (show bxV P w p = pY P p from if_neg wx), (show bxV P w q = pY P q from if_neg wx)]).mpr (by omega)⟩)
            refine e_iload dX8_box_148 rfl ?_
            refine e_istore_n dX8_box_150 rfl ?_
            refine e_iinc dX8_box_151 rfl ?_
            refine e_goto (tgt := 42) dX8_box_154 rfl ?_
            exact e_loc [(4, .int (iN (p + 1 : Nat))), (3, .int (iN (enc0 (bxN P a w (p + 1))))), (0, .ref m), (1, .int (iN a)), (2, .int (iN w))] ⟨rfl, by rw [e5]; rfl, rfl, rfl, rfl, trivial⟩ (ih (p + 1) (by omega))
        · refine e_iload dX8_box_131 rfl ?_
          refine e_iload dX8_box_133 rfl ?_
          refine e_icmp_ge (tgt := 151) ⟨by omega, by omega⟩ ⟨by omega, by omega⟩ dX8_box_135 rfl (fun c_135 => ?_) (fun c_135 => ?_)
          · have e5 : bxN P a w (p + 1) = some q := e6.trans (cif_f (fun v => absurd ((show (if w % 2 = 0 then bxV P w p < bxV P w q else bxV P w q < bxV P w p) ↔ pY P p < pY P q from by rw [if_pos (by omega), (show bxV P w p = pY P p from if_neg wx), (show bxV P w q = pY P q from if_neg wx)]).mp v.2) (by omega)))
            refine e_iinc dX8_box_151 rfl ?_
            refine e_goto (tgt := 42) dX8_box_154 rfl ?_
            exact e_loc [(4, .int (iN (p + 1 : Nat))), (3, .int (iN (enc0 (bxN P a w (p + 1))))), (0, .ref m), (1, .int (iN a)), (2, .int (iN w))] ⟨rfl, by rw [e5]; rfl, rfl, rfl, rfl, trivial⟩ (ih (p + 1) (by omega))
          · have e5 : bxN P a w (p + 1) = some p := e6.trans (cif_t ⟨c_59, (show (if w % 2 = 0 then bxV P w p < bxV P w q else bxV P w q < bxV P w p) ↔ pY P p < pY P q from by rw [if_pos (by omega), (show bxV P w p = pY P p from if_neg wx), (show bxV P w q = pY P q from if_neg wx)]).mpr (by omega)⟩)
            refine e_goto (tgt := 148) dX8_box_138 rfl ?_
            refine e_iload dX8_box_148 rfl ?_
            refine e_istore_n dX8_box_150 rfl ?_
            refine e_iinc dX8_box_151 rfl ?_
            refine e_goto (tgt := 42) dX8_box_154 rfl ?_
            exact e_loc [(4, .int (iN (p + 1 : Nat))), (3, .int (iN (enc0 (bxN P a w (p + 1))))), (0, .ref m), (1, .int (iN a)), (2, .int (iN w))] ⟨rfl, by rw [e5]; rfl, rfl, rfl, rfl, trivial⟩ (ih (p + 1) (by omega))
      · have e5 : bxN P a w (p + 1) = some q := e6.trans (cif_f (fun v => c_59 v.1))
        refine e_goto (tgt := 151) dX8_box_62 rfl ?_
        refine e_iinc dX8_box_151 rfl ?_
        refine e_goto (tgt := 42) dX8_box_154 rfl ?_
        exact e_loc [(4, .int (iN (p + 1 : Nat))), (3, .int (iN (enc0 (bxN P a w (p + 1))))), (0, .ref m), (1, .int (iN a)), (2, .int (iN w))] ⟨rfl, by rw [e5]; rfl, rfl, rfl, rfl, trivial⟩ (ih (p + 1) (by omega))
set_option maxRecDepth 20000 in
theorem M_box (X : mdX G sc0 ar m h0 h) (hR : mdR sc0 ar P E S b P2 E2 S2 F) {a : Int} (ra : r32 a) {w : Int} (rw : r32 w) (hm : cntN P a P.length ≠ 0 → ∀ w : Nat, w < 4 → ∃ q, bxN P a w P.length = some q ∧ bxV P w q = bnd (putN P a [] P.length) w (putN P a [] P.length).length) : Run G mX8_box [.ref m, .int (iN a), .int (iN w)] none h 0 0 (mZ G (k_box P a w) P E S b P2 E2 S2 F m h0) := by
  have rw1 := rw.1
  have rw2 := rw.2
  refine run_of rfl plX8 rfl ?_
  refine e_aload_n dX8_box_0 rfl ?_
  refine e_iconst dX8_box_1 ?_
  refine e_putf pfX8_1 X.obj rfl rfl rfl dX8_box_2 ?_
  refine X.pto (q := 0) (fun h9 X9 => ?_) rfl
  replace X := X9
  clear X9
  replace hR := hR.t0 0
  have ht : uI sc0 0 0 0 = 0 := uI_s _ _ _
  generalize uI sc0 0 0 = sc at X hR ht
  refine e_aload_n dX8_box_5 rfl ?_
  refine e_iload_n dX8_box_6 rfl ?_
  
  by_cases c_7 : hpOK a
  · refine e_pureV qcX8_111 X.obj rfl rfl (S_noHeap_t X ra c_7 ht) rfl rfl rfl rfl dX8_box_7 ?_
    refine e_if_ne (tgt := 35) ⟨by decide, by decide⟩ dX8_box_10 rfl (fun c_10 => absurd rfl c_10) (fun c_10 => ?_)
    refine e_aload_n dX8_box_13 rfl ?_
    refine e_iload_n dX8_box_14 rfl ?_
    refine e_iconst dX8_box_15 ?_
    refine e_iconst dX8_box_16 ?_
    refine e_pureS qcX8_96 (S_min rw ⟨by decide, by decide⟩ ⟨by decide, by decide⟩) rfl rfl rfl rfl dX8_box_17 ?_
    refine e_iconst dX8_box_20 ?_
    
    by_cases c_21 : 0 ≤ w ∧ w ≤ 3
    · refine e_pureV qcX8_104 X.obj rfl rfl (S_fails_t X c_21 ht) rfl rfl rfl rfl dX8_box_21 ?_
      refine e_if_ne (tgt := 35) ⟨by decide, by decide⟩ dX8_box_24 rfl (fun c_24 => absurd rfl c_24) (fun c_24 => ?_)
      refine e_aload_n dX8_box_27 rfl ?_
      refine e_iload_n dX8_box_28 rfl ?_
      
      by_cases c_29 : cntN P a P.length ≠ 0
      · obtain ⟨v, rfl⟩ : ∃ v : Nat, w = (v : Int) := ⟨w.toNat, by omega⟩
        obtain ⟨q, hq, hv⟩ := hm c_29 v (by omega)
        have hq3 := bxN_lt hq
        obtain ⟨e1, e2, e3, e4⟩ := id hR.1
        refine e_pureV qcX8_153 X.obj rfl rfl (S_isEmpty_t X hR.1 ra c_29 ht) rfl rfl rfl rfl dX8_box_29 ?_
        refine e_if_eq (tgt := 37) ⟨by decide, by decide⟩ dX8_box_32 rfl (fun c_32 => ?_) (fun c_32 => absurd rfl c_32)
        refine e_iconst dX8_box_37 ?_
        refine e_istore_n dX8_box_38 rfl ?_
        refine e_iconst dX8_box_39 ?_
        refine e_istore dX8_box_40 rfl ?_
        refine e_loc [(4, .int (iN (0 : Nat))), (3, .int (iN (enc0 (bxN P a (v : Int) 0)))), (0, .ref m), (1, .int (iN a)), (2, .int (iN v))] ⟨rfl, rfl, rfl, rfl, rfl, trivial⟩ (bx_loop X hR.1 ra c_21 ?_ _ 0 (Nat.zero_add _))
        rw [hq]
        refine (show Ev _ 0 0 none _ 157 [(3, .int (iN (q : Int))), (0, .ref m), (1, .int (iN a)), (2, .int (iN v))] [] from ?_)
        by_cases wx : (v : Int) < 2
        · refine e_iload_n dX8_box_157 rfl ?_
          refine e_iconst dX8_box_158 ?_
          refine e_icmp_ge (tgt := 171) ⟨by omega, by omega⟩ ⟨by omega, by omega⟩ dX8_box_159 rfl (fun c_159 => absurd c_159 (by omega)) (fun c_159 => ?_)
          refine e_aload_n dX8_box_162 rfl ?_
          refine e_getf fX8_17 X.obj rfl dX8_box_163 ?_
          refine e_iload_n dX8_box_166 rfl ?_
          refine e_ial X.a1 (by omega) (by omega) rfl (e4 q hq3).2.1 dX8_box_167 ?_
          refine e_goto (tgt := 177) dX8_box_168 rfl ?_
          refine e_iret rfl dX8_box_177 (by decide) (by decide) ?_
          rw [show bxV P (v : Int) q = pX P q from if_pos wx] at hv
          rw [hv]
          exact mz (show (k_box P a (v : Int)) = (0, bnd (putN P a [] P.length) v (putN P a [] P.length).length) from (((if_pos c_7).trans (if_pos c_21)).trans (if_pos c_29))) ⟨rfl, rfl, _, _, X, hR, ht⟩
        refine e_iload_n dX8_box_157 rfl ?_
        refine e_iconst dX8_box_158 ?_
        refine e_icmp_ge (tgt := 171) ⟨by omega, by omega⟩ ⟨by omega, by omega⟩ dX8_box_159 rfl (fun c_159 => ?_) (fun c_159 => absurd (by omega) c_159)
        refine e_aload_n dX8_box_171 rfl ?_
        refine e_getf fX8_20 X.obj rfl dX8_box_172 ?_
        refine e_iload_n dX8_box_175 rfl ?_
        refine e_ial X.a2 (by omega) (by omega) rfl (e4 q hq3).2.2 dX8_box_176 ?_
        refine e_iret rfl dX8_box_177 (by decide) (by decide) ?_
        rw [show bxV P (v : Int) q = pY P q from if_neg wx] at hv
        rw [hv]
        exact mz (show (k_box P a (v : Int)) = (0, bnd (putN P a [] P.length) v (putN P a [] P.length).length) from (((if_pos c_7).trans (if_pos c_21)).trans (if_pos c_29))) ⟨rfl, rfl, _, _, X, hR, ht⟩
      refine e_doesV qcX8_153 X.obj rfl rfl (S_isEmpty_f X hR.1 ra c_29 ht) rfl rfl rfl rfl dX8_box_29 ?_
      intro v h9 q9
      obtain ⟨rfl, X⟩ := q9
      refine e_if_eq (tgt := 37) ⟨by decide, by decide⟩ dX8_box_32 rfl (fun c_32 => absurd c_32 (by decide)) (fun c_32 => ?_)
      refine e_iconst dX8_box_35 ?_
      refine e_iret rfl dX8_box_36 (by decide) (by decide) ?_
      exact mz (show (k_box P a w) = (2, 0) from (((if_pos c_7).trans (if_pos c_21)).trans (if_neg c_29))) ⟨rfl, rfl, _, _, X, hR.t0 _, uI_s _ _ _⟩
    refine e_doesV qcX8_104 X.obj rfl rfl (S_fails_f X c_21 ht ⟨by decide, by decide⟩) rfl rfl rfl rfl dX8_box_21 ?_
    intro v h9 q9
    obtain ⟨rfl, X⟩ := q9
    refine e_if_ne (tgt := 35) ⟨by decide, by decide⟩ dX8_box_24 rfl (fun c_24 => ?_) (fun c_24 => absurd (by decide) c_24)
    refine e_iconst dX8_box_35 ?_
    refine e_iret rfl dX8_box_36 (by decide) (by decide) ?_
    exact mz (show (k_box P a w) = (1, 0) from ((if_pos c_7).trans (if_neg c_21))) ⟨rfl, rfl, _, _, X, hR.t0 _, uI_s _ _ _⟩
  refine e_doesV qcX8_111 X.obj rfl rfl (S_noHeap_f X ra c_7 ht) rfl rfl rfl rfl dX8_box_7 ?_
  intro v h9 q9
  obtain ⟨rfl, X⟩ := q9
  refine e_if_ne (tgt := 35) ⟨by decide, by decide⟩ dX8_box_10 rfl (fun c_10 => ?_) (fun c_10 => absurd (by decide) c_10)
  refine e_iconst dX8_box_35 ?_
  refine e_iret rfl dX8_box_36 (by decide) (by decide) ?_
  exact mz (show (k_box P a w) = (1, 0) from (if_neg c_7)) ⟨rfl, rfl, _, _, X, hR.t0 _, uI_s _ _ _⟩
end MSIXTEEN
