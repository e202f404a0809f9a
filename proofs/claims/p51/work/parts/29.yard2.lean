/-! Yard: the nearest and the farthest pair; copies -/
theorem e_top {C : g_E} {k n : Nat} {z : Option Nat} {h : g_hp} {pc : Nat} {L : List (Nat × Value)} {st : List Value} {x : Int} (x2 : Int) (e : x = x2) (kk : Ev C k n z h pc L (.int (iN x2) :: st)) : Ev C k n z h pc L (.int (iN x) :: st) := e ▸ kk
abbrev I2 : Type := Int × Int
abbrev exQ (u : Prop) (d b : Int) : Prop := (u ∧ b < d) ∨ (¬ u ∧ d < b)
def exS (P : PL) (a : Int) (u : Prop) [Decidable u] (i j : Nat) (s : I2) : I2 := if pM P j = a ∧ (s.1 < 0 ∨ exQ u (sqd P i j) s.2) then (100 * (i : Int) + (j : Int), sqd P i j) else s
def exJ (P : PL) (a : Int) (u : Prop) [Decidable u] (i : Nat) (s : I2) : Nat → I2
  | 0 => s
  | n + 1 => exS P a u i (i + 1 + n) (exJ P a u i s n)
def exI (P : PL) (a : Int) (u : Prop) [Decidable u] : Nat → I2
  | 0 => (-1, 0)
  | n + 1 => if pM P n = a then exJ P a u n (exI P a u n) (P.length - (n + 1)) else exI P a u n
abbrev exOK (s : I2) : Prop := (-1 ≤ s.1 ∧ s.1 ≤ 100000) ∧ 0 ≤ s.2 ∧ s.2 ≤ 32000000
section PYARD2
variable {G : g_X} {P E : PL} {S : Nat → PL} {y : Nat} {h : g_hp} {u : Prop} {a : Int}
theorem exS_no [Decidable u] {i j : Nat} {s : I2} (c : ¬ pM P j = a) : exS P a u i j s = s := if_neg fun w => c w.1
theorem exS_new [Decidable u] {i j : Nat} {s : I2} (c : pM P j = a) (w : s.1 < 0 ∨ exQ u (sqd P i j) s.2) : exS P a u i j s = (100 * (i : Int) + (j : Int), sqd P i j) := if_pos ⟨c, w⟩
theorem exS_old [Decidable u] {i j : Nat} {s : I2} (w : ¬ s.1 < 0) (w2 : ¬ exQ u (sqd P i j) s.2) : exS P a u i j s = s := if_neg fun x => x.2.elim w w2
theorem exS_ok [Decidable u] {i j : Nat} {s : I2} (hp : okL P) (hl : P.length ≤ 60) (hi : i < P.length) (hj : j < P.length) (hs : exOK s) : exOK (exS P a u i j s) := by
  unfold exS
  split
  · have := sqd_bd hp hi hj
    exact ⟨⟨by show -1 ≤ 100 * (i : Int) + (j : Int); omega, by show 100 * (i : Int) + (j : Int) ≤ 100000; omega⟩, this⟩
  · exact hs
theorem exJ_ok [Decidable u] {i : Nat} {s : I2} (hp : okL P) (hl : P.length ≤ 60) (hi : i < P.length) (hs : exOK s) : ∀ n, i + n < P.length → exOK (exJ P a u i s n)
  | 0, _ => hs
  | n + 1, h => exS_ok hp hl hi (by omega) (exJ_ok hp hl hi hs n (by omega))
theorem exI_ok [Decidable u] (hp : okL P) (hl : P.length ≤ 60) : ∀ n, n ≤ P.length → exOK (exI P a u n)
  | 0, _ => (⟨⟨by decide, by decide⟩, by decide, by decide⟩ : exOK (-1, 0))
  | n + 1, h => by
    unfold exI
    split
    · exact exJ_ok hp hl (by omega) (exI_ok hp hl n (by omega)) _ (by omega)
    · exact exI_ok hp hl n (by omega)
set_option maxRecDepth 20000 in
theorem ex_inner [Decidable u] {z : Option Nat} (hy : yardAt G P E S y h) (ha : r32 a) {i : Nat} (hi : i < P.length) {s0 : I2} (hs0 : exOK s0) (k : Ev (g_B G mX6_extremePair 0 0 (fun o z1 h1 => o = .inl (some (.int (iN (exI P a u P.length).1))) ∧ z1 = z ∧ h1 = h)) 0 0 z h 141 [(5, .int (iN i)), (3, .int (iN (exJ P a u i s0 (P.length - (i + 1))).1)), (4, .int (iN (exJ P a u i s0 (P.length - (i + 1))).2)), (0, .ref y), (1, .int (iN a)), (2, .int (iN (bP u)))] []) : ∀ (n t : Nat), t + n = P.length - (i + 1) → Ev (g_B G mX6_extremePair 0 0 (fun o z1 h1 => o = .inl (some (.int (iN (exI P a u P.length).1))) ∧ z1 = z ∧ h1 = h)) 0 0 z h 42 [(6, .int (iN (i + 1 + t : Nat))), (5, .int (iN i)), (3, .int (iN (exJ P a u i s0 t).1)), (4, .int (iN (exJ P a u i s0 t).2)), (0, .ref y), (1, .int (iN a)), (2, .int (iN (bP u)))] [] := by
  have h9 := hy.pts.1
  have a1 := ha.1
  have a2 := ha.2
  intro n
  induction n with
  | zero =>
    intro t htn
    have e9 : t = P.length - (i + 1) := by omega
    rw [← e9] at k
    refine e_iload dX6_extremePair_42 rfl ?_
    refine e_aload_n dX6_extremePair_44 rfl ?_
    refine e_getf fX6_14 hy.obj rfl dX6_extremePair_45 ?_
    refine e_pureV qcX6_30 hy.pts.obj rfl rfl (S_size hy.pts) rfl rfl rfl rfl dX6_extremePair_48 ?_
    refine e_icmp_ge (tgt := 141) ⟨by omega, by omega⟩ ⟨by omega, by omega⟩ dX6_extremePair_51 rfl (fun c_51 => ?_) (fun c_51 => absurd (by omega) c_51)
    exact e_loc [(5, .int (iN i)), (3, .int (iN (exJ P a u i s0 t).1)), (4, .int (iN (exJ P a u i s0 t).2)), (0, .ref y), (1, .int (iN a)), (2, .int (iN (bP u)))] ⟨rfl, rfl, rfl, rfl, rfl, rfl, trivial⟩ k
  | succ n ih =>
    intro t htn
    have hj : i + 1 + t < P.length := by omega
    have hb := (hy.pts.2.2.1.at hj).2.2
    have hq := sqd_bd hy.pts.2.2.1 hi hj
    have hs := exJ_ok (a := a) (u := u) hy.pts.2.2.1 h9 hi hs0 t (by omega)
    have e1 : exJ P a u i s0 (t + 1) = exS P a u i (i + 1 + t) (exJ P a u i s0 t) := rfl
    generalize exJ P a u i s0 t = s at *
    obtain ⟨⟨s1, s2⟩, s3, s4⟩ := hs
    refine e_iload dX6_extremePair_42 rfl ?_
    refine e_aload_n dX6_extremePair_44 rfl ?_
    refine e_getf fX6_14 hy.obj rfl dX6_extremePair_45 ?_
    refine e_pureV qcX6_30 hy.pts.obj rfl rfl (S_size hy.pts) rfl rfl rfl rfl dX6_extremePair_48 ?_
    refine e_icmp_ge (tgt := 141) ⟨by omega, by omega⟩ ⟨by omega, by omega⟩ dX6_extremePair_51 rfl (fun c_51 => absurd c_51 (by omega)) (fun c_51 => ?_)
    refine e_aload_n dX6_extremePair_54 rfl ?_
    refine e_getf fX6_14 hy.obj rfl dX6_extremePair_55 ?_
    refine e_iload dX6_extremePair_58 rfl ?_
    refine e_pureV qcX6_34 hy.pts.obj rfl rfl (S_markAt hy.pts hj) rfl rfl rfl rfl dX6_extremePair_60 ?_
    refine e_iload_n dX6_extremePair_63 rfl ?_
    refine e_icmp_eq (tgt := 70) ⟨by omega, by omega⟩ ⟨by omega, by omega⟩ dX6_extremePair_64 rfl (fun c_64 => ?_) (fun c_64 => ?_)
    · refine e_aload_n dX6_extremePair_70 rfl ?_
      refine e_iload dX6_extremePair_71 rfl ?_
      refine e_iload dX6_extremePair_73 rfl ?_
      refine e_pureV qcX6_48 hy.obj rfl rfl (S_squaredDistance hy hi hj) rfl rfl rfl rfl dX6_extremePair_75 ?_
      refine e_istore dX6_extremePair_78 rfl ?_
      refine e_iload_n dX6_extremePair_80 rfl ?_
      refine e_ifP_eq (tgt := 99) dX6_extremePair_81 rfl (fun c_81 => ?_) (fun c_81 => ?_)
      · refine e_iload dX6_extremePair_99 rfl ?_
        refine e_iload dX6_extremePair_101 rfl ?_
        refine e_icmp_ge (tgt := 110) ⟨by omega, by omega⟩ ⟨by omega, by omega⟩ dX6_extremePair_103 rfl (fun c_103 => ?_) (fun c_103 => ?_)
        · refine e_iconst dX6_extremePair_110 ?_
          refine e_top (bP (exQ u (sqd P i (i + 1 + t)) s.2)) (bP_f (fun w => w.elim (fun w => c_81 w.1) (fun w => absurd w.2 (Int.not_lt.mpr c_103)))).symm ?_
          refine e_istore dX6_extremePair_111 rfl ?_
          refine e_iload_n dX6_extremePair_113 rfl ?_
          refine e_if_lt (tgt := 122) ⟨by omega, by omega⟩ dX6_extremePair_114 rfl (fun c_114 => ?_) (fun c_114 => ?_)
          · refine e_bipush dX6_extremePair_122 (by decide) ?_
            refine e_iload dX6_extremePair_124 rfl ?_
            refine e_imul dX6_extremePair_126 ?_
            refine e_iload dX6_extremePair_127 rfl ?_
            refine e_iadd dX6_extremePair_129 ?_
            refine e_istore_n dX6_extremePair_130 rfl ?_
            refine e_iload dX6_extremePair_131 rfl ?_
            refine e_istore dX6_extremePair_133 rfl ?_
            refine e_iinc dX6_extremePair_135 rfl ?_
            refine e_goto (tgt := 42) dX6_extremePair_138 rfl ?_
            first | exact e_loc [(6, .int (iN (i + 1 + (t + 1) : Nat))), (5, .int (iN i)), (3, .int (iN (exJ P a u i s0 (t + 1)).1)), (4, .int (iN (exJ P a u i s0 (t + 1)).2)), (0, .ref y), (1, .int (iN a)), (2, .int (iN (bP u)))] ⟨rfl, rfl, by rw [e1, exS_no c_64]; rfl, by rw [e1, exS_no c_64]; rfl, rfl, rfl, rfl, trivial⟩ (ih (t + 1) (by omega)) | exact e_loc [(6, .int (iN (i + 1 + (t + 1) : Nat))), (5, .int (iN i)), (3, .int (iN (exJ P a u i s0 (t + 1)).1)), (4, .int (iN (exJ P a u i s0 (t + 1)).2)), (0, .ref y), (1, .int (iN a)), (2, .int (iN (bP u)))] ⟨rfl, rfl, by rw [e1, exS_new c_64 (Or.inl c_114)]; rfl, by rw [e1, exS_new c_64 (Or.inl c_114)]; rfl, rfl, rfl, rfl, trivial⟩ (ih (t + 1) (by omega)) | exact e_loc [(6, .int (iN (i + 1 + (t + 1) : Nat))), (5, .int (iN i)), (3, .int (iN (exJ P a u i s0 (t + 1)).1)), (4, .int (iN (exJ P a u i s0 (t + 1)).2)), (0, .ref y), (1, .int (iN a)), (2, .int (iN (bP u)))] ⟨rfl, rfl, by rw [e1, exS_new c_64 (Or.inr c_119)]; rfl, by rw [e1, exS_new c_64 (Or.inr c_119)]; rfl, rfl, rfl, rfl, trivial⟩ (ih (t + 1) (by omega)) | exact e_loc [(6, .int (iN (i + 1 + (t + 1) : Nat))), (5, .int (iN i)), (3, .int (iN (exJ P a u i s0 (t + 1)).1)), (4, .int (iN (exJ P a u i s0 (t + 1)).2)), (0, .ref y), (1, .int (iN a)), (2, .int (iN (bP u)))] ⟨rfl, rfl, by rw [e1, exS_old c_114 c_119]; rfl, by rw [e1, exS_old c_114 c_119]; rfl, rfl, rfl, rfl, trivial⟩ (ih (t + 1) (by omega))
          · refine e_iload dX6_extremePair_117 rfl ?_
            refine e_ifP_eq (tgt := 135) dX6_extremePair_119 rfl (fun c_119 => ?_) (fun c_119 => ?_)
            · refine e_iinc dX6_extremePair_135 rfl ?_
              refine e_goto (tgt := 42) dX6_extremePair_138 rfl ?_
              first | exact e_loc [(6, .int (iN (i + 1 + (t + 1) : Nat))), (5, .int (iN i)), (3, .int (iN (exJ P a u i s0 (t + 1)).1)), (4, .int (iN (exJ P a u i s0 (t + 1)).2)), (0, .ref y), (1, .int (iN a)), (2, .int (iN (bP u)))] ⟨rfl, rfl, by rw [e1, exS_no c_64]; rfl, by rw [e1, exS_no c_64]; rfl, rfl, rfl, rfl, trivial⟩ (ih (t + 1) (by omega)) | exact e_loc [(6, .int (iN (i + 1 + (t + 1) : Nat))), (5, .int (iN i)), (3, .int (iN (exJ P a u i s0 (t + 1)).1)), (4, .int (iN (exJ P a u i s0 (t + 1)).2)), (0, .ref y), (1, .int (iN a)), (2, .int (iN (bP u)))] ⟨rfl, rfl, by rw [e1, exS_new c_64 (Or.inl c_114)]; rfl, by rw [e1, exS_new c_64 (Or.inl c_114)]; rfl, rfl, rfl, rfl, trivial⟩ (ih (t + 1) (by omega)) | exact e_loc [(6, .int (iN (i + 1 + (t + 1) : Nat))), (5, .int (iN i)), (3, .int (iN (exJ P a u i s0 (t + 1)).1)), (4, .int (iN (exJ P a u i s0 (t + 1)).2)), (0, .ref y), (1, .int (iN a)), (2, .int (iN (bP u)))] ⟨rfl, rfl, by rw [e1, exS_new c_64 (Or.inr c_119)]; rfl, by rw [e1, exS_new c_64 (Or.inr c_119)]; rfl, rfl, rfl, rfl, trivial⟩ (ih (t + 1) (by omega)) | exact e_loc [(6, .int (iN (i + 1 + (t + 1) : Nat))), (5, .int (iN i)), (3, .int (iN (exJ P a u i s0 (t + 1)).1)), (4, .int (iN (exJ P a u i s0 (t + 1)).2)), (0, .ref y), (1, .int (iN a)), (2, .int (iN (bP u)))] ⟨rfl, rfl, by rw [e1, exS_old c_114 c_119]; rfl, by rw [e1, exS_old c_114 c_119]; rfl, rfl, rfl, rfl, trivial⟩ (ih (t + 1) (by omega))
            · refine e_bipush dX6_extremePair_122 (by decide) ?_
              refine e_iload dX6_extremePair_124 rfl ?_
              refine e_imul dX6_extremePair_126 ?_
              refine e_iload dX6_extremePair_127 rfl ?_
              refine e_iadd dX6_extremePair_129 ?_
              refine e_istore_n dX6_extremePair_130 rfl ?_
              refine e_iload dX6_extremePair_131 rfl ?_
              refine e_istore dX6_extremePair_133 rfl ?_
              refine e_iinc dX6_extremePair_135 rfl ?_
              refine e_goto (tgt := 42) dX6_extremePair_138 rfl ?_
              first | exact e_loc [(6, .int (iN (i + 1 + (t + 1) : Nat))), (5, .int (iN i)), (3, .int (iN (exJ P a u i s0 (t + 1)).1)), (4, .int (iN (exJ P a u i s0 (t + 1)).2)), (0, .ref y), (1, .int (iN a)), (2, .int (iN (bP u)))] ⟨rfl, rfl, by rw [e1, exS_no c_64]; rfl, by rw [e1, exS_no c_64]; rfl, rfl, rfl, rfl, trivial⟩ (ih (t + 1) (by omega)) | exact e_loc [(6, .int (iN (i + 1 + (t + 1) : Nat))), (5, .int (iN i)), (3, .int (iN (exJ P a u i s0 (t + 1)).1)), (4, .int (iN (exJ P a u i s0 (t + 1)).2)), (0, .ref y), (1, .int (iN a)), (2, .int (iN (bP u)))] ⟨rfl, rfl, by rw [e1, exS_new c_64 (Or.inl c_114)]; rfl, by rw [e1, exS_new c_64 (Or.inl c_114)]; rfl, rfl, rfl, rfl, trivial⟩ (ih (t + 1) (by omega)) | exact e_loc [(6, .int (iN (i + 1 + (t + 1) : Nat))), (5, .int (iN i)), (3, .int (iN (exJ P a u i s0 (t + 1)).1)), (4, .int (iN (exJ P a u i s0 (t + 1)).2)), (0, .ref y), (1, .int (iN a)), (2, .int (iN (bP u)))] ⟨rfl, rfl, by rw [e1, exS_new c_64 (Or.inr c_119)]; rfl, by rw [e1, exS_new c_64 (Or.inr c_119)]; rfl, rfl, rfl, rfl, trivial⟩ (ih (t + 1) (by omega)) | exact e_loc [(6, .int (iN (i + 1 + (t + 1) : Nat))), (5, .int (iN i)), (3, .int (iN (exJ P a u i s0 (t + 1)).1)), (4, .int (iN (exJ P a u i s0 (t + 1)).2)), (0, .ref y), (1, .int (iN a)), (2, .int (iN (bP u)))] ⟨rfl, rfl, by rw [e1, exS_old c_114 c_119]; rfl, by rw [e1, exS_old c_114 c_119]; rfl, rfl, rfl, rfl, trivial⟩ (ih (t + 1) (by omega))
        · refine e_iconst dX6_extremePair_106 ?_
          refine e_top (bP (exQ u (sqd P i (i + 1 + t)) s.2)) (bP_t (Or.inr ⟨c_81, Int.not_le.mp c_103⟩)).symm ?_
          refine e_goto (tgt := 111) dX6_extremePair_107 rfl ?_
          refine e_istore dX6_extremePair_111 rfl ?_
          refine e_iload_n dX6_extremePair_113 rfl ?_
          refine e_if_lt (tgt := 122) ⟨by omega, by omega⟩ dX6_extremePair_114 rfl (fun c_114 => ?_) (fun c_114 => ?_)
          · refine e_bipush dX6_extremePair_122 (by decide) ?_
            refine e_iload dX6_extremePair_124 rfl ?_
            refine e_imul dX6_extremePair_126 ?_
            refine e_iload dX6_extremePair_127 rfl ?_
            refine e_iadd dX6_extremePair_129 ?_
            refine e_istore_n dX6_extremePair_130 rfl ?_
            refine e_iload dX6_extremePair_131 rfl ?_
            refine e_istore dX6_extremePair_133 rfl ?_
            refine e_iinc dX6_extremePair_135 rfl ?_
            refine e_goto (tgt := 42) dX6_extremePair_138 rfl ?_
            first | exact e_loc [(6, .int (iN (i + 1 + (t + 1) : Nat))), (5, .int (iN i)), (3, .int (iN (exJ P a u i s0 (t + 1)).1)), (4, .int (iN (exJ P a u i s0 (t + 1)).2)), (0, .ref y), (1, .int (iN a)), (2, .int (iN (bP u)))] ⟨rfl, rfl, by rw [e1, exS_no c_64]; rfl, by rw [e1, exS_no c_64]; rfl, rfl, rfl, rfl, trivial⟩ (ih (t + 1) (by omega)) | exact e_loc [(6, .int (iN (i + 1 + (t + 1) : Nat))), (5, .int (iN i)), (3, .int (iN (exJ P a u i s0 (t + 1)).1)), (4, .int (iN (exJ P a u i s0 (t + 1)).2)), (0, .ref y), (1, .int (iN a)), (2, .int (iN (bP u)))] ⟨rfl, rfl, by rw [e1, exS_new c_64 (Or.inl c_114)]; rfl, by rw [e1, exS_new c_64 (Or.inl c_114)]; rfl, rfl, rfl, rfl, trivial⟩ (ih (t + 1) (by omega)) | exact e_loc [(6, .int (iN (i + 1 + (t + 1) : Nat))), (5, .int (iN i)), (3, .int (iN (exJ P a u i s0 (t + 1)).1)), (4, .int (iN (exJ P a u i s0 (t + 1)).2)), (0, .ref y), (1, .int (iN a)), (2, .int (iN (bP u)))] ⟨rfl, rfl, by rw [e1, exS_new c_64 (Or.inr c_119)]; rfl, by rw [e1, exS_new c_64 (Or.inr c_119)]; rfl, rfl, rfl, rfl, trivial⟩ (ih (t + 1) (by omega)) | exact e_loc [(6, .int (iN (i + 1 + (t + 1) : Nat))), (5, .int (iN i)), (3, .int (iN (exJ P a u i s0 (t + 1)).1)), (4, .int (iN (exJ P a u i s0 (t + 1)).2)), (0, .ref y), (1, .int (iN a)), (2, .int (iN (bP u)))] ⟨rfl, rfl, by rw [e1, exS_old c_114 c_119]; rfl, by rw [e1, exS_old c_114 c_119]; rfl, rfl, rfl, rfl, trivial⟩ (ih (t + 1) (by omega))
          · refine e_iload dX6_extremePair_117 rfl ?_
            refine e_ifP_eq (tgt := 135) dX6_extremePair_119 rfl (fun c_119 => ?_) (fun c_119 => ?_)
            · refine e_iinc dX6_extremePair_135 rfl ?_
              refine e_goto (tgt := 42) dX6_extremePair_138 rfl ?_
              first | exact e_loc [(6, .int (iN (i + 1 + (t + 1) : Nat))), (5, .int (iN i)), (3, .int (iN (exJ P a u i s0 (t + 1)).1)), (4, .int (iN (exJ P a u i s0 (t + 1)).2)), (0, .ref y), (1, .int (iN a)), (2, .int (iN (bP u)))] ⟨rfl, rfl, by rw [e1, exS_no c_64]; rfl, by rw [e1, exS_no c_64]; rfl, rfl, rfl, rfl, trivial⟩ (ih (t + 1) (by omega)) | exact e_loc [(6, .int (iN (i + 1 + (t + 1) : Nat))), (5, .int (iN i)), (3, .int (iN (exJ P a u i s0 (t + 1)).1)), (4, .int (iN (exJ P a u i s0 (t + 1)).2)), (0, .ref y), (1, .int (iN a)), (2, .int (iN (bP u)))] ⟨rfl, rfl, by rw [e1, exS_new c_64 (Or.inl c_114)]; rfl, by rw [e1, exS_new c_64 (Or.inl c_114)]; rfl, rfl, rfl, rfl, trivial⟩ (ih (t + 1) (by omega)) | exact e_loc [(6, .int (iN (i + 1 + (t + 1) : Nat))), (5, .int (iN i)), (3, .int (iN (exJ P a u i s0 (t + 1)).1)), (4, .int (iN (exJ P a u i s0 (t + 1)).2)), (0, .ref y), (1, .int (iN a)), (2, .int (iN (bP u)))] ⟨rfl, rfl, by rw [e1, exS_new c_64 (Or.inr c_119)]; rfl, by rw [e1, exS_new c_64 (Or.inr c_119)]; rfl, rfl, rfl, rfl, trivial⟩ (ih (t + 1) (by omega)) | exact e_loc [(6, .int (iN (i + 1 + (t + 1) : Nat))), (5, .int (iN i)), (3, .int (iN (exJ P a u i s0 (t + 1)).1)), (4, .int (iN (exJ P a u i s0 (t + 1)).2)), (0, .ref y), (1, .int (iN a)), (2, .int (iN (bP u)))] ⟨rfl, rfl, by rw [e1, exS_old c_114 c_119]; rfl, by rw [e1, exS_old c_114 c_119]; rfl, rfl, rfl, rfl, trivial⟩ (ih (t + 1) (by omega))
            · refine e_bipush dX6_extremePair_122 (by decide) ?_
              refine e_iload dX6_extremePair_124 rfl ?_
              refine e_imul dX6_extremePair_126 ?_
              refine e_iload dX6_extremePair_127 rfl ?_
              refine e_iadd dX6_extremePair_129 ?_
              refine e_istore_n dX6_extremePair_130 rfl ?_
              refine e_iload dX6_extremePair_131 rfl ?_
              refine e_istore dX6_extremePair_133 rfl ?_
              refine e_iinc dX6_extremePair_135 rfl ?_
              refine e_goto (tgt := 42) dX6_extremePair_138 rfl ?_
              first | exact e_loc [(6, .int (iN (i + 1 + (t + 1) : Nat))), (5, .int (iN i)), (3, .int (iN (exJ P a u i s0 (t + 1)).1)), (4, .int (iN (exJ P a u i s0 (t + 1)).2)), (0, .ref y), (1, .int (iN a)), (2, .int (iN (bP u)))] ⟨rfl, rfl, by rw [e1, exS_no c_64]; rfl, by rw [e1, exS_no c_64]; rfl, rfl, rfl, rfl, trivial⟩ (ih (t + 1) (by omega)) | exact e_loc [(6, .int (iN (i + 1 + (t + 1) : Nat))), (5, .int (iN i)), (3, .int (iN (exJ P a u i s0 (t + 1)).1)), (4, .int (iN (exJ P a u i s0 (t + 1)).2)), (0, .ref y), (1, .int (iN a)), (2, .int (iN (bP u)))] ⟨rfl, rfl, by rw [e1, exS_new c_64 (Or.inl c_114)]; rfl, by rw [e1, exS_new c_64 (Or.inl c_114)]; rfl, rfl, rfl, rfl, trivial⟩ (ih (t + 1) (by omega)) | exact e_loc [(6, .int (iN (i + 1 + (t + 1) : Nat))), (5, .int (iN i)), (3, .int (iN (exJ P a u i s0 (t + 1)).1)), (4, .int (iN (exJ P a u i s0 (t + 1)).2)), (0, .ref y), (1, .int (iN a)), (2, .int (iN (bP u)))] ⟨rfl, rfl, by rw [e1, exS_new c_64 (Or.inr c_119)]; rfl, by rw [e1, exS_new c_64 (Or.inr c_119)]; rfl, rfl, rfl, rfl, trivial⟩ (ih (t + 1) (by omega)) | exact e_loc [(6, .int (iN (i + 1 + (t + 1) : Nat))), (5, .int (iN i)), (3, .int (iN (exJ P a u i s0 (t + 1)).1)), (4, .int (iN (exJ P a u i s0 (t + 1)).2)), (0, .ref y), (1, .int (iN a)), (2, .int (iN (bP u)))] ⟨rfl, rfl, by rw [e1, exS_old c_114 c_119]; rfl, by rw [e1, exS_old c_114 c_119]; rfl, rfl, rfl, rfl, trivial⟩ (ih (t + 1) (by omega))
      · refine e_iload dX6_extremePair_84 rfl ?_
        refine e_iload dX6_extremePair_86 rfl ?_
        refine e_icmp_le (tgt := 95) ⟨by omega, by omega⟩ ⟨by omega, by omega⟩ dX6_extremePair_88 rfl (fun c_88 => ?_) (fun c_88 => ?_)
        · refine e_iconst dX6_extremePair_95 ?_
          refine e_top (bP (exQ u (sqd P i (i + 1 + t)) s.2)) (bP_f (fun w => w.elim (fun w => absurd w.2 (Int.not_lt.mpr c_88)) (fun w => w.1 c_81))).symm ?_
          refine e_goto (tgt := 111) dX6_extremePair_96 rfl ?_
          refine e_istore dX6_extremePair_111 rfl ?_
          refine e_iload_n dX6_extremePair_113 rfl ?_
          refine e_if_lt (tgt := 122) ⟨by omega, by omega⟩ dX6_extremePair_114 rfl (fun c_114 => ?_) (fun c_114 => ?_)
          · refine e_bipush dX6_extremePair_122 (by decide) ?_
            refine e_iload dX6_extremePair_124 rfl ?_
            refine e_imul dX6_extremePair_126 ?_
            refine e_iload dX6_extremePair_127 rfl ?_
            refine e_iadd dX6_extremePair_129 ?_
            refine e_istore_n dX6_extremePair_130 rfl ?_
            refine e_iload dX6_extremePair_131 rfl ?_
            refine e_istore dX6_extremePair_133 rfl ?_
            refine e_iinc dX6_extremePair_135 rfl ?_
            refine e_goto (tgt := 42) dX6_extremePair_138 rfl ?_
            first | exact e_loc [(6, .int (iN (i + 1 + (t + 1) : Nat))), (5, .int (iN i)), (3, .int (iN (exJ P a u i s0 (t + 1)).1)), (4, .int (iN (exJ P a u i s0 (t + 1)).2)), (0, .ref y), (1, .int (iN a)), (2, .int (iN (bP u)))] ⟨rfl, rfl, by rw [e1, exS_no c_64]; rfl, by rw [e1, exS_no c_64]; rfl, rfl, rfl, rfl, trivial⟩ (ih (t + 1) (by omega)) | exact e_loc [(6, .int (iN (i + 1 + (t + 1) : Nat))), (5, .int (iN i)), (3, .int (iN (exJ P a u i s0 (t + 1)).1)), (4, .int (iN (exJ P a u i s0 (t + 1)).2)), (0, .ref y), (1, .int (iN a)), (2, .int (iN (bP u)))] ⟨rfl, rfl, by rw [e1, exS_new c_64 (Or.inl c_114)]; rfl, by rw [e1, exS_new c_64 (Or.inl c_114)]; rfl, rfl, rfl, rfl, trivial⟩ (ih (t + 1) (by omega)) | exact e_loc [(6, .int (iN (i + 1 + (t + 1) : Nat))), (5, .int (iN i)), (3, .int (iN (exJ P a u i s0 (t + 1)).1)), (4, .int (iN (exJ P a u i s0 (t + 1)).2)), (0, .ref y), (1, .int (iN a)), (2, .int (iN (bP u)))] ⟨rfl, rfl, by rw [e1, exS_new c_64 (Or.inr c_119)]; rfl, by rw [e1, exS_new c_64 (Or.inr c_119)]; rfl, rfl, rfl, rfl, trivial⟩ (ih (t + 1) (by omega)) | exact e_loc [(6, .int (iN (i + 1 + (t + 1) : Nat))), (5, .int (iN i)), (3, .int (iN (exJ P a u i s0 (t + 1)).1)), (4, .int (iN (exJ P a u i s0 (t + 1)).2)), (0, .ref y), (1, .int (iN a)), (2, .int (iN (bP u)))] ⟨rfl, rfl, by rw [e1, exS_old c_114 c_119]; rfl, by rw [e1, exS_old c_114 c_119]; rfl, rfl, rfl, rfl, trivial⟩ (ih (t + 1) (by omega))
          · refine e_iload dX6_extremePair_117 rfl ?_
            refine e_ifP_eq (tgt := 135) dX6_extremePair_119 rfl (fun c_119 => ?_) (fun c_119 => ?_)
            · refine e_iinc dX6_extremePair_135 rfl ?_
              refine e_goto (tgt := 42) dX6_extremePair_138 rfl ?_
              first | exact e_loc [(6, .int (iN (i + 1 + (t + 1) : Nat))), (5, .int (iN i)), (3, .int (iN (exJ P a u i s0 (t + 1)).1)), (4, .int (iN (exJ P a u i s0 (t + 1)).2)), (0, .ref y), (1, .int (iN a)), (2, .int (iN (bP u)))] ⟨rfl, rfl, by rw [e1, exS_no c_64]; rfl, by rw [e1, exS_no c_64]; rfl, rfl, rfl, rfl, trivial⟩ (ih (t + 1) (by omega)) | exact e_loc [(6, .int (iN (i + 1 + (t + 1) : Nat))), (5, .int (iN i)), (3, .int (iN (exJ P a u i s0 (t + 1)).1)), (4, .int (iN (exJ P a u i s0 (t + 1)).2)), (0, .ref y), (1, .int (iN a)), (2, .int (iN (bP u)))] ⟨rfl, rfl, by rw [e1, exS_new c_64 (Or.inl c_114)]; rfl, by rw [e1, exS_new c_64 (Or.inl c_114)]; rfl, rfl, rfl, rfl, trivial⟩ (ih (t + 1) (by omega)) | exact e_loc [(6, .int (iN (i + 1 + (t + 1) : Nat))), (5, .int (iN i)), (3, .int (iN (exJ P a u i s0 (t + 1)).1)), (4, .int (iN (exJ P a u i s0 (t + 1)).2)), (0, .ref y), (1, .int (iN a)), (2, .int (iN (bP u)))] ⟨rfl, rfl, by rw [e1, exS_new c_64 (Or.inr c_119)]; rfl, by rw [e1, exS_new c_64 (Or.inr c_119)]; rfl, rfl, rfl, rfl, trivial⟩ (ih (t + 1) (by omega)) | exact e_loc [(6, .int (iN (i + 1 + (t + 1) : Nat))), (5, .int (iN i)), (3, .int (iN (exJ P a u i s0 (t + 1)).1)), (4, .int (iN (exJ P a u i s0 (t + 1)).2)), (0, .ref y), (1, .int (iN a)), (2, .int (iN (bP u)))] ⟨rfl, rfl, by rw [e1, exS_old c_114 c_119]; rfl, by rw [e1, exS_old c_114 c_119]; rfl, rfl, rfl, rfl, trivial⟩ (ih (t + 1) (by omega))
            · refine e_bipush dX6_extremePair_122 (by decide) ?_
              refine e_iload dX6_extremePair_124 rfl ?_
              refine e_imul dX6_extremePair_126 ?_
              refine e_iload dX6_extremePair_127 rfl ?_
              refine e_iadd dX6_extremePair_129 ?_
              refine e_istore_n dX6_extremePair_130 rfl ?_
              refine e_iload dX6_extremePair_131 rfl ?_
              refine e_istore dX6_extremePair_133 rfl ?_
              refine e_iinc dX6_extremePair_135 rfl ?_
              refine e_goto (tgt := 42) dX6_extremePair_138 rfl ?_
              first | exact e_loc [(6, .int (iN (i + 1 + (t + 1) : Nat))), (5, .int (iN i)), (3, .int (iN (exJ P a u i s0 (t + 1)).1)), (4, .int (iN (exJ P a u i s0 (t + 1)).2)), (0, .ref y), (1, .int (iN a)), (2, .int (iN (bP u)))] ⟨rfl, rfl, by rw [e1, exS_no c_64]; rfl, by rw [e1, exS_no c_64]; rfl, rfl, rfl, rfl, trivial⟩ (ih (t + 1) (by omega)) | exact e_loc [(6, .int (iN (i + 1 + (t + 1) : Nat))), (5, .int (iN i)), (3, .int (iN (exJ P a u i s0 (t + 1)).1)), (4, .int (iN (exJ P a u i s0 (t + 1)).2)), (0, .ref y), (1, .int (iN a)), (2, .int (iN (bP u)))] ⟨rfl, rfl, by rw [e1, exS_new c_64 (Or.inl c_114)]; rfl, by rw [e1, exS_new c_64 (Or.inl c_114)]; rfl, rfl, rfl, rfl, trivial⟩ (ih (t + 1) (by omega)) | exact e_loc [(6, .int (iN (i + 1 + (t + 1) : Nat))), (5, .int (iN i)), (3, .int (iN (exJ P a u i s0 (t + 1)).1)), (4, .int (iN (exJ P a u i s0 (t + 1)).2)), (0, .ref y), (1, .int (iN a)), (2, .int (iN (bP u)))] ⟨rfl, rfl, by rw [e1, exS_new c_64 (Or.inr c_119)]; rfl, by rw [e1, exS_new c_64 (Or.inr c_119)]; rfl, rfl, rfl, rfl, trivial⟩ (ih (t + 1) (by omega)) | exact e_loc [(6, .int (iN (i + 1 + (t + 1) : Nat))), (5, .int (iN i)), (3, .int (iN (exJ P a u i s0 (t + 1)).1)), (4, .int (iN (exJ P a u i s0 (t + 1)).2)), (0, .ref y), (1, .int (iN a)), (2, .int (iN (bP u)))] ⟨rfl, rfl, by rw [e1, exS_old c_114 c_119]; rfl, by rw [e1, exS_old c_114 c_119]; rfl, rfl, rfl, rfl, trivial⟩ (ih (t + 1) (by omega))
        · refine e_iconst dX6_extremePair_91 ?_
          refine e_top (bP (exQ u (sqd P i (i + 1 + t)) s.2)) (bP_t (Or.inl ⟨c_81, Int.not_le.mp c_88⟩)).symm ?_
          refine e_goto (tgt := 111) dX6_extremePair_92 rfl ?_
          refine e_istore dX6_extremePair_111 rfl ?_
          refine e_iload_n dX6_extremePair_113 rfl ?_
          refine e_if_lt (tgt := 122) ⟨by omega, by omega⟩ dX6_extremePair_114 rfl (fun c_114 => ?_) (fun c_114 => ?_)
          · refine e_bipush dX6_extremePair_122 (by decide) ?_
            refine e_iload dX6_extremePair_124 rfl ?_
            refine e_imul dX6_extremePair_126 ?_
            refine e_iload dX6_extremePair_127 rfl ?_
            refine e_iadd dX6_extremePair_129 ?_
            refine e_istore_n dX6_extremePair_130 rfl ?_
            refine e_iload dX6_extremePair_131 rfl ?_
            refine e_istore dX6_extremePair_133 rfl ?_
            refine e_iinc dX6_extremePair_135 rfl ?_
            refine e_goto (tgt := 42) dX6_extremePair_138 rfl ?_
            first | exact e_loc [(6, .int (iN (i + 1 + (t + 1) : Nat))), (5, .int (iN i)), (3, .int (iN (exJ P a u i s0 (t + 1)).1)), (4, .int (iN (exJ P a u i s0 (t + 1)).2)), (0, .ref y), (1, .int (iN a)), (2, .int (iN (bP u)))] ⟨rfl, rfl, by rw [e1, exS_no c_64]; rfl, by rw [e1, exS_no c_64]; rfl, rfl, rfl, rfl, trivial⟩ (ih (t + 1) (by omega)) | exact e_loc [(6, .int (iN (i + 1 + (t + 1) : Nat))), (5, .int (iN i)), (3, .int (iN (exJ P a u i s0 (t + 1)).1)), (4, .int (iN (exJ P a u i s0 (t + 1)).2)), (0, .ref y), (1, .int (iN a)), (2, .int (iN (bP u)))] ⟨rfl, rfl, by rw [e1, exS_new c_64 (Or.inl c_114)]; rfl, by rw [e1, exS_new c_64 (Or.inl c_114)]; rfl, rfl, rfl, rfl, trivial⟩ (ih (t + 1) (by omega)) | exact e_loc [(6, .int (iN (i + 1 + (t + 1) : Nat))), (5, .int (iN i)), (3, .int (iN (exJ P a u i s0 (t + 1)).1)), (4, .int (iN (exJ P a u i s0 (t + 1)).2)), (0, .ref y), (1, .int (iN a)), (2, .int (iN (bP u)))] ⟨rfl, rfl, by rw [e1, exS_new c_64 (Or.inr c_119)]; rfl, by rw [e1, exS_new c_64 (Or.inr c_119)]; rfl, rfl, rfl, rfl, trivial⟩ (ih (t + 1) (by omega)) | exact e_loc [(6, .int (iN (i + 1 + (t + 1) : Nat))), (5, .int (iN i)), (3, .int (iN (exJ P a u i s0 (t + 1)).1)), (4, .int (iN (exJ P a u i s0 (t + 1)).2)), (0, .ref y), (1, .int (iN a)), (2, .int (iN (bP u)))] ⟨rfl, rfl, by rw [e1, exS_old c_114 c_119]; rfl, by rw [e1, exS_old c_114 c_119]; rfl, rfl, rfl, rfl, trivial⟩ (ih (t + 1) (by omega))
          · refine e_iload dX6_extremePair_117 rfl ?_
            refine e_ifP_eq (tgt := 135) dX6_extremePair_119 rfl (fun c_119 => ?_) (fun c_119 => ?_)
            · refine e_iinc dX6_extremePair_135 rfl ?_
              refine e_goto (tgt := 42) dX6_extremePair_138 rfl ?_
              first | exact e_loc [(6, .int (iN (i + 1 + (t + 1) : Nat))), (5, .int (iN i)), (3, .int (iN (exJ P a u i s0 (t + 1)).1)), (4, .int (iN (exJ P a u i s0 (t + 1)).2)), (0, .ref y), (1, .int (iN a)), (2, .int (iN (bP u)))] ⟨rfl, rfl, by rw [e1, exS_no c_64]; rfl, by rw [e1, exS_no c_64]; rfl, rfl, rfl, rfl, trivial⟩ (ih (t + 1) (by omega)) | exact e_loc [(6, .int (iN (i + 1 + (t + 1) : Nat))), (5, .int (iN i)), (3, .int (iN (exJ P a u i s0 (t + 1)).1)), (4, .int (iN (exJ P a u i s0 (t + 1)).2)), (0, .ref y), (1, .int (iN a)), (2, .int (iN (bP u)))] ⟨rfl, rfl, by rw [e1, exS_new c_64 (Or.inl c_114)]; rfl, by rw [e1, exS_new c_64 (Or.inl c_114)]; rfl, rfl, rfl, rfl, trivial⟩ (ih (t + 1) (by omega)) | exact e_loc [(6, .int (iN (i + 1 + (t + 1) : Nat))), (5, .int (iN i)), (3, .int (iN (exJ P a u i s0 (t + 1)).1)), (4, .int (iN (exJ P a u i s0 (t + 1)).2)), (0, .ref y), (1, .int (iN a)), (2, .int (iN (bP u)))] ⟨rfl, rfl, by rw [e1, exS_new c_64 (Or.inr c_119)]; rfl, by rw [e1, exS_new c_64 (Or.inr c_119)]; rfl, rfl, rfl, rfl, trivial⟩ (ih (t + 1) (by omega)) | exact e_loc [(6, .int (iN (i + 1 + (t + 1) : Nat))), (5, .int (iN i)), (3, .int (iN (exJ P a u i s0 (t + 1)).1)), (4, .int (iN (exJ P a u i s0 (t + 1)).2)), (0, .ref y), (1, .int (iN a)), (2, .int (iN (bP u)))] ⟨rfl, rfl, by rw [e1, exS_old c_114 c_119]; rfl, by rw [e1, exS_old c_114 c_119]; rfl, rfl, rfl, rfl, trivial⟩ (ih (t + 1) (by omega))
            · refine e_bipush dX6_extremePair_122 (by decide) ?_
              refine e_iload dX6_extremePair_124 rfl ?_
              refine e_imul dX6_extremePair_126 ?_
              refine e_iload dX6_extremePair_127 rfl ?_
              refine e_iadd dX6_extremePair_129 ?_
              refine e_istore_n dX6_extremePair_130 rfl ?_
              refine e_iload dX6_extremePair_131 rfl ?_
              refine e_istore dX6_extremePair_133 rfl ?_
              refine e_iinc dX6_extremePair_135 rfl ?_
              refine e_goto (tgt := 42) dX6_extremePair_138 rfl ?_
              first | exact e_loc [(6, .int (iN (i + 1 + (t + 1) : Nat))), (5, .int (iN i)), (3, .int (iN (exJ P a u i s0 (t + 1)).1)), (4, .int (iN (exJ P a u i s0 (t + 1)).2)), (0, .ref y), (1, .int (iN a)), (2, .int (iN (bP u)))] ⟨rfl, rfl, by rw [e1, exS_no c_64]; rfl, by rw [e1, exS_no c_64]; rfl, rfl, rfl, rfl, trivial⟩ (ih (t + 1) (by omega)) | exact e_loc [(6, .int (iN (i + 1 + (t + 1) : Nat))), (5, .int (iN i)), (3, .int (iN (exJ P a u i s0 (t + 1)).1)), (4, .int (iN (exJ P a u i s0 (t + 1)).2)), (0, .ref y), (1, .int (iN a)), (2, .int (iN (bP u)))] ⟨rfl, rfl, by rw [e1, exS_new c_64 (Or.inl c_114)]; rfl, by rw [e1, exS_new c_64 (Or.inl c_114)]; rfl, rfl, rfl, rfl, trivial⟩ (ih (t + 1) (by omega)) | exact e_loc [(6, .int (iN (i + 1 + (t + 1) : Nat))), (5, .int (iN i)), (3, .int (iN (exJ P a u i s0 (t + 1)).1)), (4, .int (iN (exJ P a u i s0 (t + 1)).2)), (0, .ref y), (1, .int (iN a)), (2, .int (iN (bP u)))] ⟨rfl, rfl, by rw [e1, exS_new c_64 (Or.inr c_119)]; rfl, by rw [e1, exS_new c_64 (Or.inr c_119)]; rfl, rfl, rfl, rfl, trivial⟩ (ih (t + 1) (by omega)) | exact e_loc [(6, .int (iN (i + 1 + (t + 1) : Nat))), (5, .int (iN i)), (3, .int (iN (exJ P a u i s0 (t + 1)).1)), (4, .int (iN (exJ P a u i s0 (t + 1)).2)), (0, .ref y), (1, .int (iN a)), (2, .int (iN (bP u)))] ⟨rfl, rfl, by rw [e1, exS_old c_114 c_119]; rfl, by rw [e1, exS_old c_114 c_119]; rfl, rfl, rfl, rfl, trivial⟩ (ih (t + 1) (by omega))
    · refine e_goto (tgt := 135) dX6_extremePair_67 rfl ?_
      refine e_iinc dX6_extremePair_135 rfl ?_
      refine e_goto (tgt := 42) dX6_extremePair_138 rfl ?_
      first | exact e_loc [(6, .int (iN (i + 1 + (t + 1) : Nat))), (5, .int (iN i)), (3, .int (iN (exJ P a u i s0 (t + 1)).1)), (4, .int (iN (exJ P a u i s0 (t + 1)).2)), (0, .ref y), (1, .int (iN a)), (2, .int (iN (bP u)))] ⟨rfl, rfl, by rw [e1, exS_no c_64]; rfl, by rw [e1, exS_no c_64]; rfl, rfl, rfl, rfl, trivial⟩ (ih (t + 1) (by omega)) | exact e_loc [(6, .int (iN (i + 1 + (t + 1) : Nat))), (5, .int (iN i)), (3, .int (iN (exJ P a u i s0 (t + 1)).1)), (4, .int (iN (exJ P a u i s0 (t + 1)).2)), (0, .ref y), (1, .int (iN a)), (2, .int (iN (bP u)))] ⟨rfl, rfl, by rw [e1, exS_new c_64 (Or.inl c_114)]; rfl, by rw [e1, exS_new c_64 (Or.inl c_114)]; rfl, rfl, rfl, rfl, trivial⟩ (ih (t + 1) (by omega)) | exact e_loc [(6, .int (iN (i + 1 + (t + 1) : Nat))), (5, .int (iN i)), (3, .int (iN (exJ P a u i s0 (t + 1)).1)), (4, .int (iN (exJ P a u i s0 (t + 1)).2)), (0, .ref y), (1, .int (iN a)), (2, .int (iN (bP u)))] ⟨rfl, rfl, by rw [e1, exS_new c_64 (Or.inr c_119)]; rfl, by rw [e1, exS_new c_64 (Or.inr c_119)]; rfl, rfl, rfl, rfl, trivial⟩ (ih (t + 1) (by omega)) | exact e_loc [(6, .int (iN (i + 1 + (t + 1) : Nat))), (5, .int (iN i)), (3, .int (iN (exJ P a u i s0 (t + 1)).1)), (4, .int (iN (exJ P a u i s0 (t + 1)).2)), (0, .ref y), (1, .int (iN a)), (2, .int (iN (bP u)))] ⟨rfl, rfl, by rw [e1, exS_old c_114 c_119]; rfl, by rw [e1, exS_old c_114 c_119]; rfl, rfl, rfl, rfl, trivial⟩ (ih (t + 1) (by omega))
set_option maxRecDepth 20000 in
theorem ex_loop [Decidable u] {z : Option Nat} (hy : yardAt G P E S y h) (ha : r32 a) : ∀ (n i : Nat), i + n = P.length → Ev (g_B G mX6_extremePair 0 0 (fun o z1 h1 => o = .inl (some (.int (iN (exI P a u P.length).1))) ∧ z1 = z ∧ h1 = h)) 0 0 z h 8 [(5, .int (iN i)), (3, .int (iN (exI P a u i).1)), (4, .int (iN (exI P a u i).2)), (0, .ref y), (1, .int (iN a)), (2, .int (iN (bP u)))] [] := by
  have h9 := hy.pts.1
  have a1 := ha.1
  have a2 := ha.2
  intro n
  induction n with
  | zero =>
    intro i hin
    have e9 : i = P.length := by omega
    rw [e9]
    refine e_iload dX6_extremePair_8 rfl ?_
    refine e_aload_n dX6_extremePair_10 rfl ?_
    refine e_getf fX6_14 hy.obj rfl dX6_extremePair_11 ?_
    refine e_pureV qcX6_30 hy.pts.obj rfl rfl (S_size hy.pts) rfl rfl rfl rfl dX6_extremePair_14 ?_
    refine e_icmp_ge (tgt := 147) ⟨by omega, by omega⟩ ⟨by omega, by omega⟩ dX6_extremePair_17 rfl (fun c_17 => ?_) (fun c_17 => absurd (by omega) c_17)
    refine e_iload_n dX6_extremePair_147 rfl ?_
    refine e_iret rfl dX6_extremePair_148 (by decide) (by decide) ?_
    exact ⟨rfl, rfl, rfl⟩
  | succ n ih =>
    intro i hin
    have hi : i < P.length := by omega
    have hb := (hy.pts.2.2.1.at hi).2.2
    refine e_iload dX6_extremePair_8 rfl ?_
    refine e_aload_n dX6_extremePair_10 rfl ?_
    refine e_getf fX6_14 hy.obj rfl dX6_extremePair_11 ?_
    refine e_pureV qcX6_30 hy.pts.obj rfl rfl (S_size hy.pts) rfl rfl rfl rfl dX6_extremePair_14 ?_
    refine e_icmp_ge (tgt := 147) ⟨by omega, by omega⟩ ⟨by omega, by omega⟩ dX6_extremePair_17 rfl (fun c_17 => absurd c_17 (by omega)) (fun c_17 => ?_)
    refine e_aload_n dX6_extremePair_20 rfl ?_
    refine e_getf fX6_14 hy.obj rfl dX6_extremePair_21 ?_
    refine e_iload dX6_extremePair_24 rfl ?_
    refine e_pureV qcX6_34 hy.pts.obj rfl rfl (S_markAt hy.pts hi) rfl rfl rfl rfl dX6_extremePair_26 ?_
    refine e_iload_n dX6_extremePair_29 rfl ?_
    refine e_icmp_eq (tgt := 36) ⟨by omega, by omega⟩ ⟨by omega, by omega⟩ dX6_extremePair_30 rfl (fun c_30 => ?_) (fun c_30 => ?_)
    · refine e_iload dX6_extremePair_36 rfl ?_
      refine e_iconst dX6_extremePair_38 ?_
      refine e_iadd dX6_extremePair_39 ?_
      refine e_istore dX6_extremePair_40 rfl ?_
      refine e_loc [(6, .int (iN (i + 1 + 0 : Nat))), (5, .int (iN i)), (3, .int (iN (exJ P a u i (exI P a u i) 0).1)), (4, .int (iN (exJ P a u i (exI P a u i) 0).2)), (0, .ref y), (1, .int (iN a)), (2, .int (iN (bP u)))] ⟨rfl, rfl, rfl, rfl, rfl, rfl, rfl, trivial⟩ (ex_inner hy ha hi (exI_ok hy.pts.2.2.1 h9 i (by omega)) ?_ (P.length - (i + 1)) 0 (by omega))
      refine e_iinc dX6_extremePair_141 rfl ?_
      refine e_goto (tgt := 8) dX6_extremePair_144 rfl ?_
      exact e_loc [(5, .int (iN (i + 1 : Nat))), (3, .int (iN (exI P a u (i + 1)).1)), (4, .int (iN (exI P a u (i + 1)).2)), (0, .ref y), (1, .int (iN a)), (2, .int (iN (bP u)))] ⟨rfl, by rw [show exI P a u (i + 1) = _ from if_pos c_30]; rfl, by rw [show exI P a u (i + 1) = _ from if_pos c_30]; rfl, rfl, rfl, rfl, trivial⟩ (ih (i + 1) (by omega))
    · refine e_goto (tgt := 141) dX6_extremePair_33 rfl ?_
      refine e_iinc dX6_extremePair_141 rfl ?_
      refine e_goto (tgt := 8) dX6_extremePair_144 rfl ?_
      exact e_loc [(5, .int (iN (i + 1 : Nat))), (3, .int (iN (exI P a u (i + 1)).1)), (4, .int (iN (exI P a u (i + 1)).2)), (0, .ref y), (1, .int (iN a)), (2, .int (iN (bP u)))] ⟨rfl, by rw [show exI P a u (i + 1) = _ from if_neg c_30]; rfl, by rw [show exI P a u (i + 1) = _ from if_neg c_30]; rfl, rfl, rfl, rfl, trivial⟩ (ih (i + 1) (by omega))
set_option maxRecDepth 20000 in
theorem S_extremePair [Decidable u] (hy : yardAt G P E S y h) (ha : r32 a) : Pure G mX6_extremePair [.ref y, .int (iN a), .int (iN (bP u))] h (.int (iN (exI P a u P.length).1)) := by
  intro z
  refine run_of rfl plX6 rfl ?_
  refine e_iconst dX6_extremePair_0 ?_
  refine e_istore_n dX6_extremePair_1 rfl ?_
  refine e_iconst dX6_extremePair_2 ?_
  refine e_istore dX6_extremePair_3 rfl ?_
  refine e_iconst dX6_extremePair_5 ?_
  refine e_istore dX6_extremePair_6 rfl ?_
  exact e_loc [(5, .int (iN (0 : Nat))), (3, .int (iN (exI P a u 0).1)), (4, .int (iN (exI P a u 0).2)), (0, .ref y), (1, .int (iN a)), (2, .int (iN (bP u)))] ⟨rfl, rfl, rfl, rfl, rfl, rfl, trivial⟩ (ex_loop hy ha P.length 0 (by omega))
theorem yardAt.ext {S2 : Nat → PL} (x : yardAt G P E S y h) (e : ∀ j, j < 4 → S j = S2 j) : yardAt G P E S2 y h := by
  obtain ⟨x1, x2, x4, x5, x6, x7⟩ := x
  exact ⟨x1, x2, x4, x5, x6, fun j hj => e j hj ▸ x7 j hj⟩
def cpS (S S2 : Nat → PL) (j : Nat) : Nat → PL := fun i => if i < j then S2 i else S i
theorem cpS_s {S S2 : Nat → PL} {j : Nat} : uS (cpS S S2 j) j (S2 j) = cpS S S2 (j + 1) := by
  funext i
  unfold uS cpS
  by_cases c : i = j
  · subst c
    rw [if_pos rfl, if_pos (by omega)]
  · rw [if_neg c]
    by_cases c2 : i < j
    · rw [if_pos c2, if_pos (by omega)]
    · rw [if_neg c2, if_neg (by omega)]
set_option maxRecDepth 20000 in
theorem yc_loop {z : Option Nat} {P2 E2 : PL} {S2 : Nat → PL} {y2 : Nat} (hd : y + 30 ≤ y2 ∨ y2 + 30 ≤ y) (hy2 : yardAt G P2 E2 S2 y2 h) : ∀ (n j : Nat) (h1 : g_hp), j + n = 4 → yardAt G P2 E2 (cpS S S2 j) y h1 → g_fr y 30 h h1 → Ev (g_B G mX6_copyFrom 0 0 (fun o z1 h1 => ∃ v, o = .inl v ∧ z1 = z ∧ (v = none ∧ yardAt G P2 E2 S2 y h1 ∧ g_fr y 30 h h1))) 0 0 z h1 24 [(2, .int (iN (j : Nat))), (0, .ref y), (1, .ref y2)] [] := by
  intro n
  induction n with
  | zero =>
    intro j h1 hj hy fr
    have e9 : j = 4 := by omega
    subst e9
    refine e_iload_n dX6_copyFrom_24 rfl ?_
    refine e_iconst dX6_copyFrom_25 ?_
    refine e_icmp_ge (tgt := 48) ⟨by omega, by omega⟩ ⟨by omega, by omega⟩ dX6_copyFrom_26 rfl (fun c_26 => ?_) (fun c_26 => absurd (by omega) c_26)
    refine e_vret rfl dX6_copyFrom_48 (by decide) (by decide) ?_
    exact ⟨none, rfl, rfl, rfl, hy.ext (fun j hj => if_pos hj), fr⟩
  | succ n ih =>
    intro j h1 hj hy fr
    have hj4 : j < 4 := by omega
    have hyb := hy2.off fr (by omega)
    refine e_iload_n dX6_copyFrom_24 rfl ?_
    refine e_iconst dX6_copyFrom_25 ?_
    refine e_icmp_ge (tgt := 48) ⟨by omega, by omega⟩ ⟨by omega, by omega⟩ dX6_copyFrom_26 rfl (fun c_26 => absurd c_26 (by omega)) (fun c_26 => ?_)
    refine e_aload_n dX6_copyFrom_29 rfl ?_
    refine e_iload_n dX6_copyFrom_30 rfl ?_
    refine e_pureV qcX6_62 hy.obj rfl rfl (S_polygonAt hy hj4) rfl rfl rfl rfl dX6_copyFrom_31 ?_
    refine e_aload_n dX6_copyFrom_34 rfl ?_
    refine e_iload_n dX6_copyFrom_35 rfl ?_
    refine e_pureV qcX6_62 hyb.obj rfl rfl (S_polygonAt hyb hj4) rfl rfl rfl rfl dX6_copyFrom_36 ?_
    refine e_doesV qcX6_58 (hy.pol hj4).obj rfl rfl (S_copyFrom (hy.pol hj4) (hyb.pol hj4) (by omega) (hyb.pol hj4).1) rfl rfl rfl rfl dX6_copyFrom_39 ?_
    intro v h2 q2
    obtain ⟨rfl, g2, fr2⟩ := q2
    refine e_iinc dX6_copyFrom_42 rfl ?_
    refine e_goto (tgt := 24) dX6_copyFrom_45 rfl ?_
    exact e_loc [(2, .int (iN (j + 1 : Nat))), (0, .ref y), (1, .ref y2)] ⟨rfl, rfl, rfl, trivial⟩ (ih (j + 1) h2 (by omega) (cpS_s ▸ hy.wS hj4 g2 fr2) (fr.tr (fr2.wd (by omega) (by omega))))
set_option maxRecDepth 20000 in
theorem S_yardCopy {P2 E2 : PL} {S2 : Nat → PL} {y2 : Nat} (hd : y + 30 ≤ y2 ∨ y2 + 30 ≤ y) (hy : yardAt G P E S y h) (hy2 : yardAt G P2 E2 S2 y2 h) : Does G mX6_copyFrom [.ref y, .ref y2] h (fun v h1 => v = none ∧ yardAt G P2 E2 S2 y h1 ∧ g_fr y 30 h h1) := by
  intro z
  refine run_of rfl plX6 rfl ?_
  refine e_aload_n dX6_copyFrom_0 rfl ?_
  refine e_getf fX6_14 hy.obj rfl dX6_copyFrom_1 ?_
  refine e_aload_n dX6_copyFrom_4 rfl ?_
  refine e_getf fX6_14 hy2.obj rfl dX6_copyFrom_5 ?_
  refine e_doesV qcX6_58 hy.pts.obj rfl rfl (S_copyFrom hy.pts hy2.pts (by omega) hy2.pts.1) rfl rfl rfl rfl dX6_copyFrom_8 ?_
  intro v h1 q1
  obtain ⟨rfl, g1, fr1⟩ := q1
  have y1a := hy.wP g1 fr1
  have fr0 : g_fr y 30 h h1 := fr1.wd (by omega) (by omega)
  have y1b := hy2.off fr0 (by omega)
  refine e_aload_n dX6_copyFrom_11 rfl ?_
  refine e_getf fX6_20 y1a.obj rfl dX6_copyFrom_12 ?_
  refine e_aload_n dX6_copyFrom_15 rfl ?_
  refine e_getf fX6_20 y1b.obj rfl dX6_copyFrom_16 ?_
  refine e_doesV qcX6_58 y1a.ens.obj rfl rfl (S_copyFrom y1a.ens y1b.ens (by omega) y1b.ens.1) rfl rfl rfl rfl dX6_copyFrom_19 ?_
  intro v h2 q2
  obtain ⟨rfl, g2, fr2⟩ := q2
  have y2a := y1a.wE g2 fr2
  refine e_iconst dX6_copyFrom_22 ?_
  refine e_istore_n dX6_copyFrom_23 rfl ?_
  exact e_loc [(2, .int (iN (0 : Nat))), (0, .ref y), (1, .ref y2)] ⟨rfl, rfl, rfl, trivial⟩ (yc_loop (S := S) hd hy2 4 0 h2 rfl (y2a.ext (fun j hj => (if_neg (by omega)).symm)) (fr0.tr (fr2.wd (by omega) (by omega))))
end PYARD2
