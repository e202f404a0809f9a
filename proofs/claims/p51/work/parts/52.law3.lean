/-! The law: corners are places of points; the width -/
section LAWR3
variable {G : g_X} {k : Nat} {h : g_hp} {pc : Nat} {L : List (Nat × Value)} {st : List Value}
theorem e_iaE {C : g_E} {n : Nat} {z : Option Nat} {a N : Nat} {g : Nat → Int} {j : Nat} {v : Int} (ha : h a = some (aI C.1 N g)) (hj : j < N) (hb9 : Nat.ble N 2147483647 = true) (he : g j = v) (hd : decode (g_cc C) pc = .ok (.iaload, 1)) (kk : Ev C k n z h (pc + 1) L (.int (iN v) :: st)) : Ev C k n z h pc L (.int (iN (j : Int)) :: .ref a :: st) :=
  e_iaN ha hj hb9 hd (by rw [he]; exact kk)
theorem tm_nxt {n k : Nat} (hk : k < n) : ((k : Int) + 1).tmod (n : Int) = ((nxt n k : Nat) : Int) := by
  show (((k + 1) % n : Nat) : Int) = _
  unfold nxt
  by_cases c : k + 1 < n
  · rw [if_pos c, Nat.mod_eq_of_lt c]
  · rw [if_neg c, show k + 1 = n by omega, Nat.mod_self]
theorem tm_nxt2 {n k : Nat} (hk : k < n) : ((k : Int) + 2).tmod (n : Int) = ((nxt n (nxt n k) : Nat) : Int) := by
  show (((k + 2) % n : Nat) : Int) = _
  unfold nxt
  by_cases c : k + 1 < n
  · rw [if_pos c]
    by_cases c2 : k + 1 + 1 < n
    · rw [if_pos c2, Nat.mod_eq_of_lt c2]
    · rw [if_neg c2, show k + 2 = n by omega, Nat.mod_self]
  · rw [if_neg c, show k + 2 = 1 + n by omega, Nat.add_mod_right]
    by_cases c2 : 0 + 1 < n
    · rw [if_pos c2, Nat.mod_eq_of_lt c2]
    · rw [if_neg c2, show n = 1 by omega]
end LAWR3
section LAW3
variable {G : g_X} {x pt sd cr : Int} {HP XS YS GX GY FX FY : Nat → Int} {P E : PL} {S : Nat → PL} {b : Int} {P2 E2 : PL} {S2 : Nat → PL} {F : PL} {l : Nat} {h : g_hp}
def opT (P : PL) (a b1 x y : Int) (q : Nat) : Prop := (pM P q = a ∨ pM P q = b1) ∧ pX P q = x ∧ pY P q = y
def opU (P : PL) (a b1 x y : Int) (j : Nat) : Prop := ∃ q, q < j ∧ opT P a b1 x y q
theorem opU_t {P : PL} {a b1 x y : Int} {j : Nat} (h : opT P a b1 x y j) : opU P a b1 x y (j + 1) := ⟨j, Nat.lt_succ_self j, h⟩
theorem opU_f {P : PL} {a b1 x y : Int} {j : Nat} (h : ¬ opT P a b1 x y j) : opU P a b1 x y (j + 1) ↔ opU P a b1 x y j := by
  constructor
  · rintro ⟨q, hq, t⟩
    by_cases c : q = j
    · subst c
      exact absurd t h
    · exact ⟨q, by omega, t⟩
  · rintro ⟨q, hq, t⟩
    exact ⟨q, by omega, t⟩
theorem opU_0 {P : PL} {a b1 x y : Int} : ¬ opU P a b1 x y 0 := fun ⟨_, hq, _⟩ => absurd hq (Nat.not_lt_zero _)
set_option maxRecDepth 20000 in
theorem op_inner (W : lwW G x pt sd cr (pM P) (pX P) (pY P) GX GY FX FY P E S b P2 E2 S2 F l h) (hP : okP P) (hl : P.length ≤ 40) (hp : pt = P.length) {m9 : Nat} (hc : cr = m9) (hm : m9 ≤ 80) (hb : ∀ i, i < m9 → b1k (FX i) ∧ b1k (FY i)) {a b1 : Int} (ra : r32 a) (rb : r32 b1) {k9 : Nat} (hk : k9 < m9) (kk : Ev (g_B G mL_isOfPoints 0 (6 * 0) (zQ (fun v h1 => v = .int (iN 1) ∧ lwW G x pt sd cr (pM P) (pX P) (pY P) GX GY FX FY P E S b P2 E2 S2 F l h1))) 0 (6 * 0) none h 95 [(4, .int (iN (bC (opU P a b1 (FX k9) (FY k9) P.length)))), (3, .int (iN (k9 : Int))), (2, .int (iN b1)), (1, .int (iN a)), (0, .ref l)] []) : ∀ (n j : Nat), j + n = P.length → Ev (g_B G mL_isOfPoints 0 (6 * 0) (zQ (fun v h1 => v = .int (iN 1) ∧ lwW G x pt sd cr (pM P) (pX P) (pY P) GX GY FX FY P E S b P2 E2 S2 F l h1))) 0 (6 * 0) none h 16 [(5, .int (iN ((j : Nat) : Int))), (4, .int (iN (bC (opU P a b1 (FX k9) (FY k9) j)))), (3, .int (iN (k9 : Int))), (2, .int (iN b1)), (1, .int (iN a)), (0, .ref l)] []
  | 0, j, e => by
    have e2 : j = P.length := by omega
    subst e2
    subst hp
    refine e_iload dL_isOfPoints_16 rfl ?_
    refine e_aload_n dL_isOfPoints_18 rfl ?_
    refine e_getf fL_57 W.obj rfl dL_isOfPoints_19 ?_
    refine e_icmp_ge (tgt := 95) ⟨by omega, by omega⟩ ⟨by omega, by omega⟩ dL_isOfPoints_22 rfl (fun c_9 => ?_) (fun c_9 => absurd (by omega) c_9)
    exact e_loc [(4, .int (iN (bC (opU P a b1 (FX k9) (FY k9) P.length)))), (3, .int (iN (k9 : Int))), (2, .int (iN b1)), (1, .int (iN a)), (0, .ref l)] ⟨rfl, rfl, rfl, rfl, rfl, trivial⟩ kk
  | n + 1, j, e => by
    have ih := op_inner W hP hl hp hc hm hb ra rb hk kk n (j + 1) (by omega)
    have hj := hP j (by omega)
    have hq := hb k9 hk
    subst hp
    refine e_iload dL_isOfPoints_16 rfl ?_
    refine e_aload_n dL_isOfPoints_18 rfl ?_
    refine e_getf fL_57 W.obj rfl dL_isOfPoints_19 ?_
    refine e_icmp_ge (tgt := 95) ⟨by omega, by omega⟩ ⟨by omega, by omega⟩ dL_isOfPoints_22 rfl (fun c_9 => absurd c_9 (by omega)) (fun c_9 => ?_)
    refine e_iload dL_isOfPoints_25 rfl ?_
    refine e_aload_n dL_isOfPoints_27 rfl ?_
    refine e_getf fL_16 W.obj rfl dL_isOfPoints_28 ?_
    refine e_iload dL_isOfPoints_31 rfl ?_
    refine e_iaN W.hp (by omega) rfl dL_isOfPoints_33 ?_
    refine e_iload_n dL_isOfPoints_34 rfl ?_
    refine e_icmp_eq (tgt := 49) ⟨by omega, by omega⟩ ⟨by omega, by omega⟩ dL_isOfPoints_35 rfl (fun c_35 => ?_) (fun c_35 => ?_)
    · refine e_aload_n dL_isOfPoints_49 rfl ?_
      refine e_getf fL_20 W.obj rfl dL_isOfPoints_50 ?_
      refine e_iload dL_isOfPoints_53 rfl ?_
      refine e_iaN W.xs (by omega) rfl dL_isOfPoints_55 ?_
      refine e_aload_n dL_isOfPoints_56 rfl ?_
      refine e_getf fL_32 W.obj rfl dL_isOfPoints_57 ?_
      refine e_iload_n dL_isOfPoints_60 rfl ?_
      refine e_iaN W.fx (by omega) rfl dL_isOfPoints_61 ?_
      refine e_icmp_ne (tgt := 85) ⟨by omega, by omega⟩ ⟨by omega, by omega⟩ dL_isOfPoints_62 rfl (fun c_62 => ?_) (fun c_62 => ?_)
      · have hF : ¬ opT P a b1 (FX k9) (FY k9) j := fun w => by first | exact c_78 w.2.2 | exact c_62 w.2.1 | exact w.1.elim c_35 c_46
        refine e_iconst dL_isOfPoints_85 ?_
        refine e_or0 dL_isOfPoints_86 ?_
        refine e_istore dL_isOfPoints_87 rfl ?_
        refine e_iinc dL_isOfPoints_89 rfl ?_
        refine e_goto (tgt := 16) dL_isOfPoints_92 rfl ?_
        refine e_loc [(5, .int (iN (((j + 1 : Nat) : Int) : Int))), (4, .int (iN (bC (opU P a b1 (FX k9) (FY k9) (j + 1))))), (3, .int (iN (k9 : Int))), (2, .int (iN b1)), (1, .int (iN a)), (0, .ref l)] ⟨rfl, ?_, rfl, rfl, rfl, rfl, trivial⟩ ih
        rw [bC_c (opU_f hF)]
        rfl
      · refine e_aload_n dL_isOfPoints_65 rfl ?_
        refine e_getf fL_23 W.obj rfl dL_isOfPoints_66 ?_
        refine e_iload dL_isOfPoints_69 rfl ?_
        refine e_iaN W.ys (by omega) rfl dL_isOfPoints_71 ?_
        refine e_aload_n dL_isOfPoints_72 rfl ?_
        refine e_getf fL_35 W.obj rfl dL_isOfPoints_73 ?_
        refine e_iload_n dL_isOfPoints_76 rfl ?_
        refine e_iaN W.fy (by omega) rfl dL_isOfPoints_77 ?_
        refine e_icmp_ne (tgt := 85) ⟨by omega, by omega⟩ ⟨by omega, by omega⟩ dL_isOfPoints_78 rfl (fun c_78 => ?_) (fun c_78 => ?_)
        · have hF : ¬ opT P a b1 (FX k9) (FY k9) j := fun w => by first | exact c_78 w.2.2 | exact c_62 w.2.1 | exact w.1.elim c_35 c_46
          refine e_iconst dL_isOfPoints_85 ?_
          refine e_or0 dL_isOfPoints_86 ?_
          refine e_istore dL_isOfPoints_87 rfl ?_
          refine e_iinc dL_isOfPoints_89 rfl ?_
          refine e_goto (tgt := 16) dL_isOfPoints_92 rfl ?_
          refine e_loc [(5, .int (iN (((j + 1 : Nat) : Int) : Int))), (4, .int (iN (bC (opU P a b1 (FX k9) (FY k9) (j + 1))))), (3, .int (iN (k9 : Int))), (2, .int (iN b1)), (1, .int (iN a)), (0, .ref l)] ⟨rfl, ?_, rfl, rfl, rfl, rfl, trivial⟩ ih
          rw [bC_c (opU_f hF)]
          rfl
        · have hT : opT P a b1 (FX k9) (FY k9) j := ⟨by first | exact Or.inl c_35 | exact Or.inr (Classical.not_not.mp c_46), Classical.not_not.mp c_62, Classical.not_not.mp c_78⟩
          refine e_iconst dL_isOfPoints_81 ?_
          refine e_goto (tgt := 86) dL_isOfPoints_82 rfl ?_
          refine e_or1 dL_isOfPoints_86 ?_
          refine e_istore dL_isOfPoints_87 rfl ?_
          refine e_iinc dL_isOfPoints_89 rfl ?_
          refine e_goto (tgt := 16) dL_isOfPoints_92 rfl ?_
          refine e_loc [(5, .int (iN (((j + 1 : Nat) : Int) : Int))), (4, .int (iN (bC (opU P a b1 (FX k9) (FY k9) (j + 1))))), (3, .int (iN (k9 : Int))), (2, .int (iN b1)), (1, .int (iN a)), (0, .ref l)] ⟨rfl, ?_, rfl, rfl, rfl, rfl, trivial⟩ ih
          rw [bC_t (opU_t hT)]
          rfl
    · refine e_aload_n dL_isOfPoints_38 rfl ?_
      refine e_getf fL_16 W.obj rfl dL_isOfPoints_39 ?_
      refine e_iload dL_isOfPoints_42 rfl ?_
      refine e_iaN W.hp (by omega) rfl dL_isOfPoints_44 ?_
      refine e_iload_n dL_isOfPoints_45 rfl ?_
      refine e_icmp_ne (tgt := 85) ⟨by omega, by omega⟩ ⟨by omega, by omega⟩ dL_isOfPoints_46 rfl (fun c_46 => ?_) (fun c_46 => ?_)
      · have hF : ¬ opT P a b1 (FX k9) (FY k9) j := fun w => by first | exact c_78 w.2.2 | exact c_62 w.2.1 | exact w.1.elim c_35 c_46
        refine e_iconst dL_isOfPoints_85 ?_
        refine e_or0 dL_isOfPoints_86 ?_
        refine e_istore dL_isOfPoints_87 rfl ?_
        refine e_iinc dL_isOfPoints_89 rfl ?_
        refine e_goto (tgt := 16) dL_isOfPoints_92 rfl ?_
        refine e_loc [(5, .int (iN (((j + 1 : Nat) : Int) : Int))), (4, .int (iN (bC (opU P a b1 (FX k9) (FY k9) (j + 1))))), (3, .int (iN (k9 : Int))), (2, .int (iN b1)), (1, .int (iN a)), (0, .ref l)] ⟨rfl, ?_, rfl, rfl, rfl, rfl, trivial⟩ ih
        rw [bC_c (opU_f hF)]
        rfl
      · refine e_aload_n dL_isOfPoints_49 rfl ?_
        refine e_getf fL_20 W.obj rfl dL_isOfPoints_50 ?_
        refine e_iload dL_isOfPoints_53 rfl ?_
        refine e_iaN W.xs (by omega) rfl dL_isOfPoints_55 ?_
        refine e_aload_n dL_isOfPoints_56 rfl ?_
        refine e_getf fL_32 W.obj rfl dL_isOfPoints_57 ?_
        refine e_iload_n dL_isOfPoints_60 rfl ?_
        refine e_iaN W.fx (by omega) rfl dL_isOfPoints_61 ?_
        refine e_icmp_ne (tgt := 85) ⟨by omega, by omega⟩ ⟨by omega, by omega⟩ dL_isOfPoints_62 rfl (fun c_62 => ?_) (fun c_62 => ?_)
        · have hF : ¬ opT P a b1 (FX k9) (FY k9) j := fun w => by first | exact c_78 w.2.2 | exact c_62 w.2.1 | exact w.1.elim c_35 c_46
          refine e_iconst dL_isOfPoints_85 ?_
          refine e_or0 dL_isOfPoints_86 ?_
          refine e_istore dL_isOfPoints_87 rfl ?_
          refine e_iinc dL_isOfPoints_89 rfl ?_
          refine e_goto (tgt := 16) dL_isOfPoints_92 rfl ?_
          refine e_loc [(5, .int (iN (((j + 1 : Nat) : Int) : Int))), (4, .int (iN (bC (opU P a b1 (FX k9) (FY k9) (j + 1))))), (3, .int (iN (k9 : Int))), (2, .int (iN b1)), (1, .int (iN a)), (0, .ref l)] ⟨rfl, ?_, rfl, rfl, rfl, rfl, trivial⟩ ih
          rw [bC_c (opU_f hF)]
          rfl
        · refine e_aload_n dL_isOfPoints_65 rfl ?_
          refine e_getf fL_23 W.obj rfl dL_isOfPoints_66 ?_
          refine e_iload dL_isOfPoints_69 rfl ?_
          refine e_iaN W.ys (by omega) rfl dL_isOfPoints_71 ?_
          refine e_aload_n dL_isOfPoints_72 rfl ?_
          refine e_getf fL_35 W.obj rfl dL_isOfPoints_73 ?_
          refine e_iload_n dL_isOfPoints_76 rfl ?_
          refine e_iaN W.fy (by omega) rfl dL_isOfPoints_77 ?_
          refine e_icmp_ne (tgt := 85) ⟨by omega, by omega⟩ ⟨by omega, by omega⟩ dL_isOfPoints_78 rfl (fun c_78 => ?_) (fun c_78 => ?_)
          · have hF : ¬ opT P a b1 (FX k9) (FY k9) j := fun w => by first | exact c_78 w.2.2 | exact c_62 w.2.1 | exact w.1.elim c_35 c_46
            refine e_iconst dL_isOfPoints_85 ?_
            refine e_or0 dL_isOfPoints_86 ?_
            refine e_istore dL_isOfPoints_87 rfl ?_
            refine e_iinc dL_isOfPoints_89 rfl ?_
            refine e_goto (tgt := 16) dL_isOfPoints_92 rfl ?_
            refine e_loc [(5, .int (iN (((j + 1 : Nat) : Int) : Int))), (4, .int (iN (bC (opU P a b1 (FX k9) (FY k9) (j + 1))))), (3, .int (iN (k9 : Int))), (2, .int (iN b1)), (1, .int (iN a)), (0, .ref l)] ⟨rfl, ?_, rfl, rfl, rfl, rfl, trivial⟩ ih
            rw [bC_c (opU_f hF)]
            rfl
          · have hT : opT P a b1 (FX k9) (FY k9) j := ⟨by first | exact Or.inl c_35 | exact Or.inr (Classical.not_not.mp c_46), Classical.not_not.mp c_62, Classical.not_not.mp c_78⟩
            refine e_iconst dL_isOfPoints_81 ?_
            refine e_goto (tgt := 86) dL_isOfPoints_82 rfl ?_
            refine e_or1 dL_isOfPoints_86 ?_
            refine e_istore dL_isOfPoints_87 rfl ?_
            refine e_iinc dL_isOfPoints_89 rfl ?_
            refine e_goto (tgt := 16) dL_isOfPoints_92 rfl ?_
            refine e_loc [(5, .int (iN (((j + 1 : Nat) : Int) : Int))), (4, .int (iN (bC (opU P a b1 (FX k9) (FY k9) (j + 1))))), (3, .int (iN (k9 : Int))), (2, .int (iN b1)), (1, .int (iN a)), (0, .ref l)] ⟨rfl, ?_, rfl, rfl, rfl, rfl, trivial⟩ ih
            rw [bC_t (opU_t hT)]
            rfl
set_option maxRecDepth 20000 in
theorem op_outer (W : lwW G x pt sd cr (pM P) (pX P) (pY P) GX GY FX FY P E S b P2 E2 S2 F l h) (hP : okP P) (hl : P.length ≤ 40) (hp : pt = P.length) {m9 : Nat} (hc : cr = m9) (hm : m9 ≤ 80) (hb : ∀ i, i < m9 → b1k (FX i) ∧ b1k (FY i)) {a b1 : Int} (ra : r32 a) (rb : r32 b1) (hh : ∀ i, i < m9 → opU P a b1 (FX i) (FY i) P.length) : ∀ (n k9 : Nat), k9 + n = m9 → Ev (g_B G mL_isOfPoints 0 (6 * 0) (zQ (fun v h1 => v = .int (iN 1) ∧ lwW G x pt sd cr (pM P) (pX P) (pY P) GX GY FX FY P E S b P2 E2 S2 F l h1))) 0 (6 * 0) none h 2 [(3, .int (iN ((k9 : Nat) : Int))), (2, .int (iN b1)), (1, .int (iN a)), (0, .ref l)] []
  | 0, k9, e => by
    subst hc
    refine e_iload_n dL_isOfPoints_2 rfl ?_
    refine e_aload_n dL_isOfPoints_3 rfl ?_
    refine e_getf fL_71 W.obj rfl dL_isOfPoints_4 ?_
    refine e_icmp_ge (tgt := 108) ⟨by omega, by omega⟩ ⟨by omega, by omega⟩ dL_isOfPoints_7 rfl (fun c_9 => ?_) (fun c_9 => absurd (by omega) c_9)
    refine e_iconst dL_isOfPoints_108 ?_
    refine e_zret rfl (Or.inr rfl) dL_isOfPoints_109 (by decide) (by decide) ?_
    exact ⟨rfl, _, rfl, rfl, W⟩
  | n + 1, k9, e => by
    have ih := op_outer W hP hl hp hc hm hb ra rb hh n (k9 + 1) (by omega)
    have hq := hh k9 (by omega)
    have W0 := W
    have hc0 := hc
    subst hc
    refine e_iload_n dL_isOfPoints_2 rfl ?_
    refine e_aload_n dL_isOfPoints_3 rfl ?_
    refine e_getf fL_71 W.obj rfl dL_isOfPoints_4 ?_
    refine e_icmp_ge (tgt := 108) ⟨by omega, by omega⟩ ⟨by omega, by omega⟩ dL_isOfPoints_7 rfl (fun c_9 => absurd c_9 (by omega)) (fun c_9 => ?_)
    refine e_iconst dL_isOfPoints_10 ?_
    refine e_istore dL_isOfPoints_11 rfl ?_
    refine e_iconst dL_isOfPoints_13 ?_
    refine e_istore dL_isOfPoints_14 rfl ?_
    refine e_loc [(5, .int (iN (((0 : Nat) : Int) : Int))), (4, .int (iN (bC (opU P a b1 (FX k9) (FY k9) 0)))), (3, .int (iN (k9 : Int))), (2, .int (iN b1)), (1, .int (iN a)), (0, .ref l)] ⟨rfl, ?_, rfl, rfl, rfl, rfl, trivial⟩ ?_
    · rw [bC_f opU_0]
      rfl
    refine op_inner W0 hP hl hp hc0 hm hb ra rb (show k9 < m9 by omega) ?_ P.length 0 (Nat.zero_add _)
    refine e_iload dL_isOfPoints_95 rfl ?_
    refine e_ifC_ne (tgt := 102) dL_isOfPoints_97 rfl (fun _ => ?_) (fun c => absurd hq c)
    refine e_iinc dL_isOfPoints_102 rfl ?_
    refine e_goto (tgt := 2) dL_isOfPoints_105 rfl ?_
    exact e_loc [(3, .int (iN (((k9 + 1 : Nat) : Int) : Int))), (2, .int (iN b1)), (1, .int (iN a)), (0, .ref l)] ⟨rfl, rfl, rfl, rfl, trivial⟩ ih
set_option maxRecDepth 20000 in
theorem L_isOfPoints (W : lwW G x pt sd cr (pM P) (pX P) (pY P) GX GY FX FY P E S b P2 E2 S2 F l h) (hP : okP P) (hl : P.length ≤ 40) (hp : pt = P.length) {m9 : Nat} (hc : cr = m9) (hm : m9 ≤ 80) (hb : ∀ i, i < m9 → b1k (FX i) ∧ b1k (FY i)) {a b1 : Int} (ra : r32 a) (rb : r32 b1) (hh : ∀ i, i < m9 → opU P a b1 (FX i) (FY i) P.length) : Run G mL_isOfPoints [.ref l, .int (iN a), .int (iN b1)] none h 0 (6 * 0) (zQ (fun v h1 => v = .int (iN 1) ∧ lwW G x pt sd cr (pM P) (pX P) (pY P) GX GY FX FY P E S b P2 E2 S2 F l h1)) := by
  refine run_L rfl plL rfl ?_
  refine e_iconst dL_isOfPoints_0 ?_
  refine e_istore_n dL_isOfPoints_1 rfl ?_
  refine e_loc [(3, .int (iN (((0 : Nat) : Int) : Int))), (2, .int (iN b1)), (1, .int (iN a)), (0, .ref l)] ⟨rfl, rfl, rfl, rfl, trivial⟩ ?_
  exact op_outer W hP hl hp hc hm hb ra rb hh m9 0 (Nat.zero_add _)
end LAW3
