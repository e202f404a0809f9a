/-! Census: what two rows of cuts have in common -/
abbrev cmT (A B : PL) (i j : Nat) : Int := max (min (lsI A i) (lsI B j) - max (fsI A i) (fsI B j) + 1) 0
abbrev cmJ (A B : PL) (s : Nat) (n : Nat) : Int := sumN (fun t => cmT A B (2 * s) (2 * t)) n
abbrev cmN (A B : PL) (n : Nat) : Int := sumN (fun s => cmJ A B s (B.length / 2)) n
theorem fs_bd {L : PL} (h : okL L) {i : Nat} (hi : i < L.length) : -2000 ≤ fsI L i ∧ fsI L i ≤ 2000 := by
  have := (h.at hi).1
  show -2000 ≤ pX L i / 2 + 1 ∧ pX L i / 2 + 1 ≤ 2000
  omega
theorem ls_bd {L : PL} (h : okL L) {i : Nat} (hi : i + 1 < L.length) : -2000 ≤ lsI L i ∧ lsI L i ≤ 2000 := by
  have := (h.at hi).1
  show -2000 ≤ (pX L (i + 1) + 1) / 2 - 1 ∧ (pX L (i + 1) + 1) / 2 - 1 ≤ 2000
  omega
section PCENSUS3
variable {G : g_X} {NA NB : Nat} {A B : PL} {c : Nat} {h : g_hp}
set_option maxRecDepth 20000 in
theorem cc_inner {z : Option Nat} (h0 : h c = some (.inr (0, [.ref (c + 1), .ref (c + 5)]))) (ha : rowAt G NA A (c + 1) h) (hb : rowAt G NB B (c + 5) h) {s : Nat} (hs : 2 * s + 1 < A.length) (k : Ev (g_B G mX0_countCommon 0 0 (fun o z1 h1 => o = .inl (some (.int (iN (cmN A B (A.length / 2))))) ∧ z1 = z ∧ h1 = h)) 0 0 z h 94 [(2, .int (iN (2 * s : Nat))), (1, .int (iN (cmN A B s + cmJ A B s (B.length / 2)))), (0, .ref c)] []) : ∀ (n t : Nat), t + n = B.length / 2 → Ev (g_B G mX0_countCommon 0 0 (fun o z1 h1 => o = .inl (some (.int (iN (cmN A B (A.length / 2))))) ∧ z1 = z ∧ h1 = h)) 0 0 z h 19 [(3, .int (iN (2 * t : Nat))), (2, .int (iN (2 * s : Nat))), (1, .int (iN (cmN A B s + cmJ A B s t))), (0, .ref c)] [] := by
  have h9 := hb.1
  have h8 := hb.2.1
  intro n
  induction n with
  | zero =>
    intro t htn
    have e9 : t = B.length / 2 := by omega
    have e8 : ¬ 2 * t + 1 < B.length := by omega
    rw [← e9] at k
    refine e_iload_n dX0_countCommon_19 rfl ?_
    refine e_iconst dX0_countCommon_20 ?_
    refine e_iadd dX0_countCommon_21 ?_
    refine e_aload_n dX0_countCommon_22 rfl ?_
    refine e_getf fX0_20 h0 rfl dX0_countCommon_23 ?_
    refine e_pureV qcX0_40 hb.obj rfl rfl (S_size hb) rfl rfl rfl rfl dX0_countCommon_26 ?_
    refine e_icmp_ge (tgt := 94) ⟨by omega, by omega⟩ ⟨by omega, by omega⟩ dX0_countCommon_29 rfl (fun c_29 => ?_) (fun c_29 => absurd c_29 (by omega))
    exact e_loc [(2, .int (iN (2 * s : Nat))), (1, .int (iN (cmN A B s + cmJ A B s t))), (0, .ref c)] ⟨rfl, rfl, rfl, trivial⟩ k
  | succ n ih =>
    intro t htn
    have ht : 2 * t + 1 < B.length := by omega
    have f1 := fs_bd ha.2.2.1 (show 2 * s < A.length by omega)
    have f2 := fs_bd hb.2.2.1 (show 2 * t < B.length by omega)
    have f3 := ls_bd ha.2.2.1 hs
    have f4 := ls_bd hb.2.2.1 ht
    have x1 : -2000 ≤ max (fsI A (2 * s)) (fsI B (2 * t)) ∧ max (fsI A (2 * s)) (fsI B (2 * t)) ≤ 2000 := ⟨Int.le_trans f1.1 (Int.le_max_left _ _), Int.max_le.mpr ⟨f1.2, f2.2⟩⟩
    have x2 : -2000 ≤ min (lsI A (2 * s)) (lsI B (2 * t)) ∧ min (lsI A (2 * s)) (lsI B (2 * t)) ≤ 2000 := ⟨Int.le_min.mpr ⟨f3.1, f4.1⟩, Int.le_trans (Int.min_le_left _ _) f3.2⟩
    have x3 : r32 (min (lsI A (2 * s)) (lsI B (2 * t)) - max (fsI A (2 * s)) (fsI B (2 * t)) + 1) := by
      generalize min (lsI A (2 * s)) (lsI B (2 * t)) = p at x2 ⊢
      generalize max (fsI A (2 * s)) (fsI B (2 * t)) = q at x1 ⊢
      constructor <;> omega
    have rg : ∀ v : Int, (-2000 ≤ v ∧ v ≤ 2000) → r32 v := fun v w => ⟨by omega, by omega⟩
    refine e_iload_n dX0_countCommon_19 rfl ?_
    refine e_iconst dX0_countCommon_20 ?_
    refine e_iadd dX0_countCommon_21 ?_
    refine e_aload_n dX0_countCommon_22 rfl ?_
    refine e_getf fX0_20 h0 rfl dX0_countCommon_23 ?_
    refine e_pureV qcX0_40 hb.obj rfl rfl (S_size hb) rfl rfl rfl rfl dX0_countCommon_26 ?_
    refine e_icmp_ge (tgt := 94) ⟨by omega, by omega⟩ ⟨by omega, by omega⟩ dX0_countCommon_29 rfl (fun c_29 => absurd c_29 (by omega)) (fun c_29 => ?_)
    refine e_aload_n dX0_countCommon_32 rfl ?_
    refine e_getf fX0_14 h0 rfl dX0_countCommon_33 ?_
    refine e_iload_n dX0_countCommon_36 rfl ?_
    refine e_pureS qcX0_66 (S_firstInside ha (show 2 * s < A.length by omega)) rfl rfl rfl rfl dX0_countCommon_37 ?_
    refine e_aload_n dX0_countCommon_40 rfl ?_
    refine e_getf fX0_20 h0 rfl dX0_countCommon_41 ?_
    refine e_iload_n dX0_countCommon_44 rfl ?_
    refine e_pureS qcX0_66 (S_firstInside hb (show 2 * t < B.length by omega)) rfl rfl rfl rfl dX0_countCommon_45 ?_
    refine e_mmax (rg _ f1) (rg _ f2) qcX0_69 rfl dX0_countCommon_48 ?_
    refine e_istore dX0_countCommon_51 rfl ?_
    refine e_aload_n dX0_countCommon_53 rfl ?_
    refine e_getf fX0_14 h0 rfl dX0_countCommon_54 ?_
    refine e_iload_n dX0_countCommon_57 rfl ?_
    refine e_pureS qcX0_72 (S_lastInside ha hs) rfl rfl rfl rfl dX0_countCommon_58 ?_
    refine e_aload_n dX0_countCommon_61 rfl ?_
    refine e_getf fX0_20 h0 rfl dX0_countCommon_62 ?_
    refine e_iload_n dX0_countCommon_65 rfl ?_
    refine e_pureS qcX0_72 (S_lastInside hb ht) rfl rfl rfl rfl dX0_countCommon_66 ?_
    refine e_mmin (rg _ f3) (rg _ f4) qcX0_75 rfl dX0_countCommon_69 ?_
    refine e_istore dX0_countCommon_72 rfl ?_
    refine e_iload_n dX0_countCommon_74 rfl ?_
    refine e_iload dX0_countCommon_75 rfl ?_
    refine e_iload dX0_countCommon_77 rfl ?_
    refine e_isub dX0_countCommon_79 ?_
    refine e_iconst dX0_countCommon_80 ?_
    refine e_iadd dX0_countCommon_81 ?_
    refine e_iconst dX0_countCommon_82 ?_
    refine e_mmax (x3) (⟨by decide, by decide⟩) qcX0_69 rfl dX0_countCommon_83 ?_
    refine e_iadd dX0_countCommon_86 ?_
    refine e_istore_n dX0_countCommon_87 rfl ?_
    refine e_iinc dX0_countCommon_88 rfl ?_
    refine e_goto (tgt := 19) dX0_countCommon_91 rfl ?_
    refine e_loc [(3, .int (iN (2 * (t + 1) : Nat))), (2, .int (iN (2 * s : Nat))), (1, .int (iN (cmN A B s + cmJ A B s (t + 1)))), (0, .ref c)] ⟨rfl, rfl, ?_, rfl, trivial⟩ (ih (t + 1) (by omega))
    show some (Value.int (iN _)) = some (Value.int (iN _))
    rw [show cmJ A B s (t + 1) = cmJ A B s t + cmT A B (2 * s) (2 * t) from rfl, ← Int.add_assoc]
set_option maxRecDepth 20000 in
theorem cc_loop {z : Option Nat} (h0 : h c = some (.inr (0, [.ref (c + 1), .ref (c + 5)]))) (ha : rowAt G NA A (c + 1) h) (hb : rowAt G NB B (c + 5) h) : ∀ (n s : Nat), s + n = A.length / 2 → Ev (g_B G mX0_countCommon 0 0 (fun o z1 h1 => o = .inl (some (.int (iN (cmN A B (A.length / 2))))) ∧ z1 = z ∧ h1 = h)) 0 0 z h 4 [(2, .int (iN (2 * s : Nat))), (1, .int (iN (cmN A B s))), (0, .ref c)] [] := by
  have h9 := ha.1
  have h8 := ha.2.1
  intro n
  induction n with
  | zero =>
    intro s hsn
    have e9 : s = A.length / 2 := by omega
    have e8 : ¬ 2 * s + 1 < A.length := by omega
    refine e_iload_n dX0_countCommon_4 rfl ?_
    refine e_iconst dX0_countCommon_5 ?_
    refine e_iadd dX0_countCommon_6 ?_
    refine e_aload_n dX0_countCommon_7 rfl ?_
    refine e_getf fX0_14 h0 rfl dX0_countCommon_8 ?_
    refine e_pureV qcX0_40 ha.obj rfl rfl (S_size ha) rfl rfl rfl rfl dX0_countCommon_11 ?_
    refine e_icmp_ge (tgt := 100) ⟨by omega, by omega⟩ ⟨by omega, by omega⟩ dX0_countCommon_14 rfl (fun c_14 => ?_) (fun c_14 => absurd c_14 (by omega))
    refine e_iload_n dX0_countCommon_100 rfl ?_
    refine e_iret rfl dX0_countCommon_101 (by decide) (by decide) ?_
    exact ⟨by rw [e9], rfl, rfl⟩
  | succ n ih =>
    intro s hsn
    have hs : 2 * s + 1 < A.length := by omega
    refine e_iload_n dX0_countCommon_4 rfl ?_
    refine e_iconst dX0_countCommon_5 ?_
    refine e_iadd dX0_countCommon_6 ?_
    refine e_aload_n dX0_countCommon_7 rfl ?_
    refine e_getf fX0_14 h0 rfl dX0_countCommon_8 ?_
    refine e_pureV qcX0_40 ha.obj rfl rfl (S_size ha) rfl rfl rfl rfl dX0_countCommon_11 ?_
    refine e_icmp_ge (tgt := 100) ⟨by omega, by omega⟩ ⟨by omega, by omega⟩ dX0_countCommon_14 rfl (fun c_14 => absurd c_14 (by omega)) (fun c_14 => ?_)
    refine e_iconst dX0_countCommon_17 ?_
    refine e_istore_n dX0_countCommon_18 rfl ?_
    refine e_loc [(3, .int (iN (2 * 0 : Nat))), (2, .int (iN (2 * s : Nat))), (1, .int (iN (cmN A B s + cmJ A B s 0))), (0, .ref c)] ⟨rfl, rfl, ?_, rfl, trivial⟩ (cc_inner h0 ha hb hs ?_ (B.length / 2) 0 (by omega))
    · show some (Value.int (iN _)) = some (Value.int (iN _))
      rw [show cmJ A B s 0 = 0 from rfl, Int.add_zero]
    refine e_iinc dX0_countCommon_94 rfl ?_
    refine e_goto (tgt := 4) dX0_countCommon_97 rfl ?_
    exact e_loc [(2, .int (iN (2 * (s + 1) : Nat))), (1, .int (iN (cmN A B (s + 1)))), (0, .ref c)] ⟨rfl, rfl, rfl, trivial⟩ (ih (s + 1) (by omega))
set_option maxRecDepth 20000 in
theorem S_countCommon (h0 : h c = some (.inr (0, [.ref (c + 1), .ref (c + 5)]))) (ha : rowAt G NA A (c + 1) h) (hb : rowAt G NB B (c + 5) h) : Pure G mX0_countCommon [.ref c] h (.int (iN (cmN A B (A.length / 2)))) := by
  intro z
  refine run_of rfl plX0 rfl ?_
  refine e_iconst dX0_countCommon_0 ?_
  refine e_istore_n dX0_countCommon_1 rfl ?_
  refine e_iconst dX0_countCommon_2 ?_
  refine e_istore_n dX0_countCommon_3 rfl ?_
  exact e_loc [(2, .int (iN (2 * 0 : Nat))), (1, .int (iN (cmN A B 0))), (0, .ref c)] ⟨rfl, rfl, rfl, trivial⟩ (cc_loop h0 ha hb (A.length / 2) 0 (by omega))
end PCENSUS3
