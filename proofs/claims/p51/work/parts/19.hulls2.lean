/-! Hulls: layers, sums, touch -/
def g_f2 (r r2 : Nat) (h h1 : g_hp) : Prop := ∀ a, (a < r ∨ r + 4 ≤ a) → (a < r2 ∨ r2 + 4 ≤ a) → h1 a = h a
theorem g_f2.l {r r2 : Nat} {h h1 h2 : g_hp} (f : g_f2 r r2 h h1) (f2 : g_fr r 4 h1 h2) : g_f2 r r2 h h2 := fun a x y => (f2 a x).trans (f a x y)
theorem g_fr.f2 {r r2 : Nat} {h h1 : g_hp} (f : g_fr r2 4 h h1) : g_f2 r r2 h h1 := fun a _ y => f a y
theorem wI_b (L : PL) (s x y : Int) : -1 ≤ wI L s x y ∧ wI L s x y ≤ 1 := by rcases wI_bd L s x y with w | w | w <;> omega
section PHULLS2
variable {G : g_X} {N N2 N3 : Nat} {L L2 L3 : PL} {r r2 r3 : Nat} {h : g_hp}
set_option maxRecDepth 20000 in
theorem pl_loop {z : Option Nat} (hd : r + 4 ≤ r2 ∨ r2 + 4 ≤ r) : ∀ (i : Nat) (Q : PL) (h1 : g_hp), i ≤ Q.length → rowAt G N Q r h1 → rowAt G N2 (wrapN N2 L) r2 h1 → g_f2 r r2 h h1 → peelN (wrapN N2 L) i Q = peelN (wrapN N2 L) L.length L → Ev (g_B G mX1_peel 0 0 (fun o z1 h1 => ∃ v, o = .inl v ∧ z1 = z ∧ (v = none ∧ rowAt G N (peelN (wrapN N2 L) L.length L) r h1 ∧ rowAt G N2 (wrapN N2 L) r2 h1 ∧ g_f2 r r2 h h1))) 0 0 z h1 12 [(2, .int (iN ((i : Int) - 1))), (0, .ref r), (1, .ref r2)] [] := by
  intro i
  induction i with
  | zero =>
    intro Q h1 hi hr h2r hfr hq
    refine e_iload_n dX1_peel_12 rfl ?_
    refine e_if_lt (tgt := 47) ⟨by omega, by omega⟩ dX1_peel_13 rfl (fun c_13 => ?_) (fun c_13 => absurd c_13 (by omega))
    refine e_vret rfl dX1_peel_47 (by decide) (by decide) ?_
    exact ⟨none, rfl, rfl, rfl, hq ▸ hr, h2r, hfr⟩
  | succ i ih =>
    intro Q h1 hi hr h2r hfr hq
    have h9 := hr.1
    have h8 := hr.2.1
    have hi2 : i < Q.length := by omega
    have u1 := hr.2.2.1.at hi2
    have hw := wI_b (wrapN N2 L) 1 (pX Q i) (pY Q i)
    have e5 : (((i + 1 : Nat) : Int) - 1) = (i : Int) := by omega
    rw [e5]
    refine e_iload_n dX1_peel_12 rfl ?_
    refine e_if_lt (tgt := 47) ⟨by omega, by omega⟩ dX1_peel_13 rfl (fun c_13 => ?_) (fun c_13 => ?_)
    · exact absurd c_13 (by omega)
    · refine e_aload_n dX1_peel_16 rfl ?_
      refine e_iconst dX1_peel_17 ?_
      refine e_aload_n dX1_peel_18 rfl ?_
      refine e_iload_n dX1_peel_19 rfl ?_
      refine e_pureV qcX1_16 hr.obj rfl rfl (S_xAt hr hi2) rfl rfl rfl rfl dX1_peel_20 ?_
      refine e_i2l ⟨by omega, by omega⟩ dX1_peel_23 ?_
      refine e_aload_n dX1_peel_24 rfl ?_
      refine e_iload_n dX1_peel_25 rfl ?_
      refine e_pureV qcX1_20 hr.obj rfl rfl (S_yAt hr hi2) rfl rfl rfl rfl dX1_peel_26 ?_
      refine e_i2l ⟨by omega, by omega⟩ dX1_peel_29 ?_
      refine e_pureS qcX1_54 (S_whereIs (s := 1) h2r ⟨by omega, by omega⟩ ⟨by omega, by omega⟩ ⟨by omega, by omega⟩) rfl rfl rfl rfl dX1_peel_30 ?_
      refine e_if_gt (tgt := 41) ⟨by omega, by omega⟩ dX1_peel_33 rfl (fun c_33 => ?_) (fun c_33 => ?_)
      · refine e_iinc dX1_peel_41 rfl ?_
        refine e_goto (tgt := 12) dX1_peel_44 rfl ?_
        first | exact e_loc [(2, .int (iN ((i : Int) - 1))), (0, .ref r), (1, .ref r2)] ⟨rfl, rfl, rfl, trivial⟩ (ih _ h4 (by rw [List.length_eraseIdx, if_pos hi2]; omega) g4 (h2r.off fr4 hd.symm) (hfr.l fr4) (by rw [← hq]; show _ = peelN (wrapN N2 L) i (if _ then _ else _); rw [if_pos (by omega)])) | exact e_loc [(2, .int (iN ((i : Int) - 1))), (0, .ref r), (1, .ref r2)] ⟨rfl, rfl, rfl, trivial⟩ (ih _ h1 (by omega) hr h2r hfr (by rw [← hq]; show _ = peelN (wrapN N2 L) i (if _ then _ else _); rw [if_neg (by omega)]))
      · refine e_aload_n dX1_peel_36 rfl ?_
        refine e_iload_n dX1_peel_37 rfl ?_
        refine e_doesV qcX1_60 hr.obj rfl rfl (S_remove hr hi2) rfl rfl rfl rfl dX1_peel_38 ?_
        intro v h4 q4
        obtain ⟨rfl, g4, fr4⟩ := q4
        refine e_iinc dX1_peel_41 rfl ?_
        refine e_goto (tgt := 12) dX1_peel_44 rfl ?_
        first | exact e_loc [(2, .int (iN ((i : Int) - 1))), (0, .ref r), (1, .ref r2)] ⟨rfl, rfl, rfl, trivial⟩ (ih _ h4 (by rw [List.length_eraseIdx, if_pos hi2]; omega) g4 (h2r.off fr4 hd.symm) (hfr.l fr4) (by rw [← hq]; show _ = peelN (wrapN N2 L) i (if _ then _ else _); rw [if_pos (by omega)])) | exact e_loc [(2, .int (iN ((i : Int) - 1))), (0, .ref r), (1, .ref r2)] ⟨rfl, rfl, rfl, trivial⟩ (ih _ h1 (by omega) hr h2r hfr (by rw [← hq]; show _ = peelN (wrapN N2 L) i (if _ then _ else _); rw [if_neg (by omega)]))
set_option maxRecDepth 20000 in
theorem S_peel (hr : rowAt G N L r h) (h2r : rowAt G N2 L2 r2 h) (hd : r + 4 ≤ r2 ∨ r2 + 4 ≤ r) (hN : 0 < N2) : Does G mX1_peel [.ref r, .ref r2] h (fun v h1 => v = none ∧ rowAt G N (peelN (wrapN N2 L) L.length L) r h1 ∧ rowAt G N2 (wrapN N2 L) r2 h1 ∧ g_f2 r r2 h h1) := by
  intro z
  refine run_of rfl plX1 rfl ?_
  refine e_aload_n dX1_peel_0 rfl ?_
  refine e_aload_n dX1_peel_1 rfl ?_
  refine e_doesS qcX1_50 (S_wrap h2r hr hd.symm hN) rfl rfl rfl rfl dX1_peel_2 ?_
  intro v h1 q1
  obtain ⟨rfl, g1, fr1⟩ := q1
  have hr1 := hr.off fr1 hd
  refine e_aload_n dX1_peel_5 rfl ?_
  refine e_pureV qcX1_12 hr1.obj rfl rfl (S_size hr1) rfl rfl rfl rfl dX1_peel_6 ?_
  refine e_iconst dX1_peel_9 ?_
  refine e_isub dX1_peel_10 ?_
  refine e_istore_n dX1_peel_11 rfl ?_
  exact e_loc [(2, .int (iN ((L.length : Int) - 1))), (0, .ref r), (1, .ref r2)] ⟨rfl, rfl, rfl, trivial⟩ (pl_loop hd L.length L h1 (Nat.le_refl _) (hr.off fr1 hd) g1 fr1.f2 rfl)
abbrev gout (a b : Int) : Prop := 0 < a ∨ (a = 0 ∧ 0 < b)
/-- ifeq A; iconst_0; goto B; A: iconst_1; B: -/
theorem e_matE {C : g_E} {k n : Nat} {z : Option Nat} {h : g_hp} {pc : Nat} {L : List (Nat × Value)} {st : List Value} {p : Prop} [Decidable p] {off o2 : Int} {A : Nat} (d1 : decode (g_cc C) pc = .ok (.ifCond .eq off, 3)) (ht : (pc : Int) + off = (A : Int)) (d2 : decode (g_cc C) (pc + 3) = .ok (.iconst 0, 1)) (d3 : decode (g_cc C) (pc + 4) = .ok (.goto o2, 3)) (ht2 : ((pc + 4 : Nat) : Int) + o2 = ((A + 1 : Nat) : Int)) (d4 : decode (g_cc C) A = .ok (.iconst 1, 1)) (kk : Ev C k n z h (A + 1) L (.int (iN (bP (¬ p))) :: st)) : Ev C k n z h pc L (.int (iN (bP p)) :: st) :=
  e_ifP_eq d1 ht (fun q => e_iconst d4 (by rw [bP_t q] at kk; exact kk)) (fun q => e_iconst d2 (e_goto d3 ht2 (by rw [bP_f (show ¬ ¬ p from fun w => w q)] at kk; exact kk)))
set_option maxRecDepth 20000 in
theorem S_goesOut {a b : Int} (ha : r32 a) (hb : r32 b) : Pure G mX1_goesOut [.int (iN a), .int (iN b)] h (.int (iN (bP (gout a b)))) := by
  have a1 := ha.1
  have a2 := ha.2
  have b1 := hb.1
  have b2 := hb.2
  intro z
  refine run_of rfl plX1 rfl ?_
  refine e_iload_n dX1_goesOut_0 rfl ?_
  refine e_if_gt (tgt := 12) (by assumption) dX1_goesOut_1 rfl (fun c_1 => ?_) (fun c_1 => ?_)
  · refine e_iconst dX1_goesOut_12 ?_
    refine e_goto (tgt := 17) dX1_goesOut_13 rfl ?_
    refine e_zret rfl (by first | exact Or.inl rfl | exact Or.inr rfl | exact bP_01 _) dX1_goesOut_17 (by decide) (by decide) ?_
    first | exact ⟨by rw [bP_t (show gout a b by unfold gout; omega)]; rfl, rfl, rfl⟩ | exact ⟨by rw [bP_t (show gout a b by unfold gout; omega)], rfl, rfl⟩ | exact ⟨by rw [bP_f (show ¬ gout a b by unfold gout; omega)]; rfl, rfl, rfl⟩ | exact ⟨by rw [bP_f (show ¬ gout a b by unfold gout; omega)], rfl, rfl⟩
  · refine e_iload_n dX1_goesOut_4 rfl ?_
    refine e_if_ne (tgt := 16) (by assumption) dX1_goesOut_5 rfl (fun c_5 => ?_) (fun c_5 => ?_)
    · refine e_iconst dX1_goesOut_16 ?_
      refine e_zret rfl (by first | exact Or.inl rfl | exact Or.inr rfl | exact bP_01 _) dX1_goesOut_17 (by decide) (by decide) ?_
      first | exact ⟨by rw [bP_t (show gout a b by unfold gout; omega)]; rfl, rfl, rfl⟩ | exact ⟨by rw [bP_t (show gout a b by unfold gout; omega)], rfl, rfl⟩ | exact ⟨by rw [bP_f (show ¬ gout a b by unfold gout; omega)]; rfl, rfl, rfl⟩ | exact ⟨by rw [bP_f (show ¬ gout a b by unfold gout; omega)], rfl, rfl⟩
    · refine e_iload_n dX1_goesOut_8 rfl ?_
      refine e_if_le (tgt := 16) (by assumption) dX1_goesOut_9 rfl (fun c_9 => ?_) (fun c_9 => ?_)
      · refine e_iconst dX1_goesOut_16 ?_
        refine e_zret rfl (by first | exact Or.inl rfl | exact Or.inr rfl | exact bP_01 _) dX1_goesOut_17 (by decide) (by decide) ?_
        first | exact ⟨by rw [bP_t (show gout a b by unfold gout; omega)]; rfl, rfl, rfl⟩ | exact ⟨by rw [bP_t (show gout a b by unfold gout; omega)], rfl, rfl⟩ | exact ⟨by rw [bP_f (show ¬ gout a b by unfold gout; omega)]; rfl, rfl, rfl⟩ | exact ⟨by rw [bP_f (show ¬ gout a b by unfold gout; omega)], rfl, rfl⟩
      · refine e_iconst dX1_goesOut_12 ?_
        refine e_goto (tgt := 17) dX1_goesOut_13 rfl ?_
        refine e_zret rfl (by first | exact Or.inl rfl | exact Or.inr rfl | exact bP_01 _) dX1_goesOut_17 (by decide) (by decide) ?_
        first | exact ⟨by rw [bP_t (show gout a b by unfold gout; omega)]; rfl, rfl, rfl⟩ | exact ⟨by rw [bP_t (show gout a b by unfold gout; omega)], rfl, rfl⟩ | exact ⟨by rw [bP_f (show ¬ gout a b by unfold gout; omega)]; rfl, rfl, rfl⟩ | exact ⟨by rw [bP_f (show ¬ gout a b by unfold gout; omega)], rfl, rfl⟩
/-- which of two edges comes first on the way round -/
def cmpE (A : PL) (i : Nat) (B : PL) (j : Nat) : Int := if bP (¬ gout (rnE A i) (rsE A i)) = bP (¬ gout (rnE B j) (rsE B j)) then -sg (rnE A i * rsE B j - rsE A i * rnE B j) else bP (¬ gout (rnE A i) (rsE A i)) - bP (¬ gout (rnE B j) (rsE B j))
theorem bP_b (p : Prop) [Decidable p] : 0 ≤ bP p ∧ bP p ≤ 1 := by unfold bP; split <;> omega
theorem cmpE_bd (A : PL) (i : Nat) (B : PL) (j : Nat) : -1 ≤ cmpE A i B j ∧ cmpE A i B j ≤ 1 := by
  unfold cmpE
  have h1 := bP_b (¬ gout (rnE A i) (rsE A i))
  have h2 := bP_b (¬ gout (rnE B j) (rsE B j))
  have h3 := sg_bd (rnE A i * rsE B j - rsE A i * rnE B j)
  split <;> omega
theorem rn_bd {L : PL} (h : okL L) {i : Nat} (hi : i < L.length) : (-4000 ≤ rnE L i ∧ rnE L i ≤ 4000) ∧ (-4000 ≤ rsE L i ∧ rsE L i ≤ 4000) := by
  have u1 := h.at hi
  have u2 := h.nx hi
  constructor
  · show -4000 ≤ _ - _ ∧ _ - _ ≤ 4000; omega
  · show -4000 ≤ _ - _ ∧ _ - _ ≤ 4000; omega
set_option maxRecDepth 20000 in
theorem S_compareEdges (hr : rowAt G N L r h) (h2r : rowAt G N2 L2 r2 h) {i j : Nat} (hi : i < L.length) (hj : j < L2.length) : Pure G mX1_compareEdges [.ref r, .int (iN i), .ref r2, .int (iN j)] h (.int (iN (cmpE L i L2 j))) := by
  have v1 := (rn_bd hr.2.2.1 hi).1
  have v2 := (rn_bd hr.2.2.1 hi).2
  have v3 := (rn_bd h2r.2.2.1 hj).1
  have v4 := (rn_bd h2r.2.2.1 hj).2
  have m1 := mul_bd v1 v4
  have m2 := mul_bd v2 v3
  intro z
  refine run_of rfl plX1 rfl ?_
  refine e_aload_n dX1_compareEdges_0 rfl ?_
  refine e_iload_n dX1_compareEdges_1 rfl ?_
  refine e_pureS qcX1_68 (S_runOf hr hi) rfl rfl rfl rfl dX1_compareEdges_2 ?_
  refine e_istore dX1_compareEdges_5 rfl ?_
  refine e_aload_n dX1_compareEdges_7 rfl ?_
  refine e_iload_n dX1_compareEdges_8 rfl ?_
  refine e_pureS qcX1_72 (S_riseOf hr hi) rfl rfl rfl rfl dX1_compareEdges_9 ?_
  refine e_istore dX1_compareEdges_12 rfl ?_
  refine e_aload_n dX1_compareEdges_14 rfl ?_
  refine e_iload_n dX1_compareEdges_15 rfl ?_
  refine e_pureS qcX1_68 (S_runOf h2r hj) rfl rfl rfl rfl dX1_compareEdges_16 ?_
  refine e_istore dX1_compareEdges_19 rfl ?_
  refine e_aload_n dX1_compareEdges_21 rfl ?_
  refine e_iload_n dX1_compareEdges_22 rfl ?_
  refine e_pureS qcX1_72 (S_riseOf h2r hj) rfl rfl rfl rfl dX1_compareEdges_23 ?_
  refine e_istore dX1_compareEdges_26 rfl ?_
  refine e_iload dX1_compareEdges_28 rfl ?_
  refine e_iload dX1_compareEdges_30 rfl ?_
  refine e_pureS qcX1_75 (S_goesOut ⟨by omega, by omega⟩ ⟨by omega, by omega⟩) rfl rfl rfl rfl dX1_compareEdges_32 ?_
  refine e_matE (A := 42) dX1_compareEdges_35 rfl dX1_compareEdges_38 dX1_compareEdges_39 rfl dX1_compareEdges_42 ?_
  refine e_istore dX1_compareEdges_43 rfl ?_
  refine e_iload dX1_compareEdges_45 rfl ?_
  refine e_iload dX1_compareEdges_47 rfl ?_
  refine e_pureS qcX1_75 (S_goesOut ⟨by omega, by omega⟩ ⟨by omega, by omega⟩) rfl rfl rfl rfl dX1_compareEdges_49 ?_
  refine e_matE (A := 59) dX1_compareEdges_52 rfl dX1_compareEdges_55 dX1_compareEdges_56 rfl dX1_compareEdges_59 ?_
  refine e_istore dX1_compareEdges_60 rfl ?_
  refine e_iload dX1_compareEdges_62 rfl ?_
  refine e_iload dX1_compareEdges_64 rfl ?_
  refine e_icmp_eq (tgt := 75) (bP_r _) (bP_r _) dX1_compareEdges_66 rfl (fun c_66 => ?_) (fun c_66 => ?_)
  · refine e_iload dX1_compareEdges_75 rfl ?_
    refine e_i2l ⟨by omega, by omega⟩ dX1_compareEdges_77 ?_
    refine e_iload dX1_compareEdges_78 rfl ?_
    refine e_i2l ⟨by omega, by omega⟩ dX1_compareEdges_80 ?_
    refine e_lmul dX1_compareEdges_81 ?_
    refine e_iload dX1_compareEdges_82 rfl ?_
    refine e_i2l ⟨by omega, by omega⟩ dX1_compareEdges_84 ?_
    refine e_iload dX1_compareEdges_85 rfl ?_
    refine e_i2l ⟨by omega, by omega⟩ dX1_compareEdges_87 ?_
    refine e_lmul dX1_compareEdges_88 ?_
    refine e_lsub dX1_compareEdges_89 ?_
    refine e_pureS qcX1_79 (S_signOf ⟨by omega, by omega⟩) rfl rfl rfl rfl dX1_compareEdges_90 ?_
    refine e_ineg dX1_compareEdges_93 ?_
    refine e_iret rfl dX1_compareEdges_94 (by decide) (by decide) ?_
    exact ⟨by rw [show cmpE L i L2 j = _ from if_pos c_66], rfl, rfl⟩
  · refine e_iload dX1_compareEdges_69 rfl ?_
    refine e_iload dX1_compareEdges_71 rfl ?_
    refine e_isub dX1_compareEdges_73 ?_
    refine e_iret rfl dX1_compareEdges_74 (by decide) (by decide) ?_
    exact ⟨by rw [show cmpE L i L2 j = _ from if_neg c_66], rfl, rfl⟩
def hasC (L L2 : PL) : Prop := ∃ i, i < L.length ∧ 0 ≤ wI L2 1 (pX L i) (pY L i)
set_option maxRecDepth 20000 in
theorem hc_loop {z : Option Nat} (hr : rowAt G N L r h) (h2r : rowAt G N2 L2 r2 h) : ∀ (n i : Nat), i + n = L.length → (∀ a, a < i → ¬ 0 ≤ wI L2 1 (pX L a) (pY L a)) → Ev (g_B G mX1_hasCornerIn 0 0 (fun o z1 h1 => o = .inl (some (.int (iN (bC (hasC L L2))))) ∧ z1 = z ∧ h1 = h)) 0 0 z h 2 [(2, .int (iN i)), (0, .ref r), (1, .ref r2)] [] := by
  have h9 := hr.1
  have h8 := hr.2.1
  intro n
  induction n with
  | zero =>
    intro i hin hno
    have e9 : i = L.length := by omega
    subst e9
    refine e_iload_n dX1_hasCornerIn_2 rfl ?_
    refine e_aload_n dX1_hasCornerIn_3 rfl ?_
    refine e_pureV qcX1_12 hr.obj rfl rfl (S_size hr) rfl rfl rfl rfl dX1_hasCornerIn_4 ?_
    refine e_icmp_ge (tgt := 38) ⟨by omega, by omega⟩ ⟨by omega, by omega⟩ dX1_hasCornerIn_7 rfl (fun c_7 => ?_) (fun c_7 => absurd (Int.le_refl _) c_7)
    refine e_iconst dX1_hasCornerIn_38 ?_
    refine e_zret rfl (by first | exact Or.inl rfl | exact Or.inr rfl | exact bP_01 _) dX1_hasCornerIn_39 (by decide) (by decide) ?_
    exact ⟨by rw [bC_f (p := hasC L L2) (fun ⟨i, hi, w⟩ => hno i hi w)], rfl, rfl⟩
  | succ n ih =>
    intro i hin hno
    have hi : i < L.length := by omega
    have u1 := hr.2.2.1.at hi
    have hw := wI_b L2 1 (pX L i) (pY L i)
    refine e_iload_n dX1_hasCornerIn_2 rfl ?_
    refine e_aload_n dX1_hasCornerIn_3 rfl ?_
    refine e_pureV qcX1_12 hr.obj rfl rfl (S_size hr) rfl rfl rfl rfl dX1_hasCornerIn_4 ?_
    refine e_icmp_ge (tgt := 38) ⟨by omega, by omega⟩ ⟨by omega, by omega⟩ dX1_hasCornerIn_7 rfl (fun c_7 => ?_) (fun c_7 => ?_)
    · exact absurd c_7 (by omega)
    · refine e_aload_n dX1_hasCornerIn_10 rfl ?_
      refine e_iconst dX1_hasCornerIn_11 ?_
      refine e_aload_n dX1_hasCornerIn_12 rfl ?_
      refine e_iload_n dX1_hasCornerIn_13 rfl ?_
      refine e_pureV qcX1_16 hr.obj rfl rfl (S_xAt hr hi) rfl rfl rfl rfl dX1_hasCornerIn_14 ?_
      refine e_i2l ⟨by omega, by omega⟩ dX1_hasCornerIn_17 ?_
      refine e_aload_n dX1_hasCornerIn_18 rfl ?_
      refine e_iload_n dX1_hasCornerIn_19 rfl ?_
      refine e_pureV qcX1_20 hr.obj rfl rfl (S_yAt hr hi) rfl rfl rfl rfl dX1_hasCornerIn_20 ?_
      refine e_i2l ⟨by omega, by omega⟩ dX1_hasCornerIn_23 ?_
      refine e_pureS qcX1_54 (S_whereIs (s := 1) h2r ⟨by omega, by omega⟩ ⟨by omega, by omega⟩ ⟨by omega, by omega⟩) rfl rfl rfl rfl dX1_hasCornerIn_24 ?_
      refine e_if_lt (tgt := 32) ⟨by omega, by omega⟩ dX1_hasCornerIn_27 rfl (fun c_27 => ?_) (fun c_27 => ?_)
      · refine e_iinc dX1_hasCornerIn_32 rfl ?_
        refine e_goto (tgt := 2) dX1_hasCornerIn_35 rfl ?_
        exact e_loc [(2, .int (iN (i + 1 : Nat))), (0, .ref r), (1, .ref r2)] ⟨rfl, rfl, rfl, trivial⟩ (ih (i + 1) (by omega) (fun a ha => by
          by_cases e : a = i
          · subst e
            omega
          · exact hno a (by omega)))
      · refine e_iconst dX1_hasCornerIn_30 ?_
        refine e_zret rfl (by first | exact Or.inl rfl | exact Or.inr rfl | exact bP_01 _) dX1_hasCornerIn_31 (by decide) (by decide) ?_
        exact ⟨by rw [bC_t (p := hasC L L2) ⟨i, hi, by omega⟩], rfl, rfl⟩
set_option maxRecDepth 20000 in
theorem S_hasCornerIn (hr : rowAt G N L r h) (h2r : rowAt G N2 L2 r2 h) : Pure G mX1_hasCornerIn [.ref r, .ref r2] h (.int (iN (bC (hasC L L2)))) := by
  intro z
  refine run_of rfl plX1 rfl ?_
  refine e_iconst dX1_hasCornerIn_0 ?_
  refine e_istore_n dX1_hasCornerIn_1 rfl ?_
  exact e_loc [(2, .int (iN (0 : Nat))), (0, .ref r), (1, .ref r2)] ⟨rfl, rfl, rfl, trivial⟩ (hc_loop hr h2r L.length 0 (by omega) (fun a ha => absurd ha (by omega)))
def tch (L L2 : PL) : Prop := hasC L L2 ∨ hasC L2 L ∨ ∃ i, i < L.length ∧ ∃ j, j < L2.length ∧ meet3 L i (nxt L.length i) L2 j (nxt L2.length j)
set_option maxRecDepth 20000 in
theorem tc_inner {z : Option Nat} (hr : rowAt G N L r h) (h2r : rowAt G N2 L2 r2 h) {i : Nat} (hi : i < L.length) (k : (∀ j, j < L2.length → ¬ meet3 L i (nxt L.length i) L2 j (nxt L2.length j)) → Ev (g_B G mX1_touch 0 0 (fun o z1 h1 => o = .inl (some (.int (iN (bC (tch L L2))))) ∧ z1 = z ∧ h1 = h)) 0 0 z h 66 [(2, .int (iN i)), (0, .ref r), (1, .ref r2)] []) : ∀ (n j : Nat), j + n = L2.length → (∀ b, b < j → ¬ meet3 L i (nxt L.length i) L2 b (nxt L2.length b)) → Ev (g_B G mX1_touch 0 0 (fun o z1 h1 => o = .inl (some (.int (iN (bC (tch L L2))))) ∧ z1 = z ∧ h1 = h)) 0 0 z h 30 [(3, .int (iN j)), (2, .int (iN i)), (0, .ref r), (1, .ref r2)] [] := by
  have h9 := h2r.1
  have h8 := h2r.2.1
  have hni := nxt_lt hi
  intro n
  induction n with
  | zero =>
    intro j hjn hno
    have e9 : j = L2.length := by omega
    subst e9
    refine e_iload_n dX1_touch_30 rfl ?_
    refine e_aload_n dX1_touch_31 rfl ?_
    refine e_pureV qcX1_12 h2r.obj rfl rfl (S_size h2r) rfl rfl rfl rfl dX1_touch_32 ?_
    refine e_icmp_ge (tgt := 66) ⟨by omega, by omega⟩ ⟨by omega, by omega⟩ dX1_touch_35 rfl (fun c_35 => ?_) (fun c_35 => absurd (Int.le_refl _) c_35)
    exact e_loc [(2, .int (iN i)), (0, .ref r), (1, .ref r2)] ⟨rfl, rfl, rfl, trivial⟩ (k hno)
  | succ n ih =>
    intro j hjn hno
    have hj : j < L2.length := by omega
    have hnj := nxt_lt hj
    refine e_iload_n dX1_touch_30 rfl ?_
    refine e_aload_n dX1_touch_31 rfl ?_
    refine e_pureV qcX1_12 h2r.obj rfl rfl (S_size h2r) rfl rfl rfl rfl dX1_touch_32 ?_
    refine e_icmp_ge (tgt := 66) ⟨by omega, by omega⟩ ⟨by omega, by omega⟩ dX1_touch_35 rfl (fun c_35 => ?_) (fun c_35 => ?_)
    · exact absurd c_35 (by omega)
    · have k1 : j + 1 + n = L2.length := by omega
      refine e_aload_n dX1_touch_38 rfl ?_
      refine e_iload_n dX1_touch_39 rfl ?_
      refine e_aload_n dX1_touch_40 rfl ?_
      refine e_iload_n dX1_touch_41 rfl ?_
      refine e_pureV qcX1_87 hr.obj rfl rfl (S_next hr hi) rfl rfl rfl rfl dX1_touch_42 ?_
      refine e_aload_n dX1_touch_45 rfl ?_
      refine e_iload_n dX1_touch_46 rfl ?_
      refine e_aload_n dX1_touch_47 rfl ?_
      refine e_iload_n dX1_touch_48 rfl ?_
      refine e_pureV qcX1_87 h2r.obj rfl rfl (S_next h2r hj) rfl rfl rfl rfl dX1_touch_49 ?_
      refine e_pureS qcX1_90 (S_meet hr h2r hi hni hj hnj) rfl rfl rfl rfl dX1_touch_52 ?_
      refine e_ifP_eq (tgt := 60) dX1_touch_55 rfl (fun c_55 => ?_) (fun c_55 => ?_)
      · refine e_iinc dX1_touch_60 rfl ?_
        refine e_goto (tgt := 30) dX1_touch_63 rfl ?_
        exact e_loc [(3, .int (iN (j + 1 : Nat))), (2, .int (iN i)), (0, .ref r), (1, .ref r2)] ⟨rfl, rfl, rfl, rfl, trivial⟩ (ih (j + 1) k1 (fun b hb => by
          by_cases e : b = j
          · subst e
            exact c_55
          · exact hno b (Nat.lt_of_le_of_ne (Nat.le_of_lt_succ hb) e)))
      · refine e_iconst dX1_touch_58 ?_
        refine e_zret rfl (by first | exact Or.inl rfl | exact Or.inr rfl | exact bP_01 _) dX1_touch_59 (by decide) (by decide) ?_
        exact ⟨by rw [bC_t (p := tch L L2) (Or.inr (Or.inr ⟨i, hi, j, hj, c_55⟩))], rfl, rfl⟩
set_option maxRecDepth 20000 in
theorem tc_loop {z : Option Nat} (hr : rowAt G N L r h) (h2r : rowAt G N2 L2 r2 h) (n1 : ¬ hasC L L2) (n2 : ¬ hasC L2 L) : ∀ (n i : Nat), i + n = L.length → (∀ a, a < i → ∀ j, j < L2.length → ¬ meet3 L a (nxt L.length a) L2 j (nxt L2.length j)) → Ev (g_B G mX1_touch 0 0 (fun o z1 h1 => o = .inl (some (.int (iN (bC (tch L L2))))) ∧ z1 = z ∧ h1 = h)) 0 0 z h 20 [(2, .int (iN i)), (0, .ref r), (1, .ref r2)] [] := by
  have h9 := hr.1
  have h8 := hr.2.1
  intro n
  induction n with
  | zero =>
    intro i hin hno
    have e9 : i = L.length := by omega
    subst e9
    refine e_iload_n dX1_touch_20 rfl ?_
    refine e_aload_n dX1_touch_21 rfl ?_
    refine e_pureV qcX1_12 hr.obj rfl rfl (S_size hr) rfl rfl rfl rfl dX1_touch_22 ?_
    refine e_icmp_ge (tgt := 72) ⟨by omega, by omega⟩ ⟨by omega, by omega⟩ dX1_touch_25 rfl (fun c_25 => ?_) (fun c_25 => absurd (Int.le_refl _) c_25)
    refine e_iconst dX1_touch_72 ?_
    refine e_zret rfl (by first | exact Or.inl rfl | exact Or.inr rfl | exact bP_01 _) dX1_touch_73 (by decide) (by decide) ?_
    exact ⟨by rw [bC_f (p := tch L L2) (fun w => by rcases w with w | w | ⟨i, hi, j, hj, w⟩; exact n1 w; exact n2 w; exact hno i hi j hj w)], rfl, rfl⟩
  | succ n ih =>
    intro i hin hno
    have hi : i < L.length := by omega
    refine e_iload_n dX1_touch_20 rfl ?_
    refine e_aload_n dX1_touch_21 rfl ?_
    refine e_pureV qcX1_12 hr.obj rfl rfl (S_size hr) rfl rfl rfl rfl dX1_touch_22 ?_
    refine e_icmp_ge (tgt := 72) ⟨by omega, by omega⟩ ⟨by omega, by omega⟩ dX1_touch_25 rfl (fun c_25 => ?_) (fun c_25 => ?_)
    · exact absurd c_25 (by omega)
    · refine e_iconst dX1_touch_28 ?_
      refine e_istore_n dX1_touch_29 rfl ?_
      refine e_loc [(3, .int (iN (0 : Nat))), (2, .int (iN i)), (0, .ref r), (1, .ref r2)] ⟨rfl, rfl, rfl, rfl, trivial⟩ (tc_inner hr h2r hi (fun hin2 => ?_) L2.length 0 (by omega) (fun b hb => absurd hb (by omega)))
      refine e_iinc dX1_touch_66 rfl ?_
      refine e_goto (tgt := 20) dX1_touch_69 rfl ?_
      exact e_loc [(2, .int (iN (i + 1 : Nat))), (0, .ref r), (1, .ref r2)] ⟨rfl, rfl, rfl, trivial⟩ (ih (i + 1) (by omega) (fun a ha => by
        by_cases e : a = i
        · subst e
          exact hin2
        · exact hno a (Nat.lt_of_le_of_ne (Nat.le_of_lt_succ ha) e)))
set_option maxRecDepth 20000 in
theorem S_touch (hr : rowAt G N L r h) (h2r : rowAt G N2 L2 r2 h) : Pure G mX1_touch [.ref r, .ref r2] h (.int (iN (bC (tch L L2)))) := by
  letI : Decidable (hasC L L2) := Classical.propDecidable _
  letI : Decidable (hasC L2 L) := Classical.propDecidable _
  intro z
  refine run_of rfl plX1 rfl ?_
  refine e_aload_n dX1_touch_0 rfl ?_
  refine e_aload_n dX1_touch_1 rfl ?_
  refine e_pureS qcX1_83 (S_hasCornerIn hr h2r) rfl rfl rfl rfl dX1_touch_2 ?_
  refine e_ifP_ne (tgt := 16) dX1_touch_5 rfl (fun c_5 => ?_) (fun c_5 => ?_)
  · refine e_iconst dX1_touch_16 ?_
    refine e_zret rfl (by first | exact Or.inl rfl | exact Or.inr rfl | exact bP_01 _) dX1_touch_17 (by decide) (by decide) ?_
    first | exact ⟨by rw [bC_t (p := tch L L2) (Or.inl c_5)], rfl, rfl⟩ | exact ⟨by rw [bC_t (p := tch L L2) (Or.inr (Or.inl c_13))], rfl, rfl⟩
  · refine e_aload_n dX1_touch_8 rfl ?_
    refine e_aload_n dX1_touch_9 rfl ?_
    refine e_pureS qcX1_83 (S_hasCornerIn h2r hr) rfl rfl rfl rfl dX1_touch_10 ?_
    refine e_ifP_eq (tgt := 18) dX1_touch_13 rfl (fun c_13 => ?_) (fun c_13 => ?_)
    · refine e_iconst dX1_touch_18 ?_
      refine e_istore_n dX1_touch_19 rfl ?_
      exact e_loc [(2, .int (iN (0 : Nat))), (0, .ref r), (1, .ref r2)] ⟨rfl, rfl, rfl, trivial⟩ (tc_loop hr h2r c_5 c_13 L.length 0 (by omega) (fun a ha => absurd ha (by omega)))
    · refine e_iconst dX1_touch_16 ?_
      refine e_zret rfl (by first | exact Or.inl rfl | exact Or.inr rfl | exact bP_01 _) dX1_touch_17 (by decide) (by decide) ?_
      first | exact ⟨by rw [bC_t (p := tch L L2) (Or.inl c_5)], rfl, rfl⟩ | exact ⟨by rw [bC_t (p := tch L L2) (Or.inr (Or.inl c_13))], rfl, rfl⟩
end PHULLS2
