/-! The reference: mean, fill, hulls apart -/
abbrev mZD (G : g_X) (R : Nat × UInt64) (P E : PL) (S : Nat → PL) (b : Int) (P2 E2 : PL) (S2 : Nat → PL) (F : PL) (m : Nat) (h0 : g_hp) : g_Z := fun oc z1 h1 => z1 = none ∧ (∃ v, oc = .inl (some (.double v)) ∧ (R.1 = 0 → v = R.2)) ∧ ∃ sc ar, mdX G sc ar m h0 h1 ∧ mdR sc ar P E S b P2 E2 S2 F ∧ sc 0 = R.1
theorem mzD {G : g_X} {k R : Nat × UInt64} {P E : PL} {S : Nat → PL} {b : Int} {P2 E2 : PL} {S2 : Nat → PL} {F : PL} {m : Nat} {h0 : g_hp} {oc : g_O} {z : Option Nat} {h : g_hp} (e : k = R) (w : mZD G R P E S b P2 E2 S2 F m h0 oc z h) : mZD G k P E S b P2 E2 S2 F m h0 oc z h := e ▸ w
abbrev mZF (G : g_X) (R : UInt32) (P E : PL) (S : Nat → PL) (b : Int) (P2 E2 : PL) (S2 : Nat → PL) (F : PL) (m : Nat) (h0 : g_hp) : g_Z := fun oc z1 h1 => z1 = none ∧ oc = .inl (some (.float R)) ∧ ∃ sc ar, mdX G sc ar m h0 h1 ∧ mdR sc ar P E S b P2 E2 S2 F ∧ sc 0 = 0
def mrN (P : PL) (a : Int) (f : Nat) : Nat → Int
  | 0 => 0
  | n + 1 => if pM P n = a then mrN P a f n + (((pX P n - pX P f).natAbs : Int) + ((pY P n - pY P f).natAbs : Int)) else mrN P a f n
def fiR (F : PL) : Nat → Int
  | 0 => pX F 0
  | n + 1 => if fiR F n < pX F n then pX F n else fiR F n
def fiL (F : PL) : Nat → Int
  | 0 => pY F 0
  | n + 1 => if pY F n < fiL F n then pY F n else fiL F n
def fiH (F : PL) : Nat → Int
  | 0 => pY F 0
  | n + 1 => if fiH F n < pY F n then pY F n else fiH F n
abbrev fiB (F : PL) : Int := 2 * (fiR F F.length - pX F 0) * (fiH F F.length - fiL F F.length)
theorem fi_bd {F : PL} (h : okS F) (h0 : 0 < F.length) : ∀ n, n ≤ F.length → (-400 ≤ fiR F n ∧ fiR F n ≤ 400) ∧ (-400 ≤ fiL F n ∧ fiL F n ≤ 400) ∧ -400 ≤ fiH F n ∧ fiH F n ≤ 400
  | 0, _ => ⟨(h 0 h0).1, (h 0 h0).2, (h 0 h0).2⟩
  | n + 1, hn => by
    have h1 := fi_bd h h0 n (by omega)
    have h2 := h n (by omega)
    unfold fiR fiL fiH
    refine ⟨?_, ?_, ?_⟩
    · split <;> omega
    · split <;> omega
    · split <;> omega
/-- whether two hulls have nothing in common, as the reference looks for it -/
def apM (A B : PL) : Prop := ¬ isI A B ∧ ¬ isI B A ∧ ∀ k, k < A.length → ∀ o, o < B.length → ¬ tou (pX A k) (pY A k) (nX A k) (nY A k) (pX B o) (pY B o) (nX B o) (nY B o)
section MNINETEEN
variable {G : g_X} {sc sc0 : Nat → Int} {ar : Nat → Nat → Int} {m : Nat} {h0 h : g_hp} {P E : PL} {S : Nat → PL} {b : Int} {P2 E2 : PL} {S2 : Nat → PL} {F : PL}
set_option maxRecDepth 20000 in
theorem mf_loop8 {sc : Nat → Int} (X : mdX G sc ar m h0 h) (hR : mdR sc ar P E S b P2 E2 S2 F) (ht : sc 0 = 0) {a : Int} (ra : r32 a) {f : Nat} (hf : f < P.length) (hn : vf_n64 (FP.ddiv (FP.i2d (iN (mrN P a f P.length))) (FP.i2d (iN (cntN P a P.length : Nat))))) : ∀ (n p : Nat), p + n = P.length → Ev (g_B G mX8_meanFar 0 0 (mZD G ((0, (FP.ddiv (FP.i2d (iN (mrN P a f P.length))) (FP.i2d (iN (cntN P a P.length : Nat))))) : Nat × UInt64) P E S b P2 E2 S2 F m h0)) 0 0 none h 35 [(4, .int (iN (p : Nat))), (3, .int (iN (mrN P a f (p)))), (2, .int (iN (f : Nat))), (0, .ref m), (1, .int (iN a))] [] := by
  obtain ⟨e1, e2, e3, e4⟩ := hR.1
  have ra1 := ra.1
  have ra2 := ra.2
  have b0 := e3.at hf
  intro n
  induction n with
  | zero =>
    intro p hpn
    have e9 : p = P.length := by omega
    rw [e9]
    refine e_iload dX8_meanFar_35 rfl ?_
    refine e_aload_n dX8_meanFar_37 rfl ?_
    refine e_getf fX8_108 X.obj rfl dX8_meanFar_38 ?_
    rw [e1]
    refine e_icmp_ge (tgt := 103) ⟨by omega, by omega⟩ ⟨by omega, by omega⟩ dX8_meanFar_41 rfl (fun c_41 => ?_) (fun c_41 => absurd (by omega) c_41)
    refine e_iload_n dX8_meanFar_103 rfl ?_
    refine e_i2d dX8_meanFar_104 ?_
    refine e_aload_n dX8_meanFar_105 rfl ?_
    refine e_iload_n dX8_meanFar_106 rfl ?_
    refine e_pureV qcX8_122 X.obj rfl rfl (S_many X hR.1 ra) rfl rfl rfl rfl dX8_meanFar_107 ?_
    refine e_i2d dX8_meanFar_110 ?_
    refine e_ddiv hn dX8_meanFar_111 ?_
    refine e_dret rfl dX8_meanFar_112 (by decide) (by decide) ?_
    exact ⟨rfl, ⟨_, rfl, fun _ => rfl⟩, _, _, X, hR, ht⟩
  | succ n ih =>
    intro p hpn
    have hp : p < P.length := by omega
    have b1 := e3.at hp
    refine e_iload dX8_meanFar_35 rfl ?_
    refine e_aload_n dX8_meanFar_37 rfl ?_
    refine e_getf fX8_108 X.obj rfl dX8_meanFar_38 ?_
    rw [e1]
    refine e_icmp_ge (tgt := 103) ⟨by omega, by omega⟩ ⟨by omega, by omega⟩ dX8_meanFar_41 rfl (fun c_41 => absurd c_41 (by omega)) (fun c_41 => ?_)
    refine e_iload_n dX8_meanFar_44 rfl ?_
    refine e_aload_n dX8_meanFar_45 rfl ?_
    refine e_getf fX8_13 X.obj rfl dX8_meanFar_46 ?_
    refine e_iload dX8_meanFar_49 rfl ?_
    refine e_ial X.a0 (by omega) (by omega) rfl (e4 p hp).1 dX8_meanFar_51 ?_
    refine e_iload_n dX8_meanFar_52 rfl ?_
    refine e_icmp_ne (tgt := 94) ⟨by omega, by omega⟩ ⟨by omega, by omega⟩ dX8_meanFar_53 rfl (fun c_53 => ?_) (fun c_53 => ?_)
    · have e6 : mrN P a f (p + 1) = mrN P a f p := if_neg c_53
      refine e_iconst dX8_meanFar_94 ?_
      refine e_iadd dX8_meanFar_95 ?_
      refine e_istore_n dX8_meanFar_96 rfl ?_
      refine e_iinc dX8_meanFar_97 rfl ?_
      refine e_goto (tgt := 35) dX8_meanFar_100 rfl ?_
      exact e_loc [(4, .int (iN (p + 1 : Nat))), (3, .int (iN (mrN P a f (p + 1)))), (2, .int (iN (f : Nat))), (0, .ref m), (1, .int (iN a))] ⟨rfl, by rw [e6]; first | rfl | exact congrArg (fun v => some (Value.int (iN v))) (Int.add_zero _), rfl, rfl, rfl, trivial⟩ (ih (p + 1) (by omega))
    · have e6 : mrN P a f (p + 1) = mrN P a f p + (((pX P p - pX P f).natAbs : Int) + ((pY P p - pY P f).natAbs : Int)) := if_pos (Decidable.of_not_not c_53)
      refine e_aload_n dX8_meanFar_56 rfl ?_
      refine e_getf fX8_17 X.obj rfl dX8_meanFar_57 ?_
      refine e_iload dX8_meanFar_60 rfl ?_
      refine e_ial X.a1 (by omega) (by omega) rfl (e4 p hp).2.1 dX8_meanFar_62 ?_
      refine e_aload_n dX8_meanFar_63 rfl ?_
      refine e_getf fX8_17 X.obj rfl dX8_meanFar_64 ?_
      refine e_iload_n dX8_meanFar_67 rfl ?_
      refine e_ial X.a1 (by omega) (by omega) rfl (e4 f hf).2.1 dX8_meanFar_68 ?_
      refine e_isub dX8_meanFar_69 ?_
      refine e_pureS qcX8_100 (S_amount (v := pX P p - pX P f) ⟨by omega, by omega⟩) rfl rfl rfl rfl dX8_meanFar_70 ?_
      refine e_aload_n dX8_meanFar_73 rfl ?_
      refine e_getf fX8_20 X.obj rfl dX8_meanFar_74 ?_
      refine e_iload dX8_meanFar_77 rfl ?_
      refine e_ial X.a2 (by omega) (by omega) rfl (e4 p hp).2.2 dX8_meanFar_79 ?_
      refine e_aload_n dX8_meanFar_80 rfl ?_
      refine e_getf fX8_20 X.obj rfl dX8_meanFar_81 ?_
      refine e_iload_n dX8_meanFar_84 rfl ?_
      refine e_ial X.a2 (by omega) (by omega) rfl (e4 f hf).2.2 dX8_meanFar_85 ?_
      refine e_isub dX8_meanFar_86 ?_
      refine e_pureS qcX8_100 (S_amount (v := pY P p - pY P f) ⟨by omega, by omega⟩) rfl rfl rfl rfl dX8_meanFar_87 ?_
      refine e_iadd dX8_meanFar_90 ?_
      refine e_goto (tgt := 95) dX8_meanFar_91 rfl ?_
      refine e_iadd dX8_meanFar_95 ?_
      refine e_istore_n dX8_meanFar_96 rfl ?_
      refine e_iinc dX8_meanFar_97 rfl ?_
      refine e_goto (tgt := 35) dX8_meanFar_100 rfl ?_
      exact e_loc [(4, .int (iN (p + 1 : Nat))), (3, .int (iN (mrN P a f (p + 1)))), (2, .int (iN (f : Nat))), (0, .ref m), (1, .int (iN a))] ⟨rfl, by rw [e6]; first | rfl | exact congrArg (fun v => some (Value.int (iN v))) (Int.add_zero _), rfl, rfl, rfl, trivial⟩ (ih (p + 1) (by omega))
set_option maxRecDepth 20000 in
theorem M_meanFar (X : mdX G sc0 ar m h0 h) (hR : mdR sc0 ar P E S b P2 E2 S2 F) {a : Int} (ra : r32 a) (hm : cntN P a P.length ≠ 0 → ∃ f : Nat, ptS P a 0 P.length 0 = (f : Int) ∧ f < P.length ∧ mrN P a f P.length = mfN (putN P a [] P.length) (putN P a [] P.length).length) (hn : 0 < (putN P a [] P.length).length → vf_n64 (mfD (putN P a [] P.length))) : Run G mX8_meanFar [.ref m, .int (iN a)] none h 0 0 (mZD G (k_meanFar P a) P E S b P2 E2 S2 F m h0) := by
  have ra1 := ra.1
  have ra2 := ra.2
  refine run_of rfl plX8 rfl ?_
  refine e_aload_n dX8_meanFar_0 rfl ?_
  refine e_iconst dX8_meanFar_1 ?_
  refine e_putf pfX8_1 X.obj rfl rfl rfl dX8_meanFar_2 ?_
  refine X.pto (q := 0) (fun h9 X9 => ?_) rfl
  replace X := X9
  clear X9
  replace hR := hR.t0 0
  have ht : uI sc0 0 0 0 = 0 := uI_s _ _ _
  generalize uI sc0 0 0 = sc at X hR ht
  refine e_aload_n dX8_meanFar_5 rfl ?_
  refine e_iload_n dX8_meanFar_6 rfl ?_
  
  by_cases c_7 : hpOK a
  · have e8 := cntN_le P a P.length
    have e9 := ord_len P a
    have e7 := hR.1.2.1
    refine e_pureV qcX8_111 X.obj rfl rfl (S_noHeap_t X ra c_7 ht) rfl rfl rfl rfl dX8_meanFar_7 ?_
    refine e_if_ne (tgt := 21) ⟨by decide, by decide⟩ dX8_meanFar_10 rfl (fun c_10 => absurd rfl c_10) (fun c_10 => ?_)
    refine e_aload_n dX8_meanFar_13 rfl ?_
    refine e_iload_n dX8_meanFar_14 rfl ?_
    refine e_pureV qcX8_122 X.obj rfl rfl (S_many X hR.1 ra) rfl rfl rfl rfl dX8_meanFar_15 ?_
    refine e_if_ne (tgt := 23) ⟨by omega, by omega⟩ dX8_meanFar_18 rfl (fun c_18 => ?_) (fun c_18 => ?_)
    · obtain ⟨f, hf1, hf2, hf3⟩ := hm (by omega)
      have hv : (FP.ddiv (FP.i2d (iN (mrN P a f P.length))) (FP.i2d (iN (cntN P a P.length : Nat)))) = mfD (putN P a [] P.length) := by rw [hf3, ← e9]
      refine e_aload_n dX8_meanFar_23 rfl ?_
      refine e_iload_n dX8_meanFar_24 rfl ?_
      refine e_iconst dX8_meanFar_25 ?_
      refine e_pureV qcX8_128 X.obj rfl rfl (S_pointAt X hR.1 ra (pl := 0) ⟨by decide, by decide⟩) rfl rfl rfl rfl dX8_meanFar_26 ?_
      rw [hf1]
      refine e_istore_n dX8_meanFar_29 rfl ?_
      refine e_iconst dX8_meanFar_30 ?_
      refine e_istore_n dX8_meanFar_31 rfl ?_
      refine e_iconst dX8_meanFar_32 ?_
      refine e_istore dX8_meanFar_33 rfl ?_
      rw [show (k_meanFar P a) = (0, (FP.ddiv (FP.i2d (iN (mrN P a f P.length))) (FP.i2d (iN (cntN P a P.length : Nat))))) from ((if_pos c_7).trans (if_neg (by omega))).trans (by rw [hv])]
      exact e_loc [(4, .int (iN (0 : Nat))), (3, .int (iN (mrN P a f 0))), (2, .int (iN (f : Nat))), (0, .ref m), (1, .int (iN a))] ⟨rfl, rfl, rfl, rfl, rfl, trivial⟩ (mf_loop8 X hR ht ra hf2 (by rw [hv]; exact hn (by omega)) _ 0 (Nat.zero_add _))
    · refine e_dconst0 dX8_meanFar_21 ?_
      refine e_dret rfl dX8_meanFar_22 (by decide) (by decide) ?_
      first | exact mzD (show (k_meanFar P a) = (1, 0) from if_neg c_7) ⟨rfl, ⟨_, rfl, fun w => absurd w (by decide)⟩, _, _, X, hR.t0 _, uI_s _ _ _⟩ | exact mzD (show (k_meanFar P a) = (0, FP.dconst0) from (if_pos c_7).trans (if_pos (by omega))) ⟨rfl, ⟨_, rfl, fun _ => rfl⟩, _, _, X, hR, ht⟩
  refine e_doesV qcX8_111 X.obj rfl rfl (S_noHeap_f X ra c_7 ht) rfl rfl rfl rfl dX8_meanFar_7 ?_
  intro v h9 q9
  obtain ⟨rfl, X⟩ := q9
  refine e_if_ne (tgt := 21) ⟨by decide, by decide⟩ dX8_meanFar_10 rfl (fun c_10 => ?_) (fun c_10 => absurd (by decide) c_10)
  refine e_dconst0 dX8_meanFar_21 ?_
  refine e_dret rfl dX8_meanFar_22 (by decide) (by decide) ?_
  first | exact mzD (show (k_meanFar P a) = (1, 0) from if_neg c_7) ⟨rfl, ⟨_, rfl, fun w => absurd w (by decide)⟩, _, _, X, hR.t0 _, uI_s _ _ _⟩ | exact mzD (show (k_meanFar P a) = (0, FP.dconst0) from (if_pos c_7).trans (if_pos (by omega))) ⟨rfl, ⟨_, rfl, fun _ => rfl⟩, _, _, X, hR, ht⟩
set_option maxRecDepth 20000 in
theorem fi_loop {sc : Nat → Int} (X : mdX G sc ar m h0 h) (hR : mdR sc ar P E S b P2 E2 S2 F) (ht : sc 0 = 0) (h3 : 0 < F.length) (hn : vf_n32 (FP.fdiv (FP.i2f (iN (da F))) (FP.i2f (iN (fiB F))))) : ∀ (n k : Nat), k + n = F.length → Ev (g_B G mX8_fills 0 0 (mZF G (FP.fdiv (FP.i2f (iN (da F))) (FP.i2f (iN (fiB F)))) P E S b P2 E2 S2 F m h0)) 0 0 none h 44 [(5, .int (iN (k : Nat))), (4, .int (iN (fiH F (k)))), (3, .int (iN (fiL F (k)))), (2, .int (iN (fiR F (k)))), (1, .int (iN F.length)), (0, .ref m)] [] := by
  obtain ⟨f1, f2, f3, f4⟩ := id hR.2.2.2.2
  have g4 : ∀ k, k < F.length → ar 5 k = pX F k ∧ ar 6 k = pY F k := fun k hk => by have := f4 k hk; rw [show 200 * 0 + k = k by omega] at this; exact this
  intro n
  induction n with
  | zero =>
    intro k hkn
    have e9 : k = F.length := by omega
    rw [e9]
    refine e_iload dX8_fills_44 rfl ?_
    refine e_iload_n dX8_fills_46 rfl ?_
    refine e_icmp_ge (tgt := 115) ⟨by omega, by omega⟩ ⟨by omega, by omega⟩ dX8_fills_47 rfl (fun c_47 => ?_) (fun c_47 => absurd (by omega) c_47)
    refine e_aload_n dX8_fills_115 rfl ?_
    refine e_iconst dX8_fills_116 ?_
    refine e_pureV qcX8_173 X.obj rfl rfl (S_doubled (f := 0) X hR.2.2.2.2 (by decide)) rfl rfl rfl rfl dX8_fills_117 ?_
    refine e_i2f dX8_fills_120 ?_
    refine e_iconst dX8_fills_121 ?_
    refine e_iload_n dX8_fills_122 rfl ?_
    refine e_aload_n dX8_fills_123 rfl ?_
    refine e_getf fX8_29 X.obj rfl dX8_fills_124 ?_
    refine e_iconst dX8_fills_127 ?_
    refine e_ial X.a5 (by omega) (by omega) rfl (g4 0 h3).1 dX8_fills_128 ?_
    refine e_isub dX8_fills_129 ?_
    refine e_imul dX8_fills_130 ?_
    refine e_iload dX8_fills_131 rfl ?_
    refine e_iload_n dX8_fills_133 rfl ?_
    refine e_isub dX8_fills_134 ?_
    refine e_imul dX8_fills_135 ?_
    refine e_i2f dX8_fills_136 ?_
    refine e_fdiv hn dX8_fills_137 ?_
    refine e_fret rfl dX8_fills_138 (by decide) (by decide) ?_
    exact ⟨rfl, rfl, _, _, X, hR, ht⟩
  | succ n ih =>
    intro k hkn
    have hk : k < F.length := by omega
    have b1 := f3 k hk
    have b2 := fi_bd f3 h3 k (by omega)
    refine e_iload dX8_fills_44 rfl ?_
    refine e_iload_n dX8_fills_46 rfl ?_
    refine e_icmp_ge (tgt := 115) ⟨by omega, by omega⟩ ⟨by omega, by omega⟩ dX8_fills_47 rfl (fun c_47 => absurd c_47 (by omega)) (fun c_47 => ?_)
    refine e_aload_n dX8_fills_50 rfl ?_
    refine e_getf fX8_29 X.obj rfl dX8_fills_51 ?_
    refine e_iload dX8_fills_54 rfl ?_
    refine e_ial X.a5 (by omega) (by omega) rfl (g4 k hk).1 dX8_fills_56 ?_
    refine e_iload_n dX8_fills_57 rfl ?_
    refine e_icmp_le (tgt := 69) ⟨by omega, by omega⟩ ⟨by omega, by omega⟩ dX8_fills_58 rfl (fun c_58 => ?_) (fun c_58 => ?_)
    · have r2 : fiR F (k + 1) = fiR F k := if_neg (by omega)
      refine e_aload_n dX8_fills_69 rfl ?_
      refine e_getf fX8_32 X.obj rfl dX8_fills_70 ?_
      refine e_iload dX8_fills_73 rfl ?_
      refine e_ial X.a6 (by omega) (by omega) rfl (g4 k hk).2 dX8_fills_75 ?_
      refine e_iload_n dX8_fills_76 rfl ?_
      refine e_icmp_ge (tgt := 88) ⟨by omega, by omega⟩ ⟨by omega, by omega⟩ dX8_fills_77 rfl (fun c_77 => ?_) (fun c_77 => ?_)
      · have r3 : fiL F (k + 1) = fiL F k := if_neg (by omega)
        refine e_aload_n dX8_fills_88 rfl ?_
        refine e_getf fX8_32 X.obj rfl dX8_fills_89 ?_
        refine e_iload dX8_fills_92 rfl ?_
        refine e_ial X.a6 (by omega) (by omega) rfl (g4 k hk).2 dX8_fills_94 ?_
        refine e_iload dX8_fills_95 rfl ?_
        refine e_icmp_le (tgt := 109) ⟨by omega, by omega⟩ ⟨by omega, by omega⟩ dX8_fills_97 rfl (fun c_97 => ?_) (fun c_97 => ?_)
        · have r4 : fiH F (k + 1) = fiH F k := if_neg (by omega)
          refine e_iinc dX8_fills_109 rfl ?_
          refine e_goto (tgt := 44) dX8_fills_112 rfl ?_
          exact e_loc [(5, .int (iN (k + 1 : Nat))), (4, .int (iN (fiH F (k + 1)))), (3, .int (iN (fiL F (k + 1)))), (2, .int (iN (fiR F (k + 1)))), (1, .int (iN F.length)), (0, .ref m)] ⟨rfl, by rw [r4]; rfl, by rw [r3]; rfl, by rw [r2]; rfl, rfl, rfl, trivial⟩ (ih (k + 1) (by omega))
        · have r4 : fiH F (k + 1) = pY F k := if_pos (by omega)
          refine e_aload_n dX8_fills_100 rfl ?_
          refine e_getf fX8_32 X.obj rfl dX8_fills_101 ?_
          refine e_iload dX8_fills_104 rfl ?_
          refine e_ial X.a6 (by omega) (by omega) rfl (g4 k hk).2 dX8_fills_106 ?_
          refine e_istore dX8_fills_107 rfl ?_
          refine e_iinc dX8_fills_109 rfl ?_
          refine e_goto (tgt := 44) dX8_fills_112 rfl ?_
          exact e_loc [(5, .int (iN (k + 1 : Nat))), (4, .int (iN (fiH F (k + 1)))), (3, .int (iN (fiL F (k + 1)))), (2, .int (iN (fiR F (k + 1)))), (1, .int (iN F.length)), (0, .ref m)] ⟨rfl, by rw [r4]; rfl, by rw [r3]; rfl, by rw [r2]; rfl, rfl, rfl, trivial⟩ (ih (k + 1) (by omega))
      · have r3 : fiL F (k + 1) = pY F k := if_pos (by omega)
        refine e_aload_n dX8_fills_80 rfl ?_
        refine e_getf fX8_32 X.obj rfl dX8_fills_81 ?_
        refine e_iload dX8_fills_84 rfl ?_
        refine e_ial X.a6 (by omega) (by omega) rfl (g4 k hk).2 dX8_fills_86 ?_
        refine e_istore_n dX8_fills_87 rfl ?_
        refine e_aload_n dX8_fills_88 rfl ?_
        refine e_getf fX8_32 X.obj rfl dX8_fills_89 ?_
        refine e_iload dX8_fills_92 rfl ?_
        refine e_ial X.a6 (by omega) (by omega) rfl (g4 k hk).2 dX8_fills_94 ?_
        refine e_iload dX8_fills_95 rfl ?_
        refine e_icmp_le (tgt := 109) ⟨by omega, by omega⟩ ⟨by omega, by omega⟩ dX8_fills_97 rfl (fun c_97 => ?_) (fun c_97 => ?_)
        · have r4 : fiH F (k + 1) = fiH F k := if_neg (by omega)
          refine e_iinc dX8_fills_109 rfl ?_
          refine e_goto (tgt := 44) dX8_fills_112 rfl ?_
          exact e_loc [(5, .int (iN (k + 1 : Nat))), (4, .int (iN (fiH F (k + 1)))), (3, .int (iN (fiL F (k + 1)))), (2, .int (iN (fiR F (k + 1)))), (1, .int (iN F.length)), (0, .ref m)] ⟨rfl, by rw [r4]; rfl, by rw [r3]; rfl, by rw [r2]; rfl, rfl, rfl, trivial⟩ (ih (k + 1) (by omega))
        · have r4 : fiH F (k + 1) = pY F k := if_pos (by omega)
          refine e_aload_n dX8_fills_100 rfl ?_
          refine e_getf fX8_32 X.obj rfl dX8_fills_101 ?_
          refine e_iload dX8_fills_104 rfl ?_
          refine e_ial X.a6 (by omega) (by omega) rfl (g4 k hk).2 dX8_fills_106 ?_
          refine e_istore dX8_fills_107 rfl ?_
          refine e_iinc dX8_fills_109 rfl ?_
          refine e_goto (tgt := 44) dX8_fills_112 rfl ?_
          exact e_loc [(5, .int (iN (k + 1 : Nat))), (4, .int (iN (fiH F (k + 1)))), (3, .int (iN (fiL F (k + 1)))), (2, .int (iN (fiR F (k + 1)))), (1, .int (iN F.length)), (0, .ref m)] ⟨rfl, by rw [r4]; rfl, by rw [r3]; rfl, by rw [r2]; rfl, rfl, rfl, trivial⟩ (ih (k + 1) (by omega))
    · have r2 : fiR F (k + 1) = pX F k := if_pos (by omega)
      refine e_aload_n dX8_fills_61 rfl ?_
      refine e_getf fX8_29 X.obj rfl dX8_fills_62 ?_
      refine e_iload dX8_fills_65 rfl ?_
      refine e_ial X.a5 (by omega) (by omega) rfl (g4 k hk).1 dX8_fills_67 ?_
      refine e_istore_n dX8_fills_68 rfl ?_
      refine e_aload_n dX8_fills_69 rfl ?_
      refine e_getf fX8_32 X.obj rfl dX8_fills_70 ?_
      refine e_iload dX8_fills_73 rfl ?_
      refine e_ial X.a6 (by omega) (by omega) rfl (g4 k hk).2 dX8_fills_75 ?_
      refine e_iload_n dX8_fills_76 rfl ?_
      refine e_icmp_ge (tgt := 88) ⟨by omega, by omega⟩ ⟨by omega, by omega⟩ dX8_fills_77 rfl (fun c_77 => ?_) (fun c_77 => ?_)
      · have r3 : fiL F (k + 1) = fiL F k := if_neg (by omega)
        refine e_aload_n dX8_fills_88 rfl ?_
        refine e_getf fX8_32 X.obj rfl dX8_fills_89 ?_
        refine e_iload dX8_fills_92 rfl ?_
        refine e_ial X.a6 (by omega) (by omega) rfl (g4 k hk).2 dX8_fills_94 ?_
        refine e_iload dX8_fills_95 rfl ?_
        refine e_icmp_le (tgt := 109) ⟨by omega, by omega⟩ ⟨by omega, by omega⟩ dX8_fills_97 rfl (fun c_97 => ?_) (fun c_97 => ?_)
        · have r4 : fiH F (k + 1) = fiH F k := if_neg (by omega)
          refine e_iinc dX8_fills_109 rfl ?_
          refine e_goto (tgt := 44) dX8_fills_112 rfl ?_
          exact e_loc [(5, .int (iN (k + 1 : Nat))), (4, .int (iN (fiH F (k + 1)))), (3, .int (iN (fiL F (k + 1)))), (2, .int (iN (fiR F (k + 1)))), (1, .int (iN F.length)), (0, .ref m)] ⟨rfl, by rw [r4]; rfl, by rw [r3]; rfl, by rw [r2]; rfl, rfl, rfl, trivial⟩ (ih (k + 1) (by omega))
        · have r4 : fiH F (k + 1) = pY F k := if_pos (by omega)
          refine e_aload_n dX8_fills_100 rfl ?_
          refine e_getf fX8_32 X.obj rfl dX8_fills_101 ?_
          refine e_iload dX8_fills_104 rfl ?_
          refine e_ial X.a6 (by omega) (by omega) rfl (g4 k hk).2 dX8_fills_106 ?_
          refine e_istore dX8_fills_107 rfl ?_
          refine e_iinc dX8_fills_109 rfl ?_
          refine e_goto (tgt := 44) dX8_fills_112 rfl ?_
          exact e_loc [(5, .int (iN (k + 1 : Nat))), (4, .int (iN (fiH F (k + 1)))), (3, .int (iN (fiL F (k + 1)))), (2, .int (iN (fiR F (k + 1)))), (1, .int (iN F.length)), (0, .ref m)] ⟨rfl, by rw [r4]; rfl, by rw [r3]; rfl, by rw [r2]; rfl, rfl, rfl, trivial⟩ (ih (k + 1) (by omega))
      · have r3 : fiL F (k + 1) = pY F k := if_pos (by omega)
        refine e_aload_n dX8_fills_80 rfl ?_
        refine e_getf fX8_32 X.obj rfl dX8_fills_81 ?_
        refine e_iload dX8_fills_84 rfl ?_
        refine e_ial X.a6 (by omega) (by omega) rfl (g4 k hk).2 dX8_fills_86 ?_
        refine e_istore_n dX8_fills_87 rfl ?_
        refine e_aload_n dX8_fills_88 rfl ?_
        refine e_getf fX8_32 X.obj rfl dX8_fills_89 ?_
        refine e_iload dX8_fills_92 rfl ?_
        refine e_ial X.a6 (by omega) (by omega) rfl (g4 k hk).2 dX8_fills_94 ?_
        refine e_iload dX8_fills_95 rfl ?_
        refine e_icmp_le (tgt := 109) ⟨by omega, by omega⟩ ⟨by omega, by omega⟩ dX8_fills_97 rfl (fun c_97 => ?_) (fun c_97 => ?_)
        · have r4 : fiH F (k + 1) = fiH F k := if_neg (by omega)
          refine e_iinc dX8_fills_109 rfl ?_
          refine e_goto (tgt := 44) dX8_fills_112 rfl ?_
          exact e_loc [(5, .int (iN (k + 1 : Nat))), (4, .int (iN (fiH F (k + 1)))), (3, .int (iN (fiL F (k + 1)))), (2, .int (iN (fiR F (k + 1)))), (1, .int (iN F.length)), (0, .ref m)] ⟨rfl, by rw [r4]; rfl, by rw [r3]; rfl, by rw [r2]; rfl, rfl, rfl, trivial⟩ (ih (k + 1) (by omega))
        · have r4 : fiH F (k + 1) = pY F k := if_pos (by omega)
          refine e_aload_n dX8_fills_100 rfl ?_
          refine e_getf fX8_32 X.obj rfl dX8_fills_101 ?_
          refine e_iload dX8_fills_104 rfl ?_
          refine e_ial X.a6 (by omega) (by omega) rfl (g4 k hk).2 dX8_fills_106 ?_
          refine e_istore dX8_fills_107 rfl ?_
          refine e_iinc dX8_fills_109 rfl ?_
          refine e_goto (tgt := 44) dX8_fills_112 rfl ?_
          exact e_loc [(5, .int (iN (k + 1 : Nat))), (4, .int (iN (fiH F (k + 1)))), (3, .int (iN (fiL F (k + 1)))), (2, .int (iN (fiR F (k + 1)))), (1, .int (iN F.length)), (0, .ref m)] ⟨rfl, by rw [r4]; rfl, by rw [r3]; rfl, by rw [r2]; rfl, rfl, rfl, trivial⟩ (ih (k + 1) (by omega))
set_option maxRecDepth 20000 in
theorem M_fills (X : mdX G sc0 ar m h0 h) (hR : mdR sc0 ar P E S b P2 E2 S2 F) (hm : k_fills F = if F.length < 3 then FP.fconst0 else (FP.fdiv (FP.i2f (iN (da F))) (FP.i2f (iN (fiB F))))) (hn : ¬ F.length < 3 → vf_n32 (FP.fdiv (FP.i2f (iN (da F))) (FP.i2f (iN (fiB F))))) : Run G mX8_fills [.ref m] none h 0 0 (mZF G (k_fills F) P E S b P2 E2 S2 F m h0) := by
  refine run_of rfl plX8 rfl ?_
  refine e_aload_n dX8_fills_0 rfl ?_
  refine e_iconst dX8_fills_1 ?_
  refine e_putf pfX8_1 X.obj rfl rfl rfl dX8_fills_2 ?_
  refine X.pto (q := 0) (fun h9 X9 => ?_) rfl
  replace X := X9
  clear X9
  replace hR := hR.t0 0
  have ht : uI sc0 0 0 0 = 0 := uI_s _ _ _
  generalize uI sc0 0 0 = sc at X hR ht
  obtain ⟨f1, f2, f3, f4⟩ := id hR.2.2.2.2
  have g4 : ∀ k, k < F.length → ar 5 k = pX F k ∧ ar 6 k = pY F k := fun k hk => by have := f4 k hk; rw [show 200 * 0 + k = k by omega] at this; exact this
  refine e_aload_n dX8_fills_5 rfl ?_
  refine e_getf fX8_35 X.obj rfl dX8_fills_6 ?_
  refine e_iconst dX8_fills_9 ?_
  refine e_ial X.a7 (by omega) (by omega) rfl f1 dX8_fills_10 ?_
  refine e_istore_n dX8_fills_11 rfl ?_
  refine e_iload_n dX8_fills_12 rfl ?_
  refine e_iconst dX8_fills_13 ?_
  refine e_icmp_ge (tgt := 19) ⟨by omega, by omega⟩ ⟨by omega, by omega⟩ dX8_fills_14 rfl (fun c_14 => ?_) (fun c_14 => ?_)
  · refine e_aload_n dX8_fills_19 rfl ?_
    refine e_getf fX8_29 X.obj rfl dX8_fills_20 ?_
    refine e_iconst dX8_fills_23 ?_
    refine e_ial X.a5 (by omega) (by omega) rfl (g4 0 (by omega)).1 dX8_fills_24 ?_
    refine e_istore_n dX8_fills_25 rfl ?_
    refine e_aload_n dX8_fills_26 rfl ?_
    refine e_getf fX8_32 X.obj rfl dX8_fills_27 ?_
    refine e_iconst dX8_fills_30 ?_
    refine e_ial X.a6 (by omega) (by omega) rfl (g4 0 (by omega)).2 dX8_fills_31 ?_
    refine e_istore_n dX8_fills_32 rfl ?_
    refine e_aload_n dX8_fills_33 rfl ?_
    refine e_getf fX8_32 X.obj rfl dX8_fills_34 ?_
    refine e_iconst dX8_fills_37 ?_
    refine e_ial X.a6 (by omega) (by omega) rfl (g4 0 (by omega)).2 dX8_fills_38 ?_
    refine e_istore dX8_fills_39 rfl ?_
    refine e_iconst dX8_fills_41 ?_
    refine e_istore dX8_fills_42 rfl ?_
    rw [show (k_fills F) = (FP.fdiv (FP.i2f (iN (da F))) (FP.i2f (iN (fiB F)))) from hm.trans (if_neg (by omega))]
    exact e_loc [(5, .int (iN (0 : Nat))), (4, .int (iN (fiH F (0)))), (3, .int (iN (fiL F (0)))), (2, .int (iN (fiR F (0)))), (1, .int (iN F.length)), (0, .ref m)] ⟨rfl, rfl, rfl, rfl, rfl, rfl, trivial⟩ (fi_loop X hR ht (by omega) (hn (by omega)) _ 0 (Nat.zero_add _))
  · refine e_fconst0 dX8_fills_17 ?_
    refine e_fret rfl dX8_fills_18 (by decide) (by decide) ?_
    rw [show (k_fills F) = FP.fconst0 from hm.trans (if_pos (by omega))]
    exact ⟨rfl, rfl, _, _, X, hR, ht⟩
set_option maxRecDepth 20000 in
theorem ap_inner {A B : PL} (hA : mdH ar 1 A) (hB : mdH ar 2 B) (n1 : ¬ isI A B) {k : Nat} (hk : k < A.length) (kk : ∀ sc1 h, mdX G sc1 ar m h0 h → mdR sc1 ar P E S b P2 E2 S2 F → sc1 0 = 0 → (∀ o, o < B.length → ¬ tou (pX A k) (pY A k) (nX A k) (nY A k) (pX B o) (pY B o) (nX B o) (nY B o)) → Ev (g_B G mX8_apart 0 0 (mZ G ((0, bC (apM A B)) : Nat × Int) P E S b P2 E2 S2 F m h0)) 0 0 none h 199 [(5, .int (iN (k : Nat))), (4, .int (iN B.length)), (3, .int (iN A.length)), (0, .ref m)] []) : ∀ (n o : Nat) (sc1 : Nat → Int) (h : g_hp), mdX G sc1 ar m h0 h → mdR sc1 ar P E S b P2 E2 S2 F → sc1 0 = 0 → (∀ q, q < o → ¬ tou (pX A k) (pY A k) (nX A k) (nY A k) (pX B q) (pY B q) (nX B q) (nY B q)) → o + n = B.length → Ev (g_B G mX8_apart 0 0 (mZ G ((0, bC (apM A B)) : Nat × Int) P E S b P2 E2 S2 F m h0)) 0 0 none h 63 [(6, .int (iN (o : Nat))), (5, .int (iN (k : Nat))), (4, .int (iN B.length)), (3, .int (iN A.length)), (0, .ref m)] [] := by
  obtain ⟨a1, a2, a3, a4⟩ := hA
  obtain ⟨d1, d2, d3, d4⟩ := hB
  have hk2 := nxt_lt hk
  have x1 := a3 k hk
  have x2 := a3 _ hk2
  intro n
  induction n with
  | zero =>
    intro o sc1 h X hR ht hno hon
    have e9 : o = B.length := by omega
    refine e_iload dX8_apart_63 rfl ?_
    refine e_iload dX8_apart_65 rfl ?_
    refine e_icmp_ge (tgt := 199) ⟨by omega, by omega⟩ ⟨by omega, by omega⟩ dX8_apart_67 rfl (fun c_67 => ?_) (fun c_67 => absurd (by omega) c_67)
    exact e_loc [(5, .int (iN (k : Nat))), (4, .int (iN B.length)), (3, .int (iN A.length)), (0, .ref m)] ⟨rfl, rfl, rfl, rfl, trivial⟩ (kk _ _ X hR ht (fun q hq => hno q (by omega)))
  | succ n ih =>
    intro o sc1 h X hR ht hno hon
    have ho : o < B.length := by omega
    have ho2 := nxt_lt ho
    have x3 := d3 o ho
    have x4 := d3 _ ho2
    letI : Decidable (tou (pX A k) (pY A k) (nX A k) (nY A k) (pX B o) (pY B o) (nX B o) (nY B o)) := Classical.propDecidable _
    refine e_iload dX8_apart_63 rfl ?_
    refine e_iload dX8_apart_65 rfl ?_
    refine e_icmp_ge (tgt := 199) ⟨by omega, by omega⟩ ⟨by omega, by omega⟩ dX8_apart_67 rfl (fun c_67 => absurd c_67 (by omega)) (fun c_67 => ?_)
    refine e_aload_n dX8_apart_70 rfl ?_
    refine e_aload_n dX8_apart_71 rfl ?_
    refine e_getf fX8_29 X.obj rfl dX8_apart_72 ?_
    refine e_sipush dX8_apart_75 (by decide) ?_
    refine e_iload dX8_apart_78 rfl ?_
    refine e_iadd dX8_apart_80 ?_
    refine e_ial X.a5 (by omega) (by omega) rfl ((congrArg _ (show (200 + ((k : Nat) : Int)).toNat = 200 * 1 + k by omega)).trans (a4 k hk).1) dX8_apart_81 ?_
    refine e_aload_n dX8_apart_82 rfl ?_
    refine e_getf fX8_32 X.obj rfl dX8_apart_83 ?_
    refine e_sipush dX8_apart_86 (by decide) ?_
    refine e_iload dX8_apart_89 rfl ?_
    refine e_iadd dX8_apart_91 ?_
    refine e_ial X.a6 (by omega) (by omega) rfl ((congrArg _ (show (200 + ((k : Nat) : Int)).toNat = 200 * 1 + k by omega)).trans (a4 k hk).2) dX8_apart_92 ?_
    refine e_aload_n dX8_apart_93 rfl ?_
    refine e_getf fX8_29 X.obj rfl dX8_apart_94 ?_
    refine e_sipush dX8_apart_97 (by decide) ?_
    refine e_iload dX8_apart_100 rfl ?_
    refine e_iconst dX8_apart_102 ?_
    refine e_iadd dX8_apart_103 ?_
    refine e_iload_n dX8_apart_104 rfl ?_
    refine e_irem ⟨by omega, by omega⟩ ⟨by omega, by omega⟩ (by omega) dX8_apart_105 ?_
    rw [tmod_nxt hk]
    refine e_iadd dX8_apart_106 ?_
    refine e_ial X.a5 (by omega) (by omega) rfl ((congrArg _ (show (200 + (((nxt A.length k) : Nat) : Int)).toNat = 200 * 1 + (nxt A.length k) by omega)).trans (a4 (nxt A.length k) hk2).1) dX8_apart_107 ?_
    refine e_aload_n dX8_apart_108 rfl ?_
    refine e_getf fX8_32 X.obj rfl dX8_apart_109 ?_
    refine e_sipush dX8_apart_112 (by decide) ?_
    refine e_iload dX8_apart_115 rfl ?_
    refine e_iconst dX8_apart_117 ?_
    refine e_iadd dX8_apart_118 ?_
    refine e_iload_n dX8_apart_119 rfl ?_
    refine e_irem ⟨by omega, by omega⟩ ⟨by omega, by omega⟩ (by omega) dX8_apart_120 ?_
    rw [tmod_nxt hk]
    refine e_iadd dX8_apart_121 ?_
    refine e_ial X.a6 (by omega) (by omega) rfl ((congrArg _ (show (200 + (((nxt A.length k) : Nat) : Int)).toNat = 200 * 1 + (nxt A.length k) by omega)).trans (a4 (nxt A.length k) hk2).2) dX8_apart_122 ?_
    refine e_doesV qcX8_229 X.obj rfl rfl (S_takesFirst X) rfl rfl rfl rfl dX8_apart_123 ?_
    intro v h9 q9
    obtain ⟨rfl, X⟩ := q9
    refine e_aload_n dX8_apart_126 rfl ?_
    refine e_aload_n dX8_apart_127 rfl ?_
    refine e_getf fX8_29 X.obj rfl dX8_apart_128 ?_
    refine e_sipush dX8_apart_131 (by decide) ?_
    refine e_iload dX8_apart_134 rfl ?_
    refine e_iadd dX8_apart_136 ?_
    refine e_ial X.a5 (by omega) (by omega) rfl ((congrArg _ (show (400 + ((o : Nat) : Int)).toNat = 200 * 2 + o by omega)).trans (d4 o ho).1) dX8_apart_137 ?_
    refine e_aload_n dX8_apart_138 rfl ?_
    refine e_getf fX8_32 X.obj rfl dX8_apart_139 ?_
    refine e_sipush dX8_apart_142 (by decide) ?_
    refine e_iload dX8_apart_145 rfl ?_
    refine e_iadd dX8_apart_147 ?_
    refine e_ial X.a6 (by omega) (by omega) rfl ((congrArg _ (show (400 + ((o : Nat) : Int)).toNat = 200 * 2 + o by omega)).trans (d4 o ho).2) dX8_apart_148 ?_
    refine e_aload_n dX8_apart_149 rfl ?_
    refine e_getf fX8_29 X.obj rfl dX8_apart_150 ?_
    refine e_sipush dX8_apart_153 (by decide) ?_
    refine e_iload dX8_apart_156 rfl ?_
    refine e_iconst dX8_apart_158 ?_
    refine e_iadd dX8_apart_159 ?_
    refine e_iload dX8_apart_160 rfl ?_
    refine e_irem ⟨by omega, by omega⟩ ⟨by omega, by omega⟩ (by omega) dX8_apart_162 ?_
    rw [tmod_nxt ho]
    refine e_iadd dX8_apart_163 ?_
    refine e_ial X.a5 (by omega) (by omega) rfl ((congrArg _ (show (400 + (((nxt B.length o) : Nat) : Int)).toNat = 200 * 2 + (nxt B.length o) by omega)).trans (d4 (nxt B.length o) ho2).1) dX8_apart_164 ?_
    refine e_aload_n dX8_apart_165 rfl ?_
    refine e_getf fX8_32 X.obj rfl dX8_apart_166 ?_
    refine e_sipush dX8_apart_169 (by decide) ?_
    refine e_iload dX8_apart_172 rfl ?_
    refine e_iconst dX8_apart_174 ?_
    refine e_iadd dX8_apart_175 ?_
    refine e_iload dX8_apart_176 rfl ?_
    refine e_irem ⟨by omega, by omega⟩ ⟨by omega, by omega⟩ (by omega) dX8_apart_178 ?_
    rw [tmod_nxt ho]
    refine e_iadd dX8_apart_179 ?_
    refine e_ial X.a6 (by omega) (by omega) rfl ((congrArg _ (show (400 + (((nxt B.length o) : Nat) : Int)).toNat = 200 * 2 + (nxt B.length o) by omega)).trans (d4 (nxt B.length o) ho2).2) dX8_apart_180 ?_
    refine e_doesV qcX8_233 X.obj rfl rfl (S_takesSecond X) rfl rfl rfl rfl dX8_apart_181 ?_
    intro v h9 q9
    obtain ⟨rfl, X⟩ := q9
    have h8 : st8 (uI (uI (uI (uI (uI (uI (uI (uI sc1 17 (pX A k)) 18 (pY A k)) 19 (nX A k)) 20 (nY A k)) 21 (pX B o)) 22 (pY B o)) 23 (nX B o)) 24 (nY B o)) (pX A k) (pY A k) (nX A k) (nY A k) (pX B o) (pY B o) (nX B o) (nY B o) := ⟨⟨rfl, rfl, rfl, rfl, rfl, rfl, rfl, rfl⟩, ⟨⟨by omega, by omega⟩, ⟨by omega, by omega⟩, ⟨by show _ ≤ pX _ _; omega, by show pX _ _ ≤ _; omega⟩, by show _ ≤ pY _ _; omega, by show pY _ _ ≤ _; omega⟩, ⟨by omega, by omega⟩, ⟨by omega, by omega⟩, ⟨by show _ ≤ pX _ _; omega, by show pX _ _ ≤ _; omega⟩, by show _ ≤ pY _ _; omega, by show pY _ _ ≤ _; omega⟩
    replace hR : mdR (uI (uI (uI (uI (uI (uI (uI (uI sc1 17 (pX A k)) 18 (pY A k)) 19 (nX A k)) 20 (nY A k)) 21 (pX B o)) 22 (pY B o)) 23 (nX B o)) 24 (nY B o)) ar P E S b P2 E2 S2 F := hR.to ((((((((agr.rf.pk (by decide)).pk (by decide)).pk (by decide)).pk (by decide)).pk (by decide)).pk (by decide)).pk (by decide)).pk (by decide)) hR.2.2.2.2
    replace ht : (uI (uI (uI (uI (uI (uI (uI (uI sc1 17 (pX A k)) 18 (pY A k)) 19 (nX A k)) 20 (nY A k)) 21 (pX B o)) 22 (pY B o)) 23 (nX B o)) 24 (nY B o)) 0 = 0 := ht
    generalize (uI (uI (uI (uI (uI (uI (uI (uI sc1 17 (pX A k)) 18 (pY A k)) 19 (nX A k)) 20 (nY A k)) 21 (pX B o)) 22 (pY B o)) 23 (nX B o)) 24 (nY B o)) = sc2 at X hR ht h8
    refine e_aload_n dX8_apart_184 rfl ?_
    refine e_pureV qcX8_236 X.obj rfl rfl (S_doTouch X h8) rfl rfl rfl rfl dX8_apart_185 ?_
    refine e_ifP_eq (tgt := 193) dX8_apart_188 rfl (fun c_188 => ?_) (fun c_188 => ?_)
    · refine e_iinc dX8_apart_193 rfl ?_
      refine e_goto (tgt := 63) dX8_apart_196 rfl ?_
      exact e_loc [(6, .int (iN (o + 1 : Nat))), (5, .int (iN (k : Nat))), (4, .int (iN B.length)), (3, .int (iN A.length)), (0, .ref m)] ⟨rfl, rfl, rfl, rfl, rfl, trivial⟩ (ih (o + 1) _ _ X hR ht (fun q hq => if w : q < o then hno q w else by rw [show q = o by omega]; exact c_188) (by omega))
    · refine e_iconst dX8_apart_191 ?_
      refine e_zret rfl (by first | exact Or.inl rfl | exact Or.inr rfl | exact bP_01 _) dX8_apart_192 (by decide) (by decide) ?_
      exact mz (show ((0 : Nat), bC (apM A B)) = (0, 0) from congrArg (fun v => ((0 : Nat), v)) (bC_f (fun w => w.2.2 k hk o ho c_188))) ⟨rfl, rfl, _, _, X, hR, ht⟩
set_option maxRecDepth 20000 in
theorem ap_outer {A B : PL} (hA : mdH ar 1 A) (hB : mdH ar 2 B) (n1 : ¬ isI A B) (n2 : ¬ isI B A) : ∀ (n k : Nat) (sc1 : Nat → Int) (h : g_hp), mdX G sc1 ar m h0 h → mdR sc1 ar P E S b P2 E2 S2 F → sc1 0 = 0 → (∀ q, q < k → ∀ o, o < B.length → ¬ tou (pX A q) (pY A q) (nX A q) (nY A q) (pX B o) (pY B o) (nX B o) (nY B o)) → k + n = A.length → Ev (g_B G mX8_apart 0 0 (mZ G ((0, bC (apM A B)) : Nat × Int) P E S b P2 E2 S2 F m h0)) 0 0 none h 54 [(5, .int (iN (k : Nat))), (4, .int (iN B.length)), (3, .int (iN A.length)), (0, .ref m)] [] := by
  have a2 := hA.2.1
  have d2 := hB.2.1
  intro n
  induction n with
  | zero =>
    intro k sc1 h X hR ht hno hkn
    have e9 : k = A.length := by omega
    refine e_iload dX8_apart_54 rfl ?_
    refine e_iload_n dX8_apart_56 rfl ?_
    refine e_icmp_ge (tgt := 205) ⟨by omega, by omega⟩ ⟨by omega, by omega⟩ dX8_apart_57 rfl (fun c_57 => ?_) (fun c_57 => absurd (by omega) c_57)
    refine e_iconst dX8_apart_205 ?_
    refine e_zret rfl (by first | exact Or.inl rfl | exact Or.inr rfl | exact bP_01 _) dX8_apart_206 (by decide) (by decide) ?_
    exact mz (show ((0 : Nat), bC (apM A B)) = (0, 1) from congrArg (fun v => ((0 : Nat), v)) (bC_t ⟨n1, n2, fun q hq => hno q (by omega)⟩)) ⟨rfl, rfl, _, _, X, hR, ht⟩
  | succ n ih =>
    intro k sc1 h X hR ht hno hkn
    have hk : k < A.length := by omega
    refine e_iload dX8_apart_54 rfl ?_
    refine e_iload_n dX8_apart_56 rfl ?_
    refine e_icmp_ge (tgt := 205) ⟨by omega, by omega⟩ ⟨by omega, by omega⟩ dX8_apart_57 rfl (fun c_57 => absurd c_57 (by omega)) (fun c_57 => ?_)
    refine e_iconst dX8_apart_60 ?_
    refine e_istore dX8_apart_61 rfl ?_
    exact e_loc [(6, .int (iN (0 : Nat))), (5, .int (iN (k : Nat))), (4, .int (iN B.length)), (3, .int (iN A.length)), (0, .ref m)] ⟨rfl, rfl, rfl, rfl, rfl, trivial⟩ (ap_inner hA hB n1 hk (fun sc1 h X hR ht hB2 => by
      refine e_iinc dX8_apart_199 rfl ?_
      refine e_goto (tgt := 54) dX8_apart_202 rfl ?_
      exact e_loc [(5, .int (iN (k + 1 : Nat))), (4, .int (iN B.length)), (3, .int (iN A.length)), (0, .ref m)] ⟨rfl, rfl, rfl, rfl, trivial⟩ (ih (k + 1) _ _ X hR ht (fun q hq => if w : q < k then hno q w else by rw [show q = k by omega]; exact hB2) (by omega))) _ 0 _ _ X hR ht (fun q hq => absurd hq (Nat.not_lt_zero _)) (Nat.zero_add _))
set_option maxRecDepth 20000 in
theorem M_apart (X : mdX G sc0 ar m h0 h) (hR : mdR sc0 ar P E S b P2 E2 S2 F) {a : Int} (ra : r32 a) {b1 : Int} (rb1 : r32 b1) (hm1 : ∀ v : Int, cntN P v P.length ≠ 0 → gwH (lhN P v P.length) (wrapN 61 (putN P v [] P.length))) (hm2 : fl2 P a b1 → (apM (wrapN 61 (putN P a [] P.length)) (wrapN 61 (putN P b1 [] P.length)) ↔ ¬ tch (wrapN 61 (putN P a [] P.length)) (wrapN 61 (putN P b1 [] P.length)))) : Run G mX8_apart [.ref m, .int (iN a), .int (iN b1)] none h 0 0 (mZ G (k_apart P a b1) P E S b P2 E2 S2 F m h0) := by
  refine run_of rfl plX8 rfl ?_
  refine e_aload_n dX8_apart_0 rfl ?_
  refine e_iconst dX8_apart_1 ?_
  refine e_putf pfX8_1 X.obj rfl rfl rfl dX8_apart_2 ?_
  refine X.pto (q := 0) (fun h9 X9 => ?_) rfl
  replace X := X9
  clear X9
  replace hR := hR.t0 0
  have ht : uI sc0 0 0 0 = 0 := uI_s _ _ _
  generalize uI sc0 0 0 = sc at X hR ht
  refine e_aload_n dX8_apart_5 rfl ?_
  refine e_iload_n dX8_apart_6 rfl ?_
  refine e_iload_n dX8_apart_7 rfl ?_
  
  by_cases c_1 : hp2 a b1
  · by_cases c_2 : fl2 P a b1
    · refine e_pureV qcX8_159 X.obj rfl rfl (S_noHeaps_t X hR.1 ra rb1 c_1 c_2 ht) rfl rfl rfl rfl dX8_apart_8 ?_
      refine e_if_eq (tgt := 16) ⟨by decide, by decide⟩ dX8_apart_11 rfl (fun c_11 => ?_) (fun c_11 => absurd rfl c_11)
      refine e_aload_n dX8_apart_16 rfl ?_
      refine e_iconst dX8_apart_17 ?_
      refine e_iload_n dX8_apart_18 rfl ?_
      obtain ⟨n1, hn1, hE1⟩ := hm1 a c_2.1
      obtain ⟨n2, hn2, hE2⟩ := hm1 b1 c_2.2
      refine e_doesV qcX8_156 X.obj rfl rfl (S_hullOfHeap X hR.1 ra (by decide) hn1) rfl rfl rfl rfl dX8_apart_19 ?_
      intro v h9 q9
      obtain ⟨rfl, sc1, ar1, X, hH1, hA1, hO1⟩ := q9
      have hL1 := (gwL_len (lhN P a P.length) n1).symm.trans hE1.1
      replace hR := hR.to (hA1.wk (by decide) (by decide)) (hO1 0 F (by decide) (by decide) hR.2.2.2.2)
      replace ht := (hA1.1 0 (by decide)).trans ht
      have hG1 := hH1.ceq hE1
      refine e_istore_n dX8_apart_22 rfl ?_
      refine e_aload_n dX8_apart_23 rfl ?_
      refine e_iconst dX8_apart_24 ?_
      refine e_iload_n dX8_apart_25 rfl ?_
      refine e_doesV qcX8_156 X.obj rfl rfl (S_hullOfHeap X hR.1 rb1 (by decide) hn2) rfl rfl rfl rfl dX8_apart_26 ?_
      intro v h9 q9
      obtain ⟨rfl, sc2, ar2, X, hH2, hA2, hO2⟩ := q9
      have hL2 := (gwL_len (lhN P b1 P.length) n2).symm.trans hE2.1
      replace hR := hR.to (hA2.wk (by decide) (by decide)) (hO2 0 F (by decide) (by decide) hR.2.2.2.2)
      replace ht := (hA2.1 0 (by decide)).trans ht
      have hG2 := hH2.ceq hE2
      replace hG1 := hO2 1 _ (by decide) (by decide) hG1
      letI : Decidable (isI (wrapN 61 (putN P a [] P.length)) (wrapN 61 (putN P b1 [] P.length))) := Classical.propDecidable _
      letI : Decidable (isI (wrapN 61 (putN P b1 [] P.length)) (wrapN 61 (putN P a [] P.length))) := Classical.propDecidable _
      refine e_istore dX8_apart_29 rfl ?_
      refine e_aload_n dX8_apart_31 rfl ?_
      refine e_iconst dX8_apart_32 ?_
      refine e_iconst dX8_apart_33 ?_
      refine e_pureV qcX8_310 X.obj rfl rfl (S_isIn (f := 1) (g := 2) X hG1 (by decide) hG2 (by decide)) rfl rfl rfl rfl dX8_apart_34 ?_
      refine e_ifP_ne (tgt := 49) dX8_apart_37 rfl (fun c_37 => ?_) (fun c_37 => ?_)
      · have e5 : (k_apart P a b1) = (0, bC (apM (wrapN 61 (putN P a [] P.length)) (wrapN 61 (putN P b1 [] P.length)))) := ((if_pos c_1).trans (if_pos c_2)).trans (congrArg (fun v => ((0 : Nat), v)) (bC_c (hm2 c_2)).symm)
        have e6 : bC (apM (wrapN 61 (putN P a [] P.length)) (wrapN 61 (putN P b1 [] P.length))) = 0 := bC_f (fun w => w.1 c_37)
        refine e_iconst dX8_apart_49 ?_
        refine e_zret rfl (by first | exact Or.inl rfl | exact Or.inr rfl | exact bP_01 _) dX8_apart_50 (by decide) (by decide) ?_
        exact mz (e5.trans (congrArg (fun v => ((0 : Nat), v)) e6)) ⟨rfl, rfl, _, _, X, hR, ht⟩
      · refine e_aload_n dX8_apart_40 rfl ?_
        refine e_iconst dX8_apart_41 ?_
        refine e_iconst dX8_apart_42 ?_
        refine e_pureV qcX8_310 X.obj rfl rfl (S_isIn (f := 2) (g := 1) X hG2 (by decide) hG1 (by decide)) rfl rfl rfl rfl dX8_apart_43 ?_
        refine e_ifP_eq (tgt := 51) dX8_apart_46 rfl (fun c_46 => ?_) (fun c_46 => ?_)
        · have e5 : (k_apart P a b1) = (0, bC (apM (wrapN 61 (putN P a [] P.length)) (wrapN 61 (putN P b1 [] P.length)))) := ((if_pos c_1).trans (if_pos c_2)).trans (congrArg (fun v => ((0 : Nat), v)) (bC_c (hm2 c_2)).symm)
          refine e_iconst dX8_apart_51 ?_
          refine e_istore dX8_apart_52 rfl ?_
          rw [e5]
          exact e_loc [(5, .int (iN (0 : Nat))), (4, .int (iN (wrapN 61 (putN P b1 [] P.length)).length)), (3, .int (iN (wrapN 61 (putN P a [] P.length)).length)), (0, .ref m)] ⟨rfl, by rw [← hL2]; rfl, by rw [← hL1]; rfl, rfl, trivial⟩ (ap_outer hG1 hG2 c_37 c_46 _ 0 _ _ X hR ht (fun q hq => absurd hq (Nat.not_lt_zero _)) (Nat.zero_add _))
        · have e5 : (k_apart P a b1) = (0, bC (apM (wrapN 61 (putN P a [] P.length)) (wrapN 61 (putN P b1 [] P.length)))) := ((if_pos c_1).trans (if_pos c_2)).trans (congrArg (fun v => ((0 : Nat), v)) (bC_c (hm2 c_2)).symm)
          have e6 : bC (apM (wrapN 61 (putN P a [] P.length)) (wrapN 61 (putN P b1 [] P.length))) = 0 := bC_f (fun w => w.2.1 c_46)
          refine e_iconst dX8_apart_49 ?_
          refine e_zret rfl (by first | exact Or.inl rfl | exact Or.inr rfl | exact bP_01 _) dX8_apart_50 (by decide) (by decide) ?_
          exact mz (e5.trans (congrArg (fun v => ((0 : Nat), v)) e6)) ⟨rfl, rfl, _, _, X, hR, ht⟩
    refine e_doesV qcX8_159 X.obj rfl rfl (S_noHeaps_f2 X hR.1 ra rb1 c_1 c_2 ht) rfl rfl rfl rfl dX8_apart_8 ?_
    intro v h9 q9
    obtain ⟨rfl, X⟩ := q9
    refine e_if_eq (tgt := 16) ⟨by decide, by decide⟩ dX8_apart_11 rfl (fun c_11 => absurd c_11 (by decide)) (fun c_11 => ?_)
    refine e_iconst dX8_apart_14 ?_
    refine e_zret rfl (by first | exact Or.inl rfl | exact Or.inr rfl | exact bP_01 _) dX8_apart_15 (by decide) (by decide) ?_
    exact mz (show (k_apart P a b1) = (2, 0) from ((if_pos c_1).trans (if_neg c_2))) ⟨rfl, rfl, _, _, X, hR.t0 _, uI_s _ _ _⟩
  refine e_doesV qcX8_159 X.obj rfl rfl (S_noHeaps_f1 X hR.1 ra rb1 c_1 ht) rfl rfl rfl rfl dX8_apart_8 ?_
  intro v h9 q9
  obtain ⟨rfl, X⟩ := q9
  refine e_if_eq (tgt := 16) ⟨by decide, by decide⟩ dX8_apart_11 rfl (fun c_11 => absurd c_11 (by decide)) (fun c_11 => ?_)
  refine e_iconst dX8_apart_14 ?_
  refine e_zret rfl (by first | exact Or.inl rfl | exact Or.inr rfl | exact bP_01 _) dX8_apart_15 (by decide) (by decide) ?_
  exact mz (show (k_apart P a b1) = (1, 0) from (if_neg c_1)) ⟨rfl, rfl, _, _, X, hR.t0 _, uI_s _ _ _⟩
end MNINETEEN
