/-! The reference: layers -/
noncomputable def gwn (Q : PL) : Nat := @dite Nat (∃ n, gwc Q n) (Classical.propDecidable _) (fun h => Classical.choose h) (fun _ => 0)
theorem gwn_spec {Q : PL} (h : ∃ n, gwc Q n) : gwc Q (gwn Q) := by
  unfold gwn
  rw [dif_pos h]
  exact Classical.choose_spec h
/-- those of the first n points that are left -/
noncomputable def plQ (P : PL) (lf : Nat → Prop) : Nat → PL
  | 0 => []
  | n + 1 => cif (lf n) (plQ P lf n ++ [(pX P n, pY P n, 0)]) (plQ P lf n)
theorem plQ_le (P : PL) (lf : Nat → Prop) : ∀ n, (plQ P lf n).length ≤ n
  | 0 => Nat.le_refl _
  | n + 1 => by
    have := plQ_le P lf n
    unfold plQ
    by_cases c : lf n
    · rw [cif_t c, List.length_append, List.length_singleton]; omega
    · rw [cif_f c]; omega
noncomputable def lfN (P : PL) (a : Int) : Nat → Nat → Prop
  | 0 => fun p => pM P p = a
  | k + 1 => fun p => lfN P a k p ∧ ¬ sdI (gwL (plQ P (lfN P a k) P.length) (gwn (plQ P (lfN P a k) P.length))) (pX P p) (pY P p) = 0
/-- the points left for layer k, and its hull -/
noncomputable abbrev lyQ (P : PL) (a : Int) (k : Nat) : PL := plQ P (lfN P a k) P.length
noncomputable abbrev lyH (P : PL) (a : Int) (k : Nat) : PL := gwL (lyQ P a k) (gwn (lyQ P a k))
def lyT (P : PL) (a : Int) (l : Nat) : Prop := ∀ k, k ≤ l → (lyQ P a k).length ≠ 0
/-- which points the array tells as left -/
def isLf (P : PL) (lf : Nat → Prop) (ar : Nat → Nat → Int) : Prop := ∀ p, p < P.length → ar 8 p = bC (lf p)
section MEIGHT
variable {G : g_X} {sc sc0 : Nat → Int} {ar : Nat → Nat → Int} {m : Nat} {h0 h : g_hp} {P E : PL} {S : Nat → PL} {b : Int} {P2 E2 : PL} {S2 : Nat → PL} {F : PL}
theorem bC_b (p : Prop) : bC p = 0 ∨ bC p = 1 := by
  by_cases c : p
  · exact Or.inr (bC_t c)
  · exact Or.inl (bC_f c)
set_option maxRecDepth 20000 in
theorem pe_upd {Z : g_Z} {z : Option Nat} {a : Int} {l f : Nat} (ra : r32 a) (hf : f < 3) (hg : ∀ k, ∃ n, gwc (lyQ P a k) n) (hl : l < 2147483647) {k : Nat} (kk : ∀ sc1 ar1 h, mdX G sc1 ar1 m h0 h → mdP sc1 ar1 P → agr [7] [3, 4, 5, 6, 7, 8] sc ar sc1 ar1 → (∀ g F, g < 3 → g ≠ f → mdH ar g F → mdH ar1 g F) → mdH ar1 f (lyH P a k) → isLf P (lfN P a (k + 1)) ar1 → Ev (g_B G mX8_peels 0 0 Z) 0 0 z h 166 [(4, .int (iN (k : Nat))), (0, .ref m), (1, .int (iN a)), (2, .int (iN l)), (3, .int (iN f))] []) : ∀ (n p : Nat) (sc1 : Nat → Int) (ar1 : Nat → Nat → Int) (h : g_hp), mdX G sc1 ar1 m h0 h → mdP sc1 ar1 P → agr [7] [3, 4, 5, 6, 7, 8] sc ar sc1 ar1 → (∀ g F, g < 3 → g ≠ f → mdH ar g F → mdH ar1 g F) → mdH ar1 f (lyH P a k) → (∀ q, q < P.length → ar1 8 q = if q < p then bC (lfN P a (k + 1) q) else bC (lfN P a k q)) → p + n = P.length → Ev (g_B G mX8_peels 0 0 Z) 0 0 z h 114 [(5, .int (iN (p : Nat))), (4, .int (iN (k : Nat))), (0, .ref m), (1, .int (iN a)), (2, .int (iN l)), (3, .int (iN f))] [] := by
  intro n
  induction n with
  | zero =>
    intro p sc1 ar1 h X hP hA hO hH hI hpn
    obtain ⟨e1, e2, e3, e4⟩ := id hP
    have e9 : p = P.length := by omega
    refine e_iload dX8_peels_114 rfl ?_
    refine e_aload_n dX8_peels_116 rfl ?_
    refine e_getf fX8_108 X.obj rfl dX8_peels_117 ?_
    rw [e1]
    refine e_icmp_ge (tgt := 166) ⟨by omega, by omega⟩ ⟨by omega, by omega⟩ dX8_peels_120 rfl (fun c_120 => ?_) (fun c_120 => absurd (by omega) c_120)
    exact e_loc [(4, .int (iN (k : Nat))), (0, .ref m), (1, .int (iN a)), (2, .int (iN l)), (3, .int (iN f))] ⟨rfl, rfl, rfl, rfl, rfl, trivial⟩ (kk _ _ _ X hP hA hO hH (fun q hq => by rw [hI q hq, if_pos (by omega)]))
  | succ n ih =>
    intro p sc1 ar1 h X hP hA hO hH hI hpn
    obtain ⟨e1, e2, e3, e4⟩ := id hP
    have hp : p < P.length := by omega
    have hb := e3.at hp
    have hv := hI p hp
    rw [if_neg (Nat.lt_irrefl p)] at hv
    have hs := sdI_bd (lyH P a k) (pX P p) (pY P p)
    refine e_iload dX8_peels_114 rfl ?_
    refine e_aload_n dX8_peels_116 rfl ?_
    refine e_getf fX8_108 X.obj rfl dX8_peels_117 ?_
    rw [e1]
    refine e_icmp_ge (tgt := 166) ⟨by omega, by omega⟩ ⟨by omega, by omega⟩ dX8_peels_120 rfl (fun c_120 => absurd c_120 (by omega)) (fun c_120 => ?_)
    refine e_aload_n dX8_peels_123 rfl ?_
    refine e_getf fX8_38 X.obj rfl dX8_peels_124 ?_
    refine e_iload dX8_peels_127 rfl ?_
    refine e_dup2 dX8_peels_129 rfl rfl ?_
    refine e_zal X.a8 (by omega) (by omega) rfl hv dX8_peels_130 ?_
    refine e_aload_n dX8_peels_131 rfl ?_
    refine e_iload_n dX8_peels_132 rfl ?_
    refine e_aload_n dX8_peels_133 rfl ?_
    refine e_getf fX8_17 X.obj rfl dX8_peels_134 ?_
    refine e_iload dX8_peels_137 rfl ?_
    refine e_ial X.a1 (by omega) (by omega) rfl (e4 p hp).2.1 dX8_peels_139 ?_
    refine e_aload_n dX8_peels_140 rfl ?_
    refine e_getf fX8_20 X.obj rfl dX8_peels_141 ?_
    refine e_iload dX8_peels_144 rfl ?_
    refine e_ial X.a2 (by omega) (by omega) rfl (e4 p hp).2.2 dX8_peels_146 ?_
    refine e_pureV qcX8_162 X.obj rfl rfl (S_mside X hH hf ⟨by omega, by omega⟩ ⟨by omega, by omega⟩) rfl rfl rfl rfl dX8_peels_147 ?_
    refine e_if_eq (tgt := 157) ⟨by omega, by omega⟩ dX8_peels_150 rfl (fun c_150 => ?_) (fun c_150 => ?_)
    · refine e_iconst dX8_peels_157 ?_
      refine e_top (bC (¬ sdI (lyH P a k) (pX P p) (pY P p) = 0)) (bC_f (fun w => w c_150)).symm ?_
      refine e_iand dX8_peels_158 ?_
      rw [iand_b]
      refine e_zastore X.a8 (by omega) (by omega) (bC_b (lfN P a (k + 1) p)) rfl dX8_peels_159 ?_
      refine X.sto8 (fun h9 X9 => ?_)
      replace X := X9
      clear X9
      replace hP := hP.to (ar' := uA ar1 8 (uI (ar1 8) (p : Int).toNat (bC (lfN P a (k + 1) p)))) (agr.rf.pj (by decide))
      replace hA := hA.pj (j := 8) (g := uI (ar1 8) (p : Int).toNat (bC (lfN P a (k + 1) p))) (by decide)
      have hO2 : (∀ g F, g < 3 → g ≠ f → mdH ar g F → mdH (uA ar1 8 (uI (ar1 8) (p : Int).toNat (bC (lfN P a (k + 1) p)))) g F) := fun g F hg hgf hG => (hO g F hg hgf hG).to rfl rfl rfl
      have hH2 := hH.to (ar' := uA ar1 8 (uI (ar1 8) (p : Int).toNat (bC (lfN P a (k + 1) p)))) rfl rfl rfl
      refine e_iinc dX8_peels_160 rfl ?_
      refine e_goto (tgt := 114) dX8_peels_163 rfl ?_
      exact e_loc [(5, .int (iN (p + 1 : Nat))), (4, .int (iN (k : Nat))), (0, .ref m), (1, .int (iN a)), (2, .int (iN l)), (3, .int (iN f))] ⟨rfl, rfl, rfl, rfl, rfl, rfl, trivial⟩ (ih (p + 1) _ _ _ X hP hA hO2 hH2 (fun q hq => by
        show uI (ar1 8) p (bC (lfN P a (k + 1) p)) q = _
        by_cases c : q = p
        · rw [c, uI_s, if_pos (by omega)]
        · rw [uI_n _ _ c, hI q hq]
          by_cases d : q < p
          · rw [if_pos d, if_pos (by omega)]
          · rw [if_neg d, if_neg (by omega)]) (by omega))
    · refine e_iconst dX8_peels_153 ?_
      refine e_top (bC (¬ sdI (lyH P a k) (pX P p) (pY P p) = 0)) (bC_t (show (¬ sdI (lyH P a k) (pX P p) (pY P p) = 0) from c_150)).symm ?_
      refine e_goto (tgt := 158) dX8_peels_154 rfl ?_
      refine e_iand dX8_peels_158 ?_
      rw [iand_b]
      refine e_zastore X.a8 (by omega) (by omega) (bC_b (lfN P a (k + 1) p)) rfl dX8_peels_159 ?_
      refine X.sto8 (fun h9 X9 => ?_)
      replace X := X9
      clear X9
      replace hP := hP.to (ar' := uA ar1 8 (uI (ar1 8) (p : Int).toNat (bC (lfN P a (k + 1) p)))) (agr.rf.pj (by decide))
      replace hA := hA.pj (j := 8) (g := uI (ar1 8) (p : Int).toNat (bC (lfN P a (k + 1) p))) (by decide)
      have hO2 : (∀ g F, g < 3 → g ≠ f → mdH ar g F → mdH (uA ar1 8 (uI (ar1 8) (p : Int).toNat (bC (lfN P a (k + 1) p)))) g F) := fun g F hg hgf hG => (hO g F hg hgf hG).to rfl rfl rfl
      have hH2 := hH.to (ar' := uA ar1 8 (uI (ar1 8) (p : Int).toNat (bC (lfN P a (k + 1) p)))) rfl rfl rfl
      refine e_iinc dX8_peels_160 rfl ?_
      refine e_goto (tgt := 114) dX8_peels_163 rfl ?_
      exact e_loc [(5, .int (iN (p + 1 : Nat))), (4, .int (iN (k : Nat))), (0, .ref m), (1, .int (iN a)), (2, .int (iN l)), (3, .int (iN f))] ⟨rfl, rfl, rfl, rfl, rfl, rfl, trivial⟩ (ih (p + 1) _ _ _ X hP hA hO2 hH2 (fun q hq => by
        show uI (ar1 8) p (bC (lfN P a (k + 1) p)) q = _
        by_cases c : q = p
        · rw [c, uI_s, if_pos (by omega)]
        · rw [uI_n _ _ c, hI q hq]
          by_cases d : q < p
          · rw [if_pos d, if_pos (by omega)]
          · rw [if_neg d, if_neg (by omega)]) (by omega))
set_option maxRecDepth 20000 in
theorem pe_lay {Z : g_Z} {z : Option Nat} {a : Int} {l f : Nat} {k : Nat} {lf : Nat → Prop} (kk : ∀ sc1 ar1 h, mdX G sc1 ar1 m h0 h → mdP sc1 ar1 P → agr [7] [3, 4, 5, 6, 7, 8] sc ar sc1 ar1 → (∀ g F, g < 3 → g ≠ f → mdH ar g F → mdH ar1 g F) → isLf P lf ar1 → mdQ sc1 ar1 (plQ P lf P.length) → Ev (g_B G mX8_peels 0 0 Z) 0 0 z h 101 [(4, .int (iN (k : Nat))), (0, .ref m), (1, .int (iN a)), (2, .int (iN l)), (3, .int (iN f))] []) : ∀ (n p : Nat) (sc1 : Nat → Int) (ar1 : Nat → Nat → Int) (h : g_hp), mdX G sc1 ar1 m h0 h → mdP sc1 ar1 P → agr [7] [3, 4, 5, 6, 7, 8] sc ar sc1 ar1 → (∀ g F, g < 3 → g ≠ f → mdH ar g F → mdH ar1 g F) → isLf P lf ar1 → mdQ sc1 ar1 (plQ P lf p) → p + n = P.length → Ev (g_B G mX8_peels 0 0 Z) 0 0 z h 58 [(5, .int (iN (p : Nat))), (4, .int (iN (k : Nat))), (0, .ref m), (1, .int (iN a)), (2, .int (iN l)), (3, .int (iN f))] [] := by
  intro n
  induction n with
  | zero =>
    intro p sc1 ar1 h X hP hA hO hI hQ hpn
    obtain ⟨e1, e2, e3, e4⟩ := id hP
    have e9 : p = P.length := by omega
    rw [e9] at hQ
    refine e_iload dX8_peels_58 rfl ?_
    refine e_aload_n dX8_peels_60 rfl ?_
    refine e_getf fX8_108 X.obj rfl dX8_peels_61 ?_
    rw [e1]
    refine e_icmp_ge (tgt := 101) ⟨by omega, by omega⟩ ⟨by omega, by omega⟩ dX8_peels_64 rfl (fun c_64 => ?_) (fun c_64 => absurd (by omega) c_64)
    exact e_loc [(4, .int (iN (k : Nat))), (0, .ref m), (1, .int (iN a)), (2, .int (iN l)), (3, .int (iN f))] ⟨rfl, rfl, rfl, rfl, rfl, trivial⟩ (kk _ _ _ X hP hA hO hI hQ)
  | succ n ih =>
    intro p sc1 ar1 h X hP hA hO hI hQ hpn
    obtain ⟨e1, e2, e3, e4⟩ := id hP
    have hp : p < P.length := by omega
    have hb := e3.at hp
    have hl := plQ_le P lf p
    letI : Decidable (lf p) := Classical.propDecidable _
    refine e_iload dX8_peels_58 rfl ?_
    refine e_aload_n dX8_peels_60 rfl ?_
    refine e_getf fX8_108 X.obj rfl dX8_peels_61 ?_
    rw [e1]
    refine e_icmp_ge (tgt := 101) ⟨by omega, by omega⟩ ⟨by omega, by omega⟩ dX8_peels_64 rfl (fun c_64 => absurd c_64 (by omega)) (fun c_64 => ?_)
    refine e_aload_n dX8_peels_67 rfl ?_
    refine e_getf fX8_38 X.obj rfl dX8_peels_68 ?_
    refine e_iload dX8_peels_71 rfl ?_
    refine e_zal X.a8 (by omega) (by omega) rfl (hI p hp) dX8_peels_73 ?_
    refine e_ifP_eq (tgt := 95) dX8_peels_74 rfl (fun c_74 => ?_) (fun c_74 => ?_)
    · rw [show plQ P lf p = plQ P lf (p + 1) from (cif_f c_74).symm] at hQ
      refine e_iinc dX8_peels_95 rfl ?_
      refine e_goto (tgt := 58) dX8_peels_98 rfl ?_
      exact e_loc [(5, .int (iN (p + 1 : Nat))), (4, .int (iN (k : Nat))), (0, .ref m), (1, .int (iN a)), (2, .int (iN l)), (3, .int (iN f))] ⟨rfl, rfl, rfl, rfl, rfl, rfl, trivial⟩ (ih (p + 1) _ _ _ X hP hA hO hI hQ (by omega))
    · refine e_aload_n dX8_peels_77 rfl ?_
      refine e_aload_n dX8_peels_78 rfl ?_
      refine e_getf fX8_17 X.obj rfl dX8_peels_79 ?_
      refine e_iload dX8_peels_82 rfl ?_
      refine e_ial X.a1 (by omega) (by omega) rfl (e4 p hp).2.1 dX8_peels_84 ?_
      refine e_aload_n dX8_peels_85 rfl ?_
      refine e_getf fX8_20 X.obj rfl dX8_peels_86 ?_
      refine e_iload dX8_peels_89 rfl ?_
      refine e_ial X.a2 (by omega) (by omega) rfl (e4 p hp).2.2 dX8_peels_91 ?_
      refine e_doesV qcX8_139 X.obj rfl rfl (S_lays X hQ (by omega) ⟨by omega, by omega⟩ ⟨by omega, by omega⟩) rfl rfl rfl rfl dX8_peels_92 ?_
      intro v h9 q9
      obtain ⟨rfl, sc2, ar2, X, hQ, hB⟩ := q9
      replace hP := hP.to (hB.wk (by decide) (by decide))
      replace hA := hA.tr (hB.wk (by decide) (by decide))
      replace hO : (∀ g F, g < 3 → g ≠ f → mdH ar g F → mdH ar2 g F) := fun g F hg hgf hG => (hO g F hg hgf hG).to (hB.2 5 (by decide)) (hB.2 6 (by decide)) (hB.2 7 (by decide))
      replace hI : isLf P lf ar2 := fun q hq => by rw [hB.2 8 (by decide)]; exact hI q hq
      rw [show plQ P lf p ++ [(pX P p, pY P p, 0)] = plQ P lf (p + 1) from (cif_t c_74).symm] at hQ
      refine e_iinc dX8_peels_95 rfl ?_
      refine e_goto (tgt := 58) dX8_peels_98 rfl ?_
      exact e_loc [(5, .int (iN (p + 1 : Nat))), (4, .int (iN (k : Nat))), (0, .ref m), (1, .int (iN a)), (2, .int (iN l)), (3, .int (iN f))] ⟨rfl, rfl, rfl, rfl, rfl, rfl, trivial⟩ (ih (p + 1) _ _ _ X hP hA hO hI hQ (by omega))
set_option maxRecDepth 20000 in
theorem pe_main {z : Option Nat} {a : Int} {l f : Nat} (ra : r32 a) (hf : f < 3) (hg : ∀ k, ∃ n, gwc (lyQ P a k) n) (hl : l < 2147483646) : ∀ (n k : Nat) (sc1 : Nat → Int) (ar1 : Nat → Nat → Int) (h : g_hp), mdX G sc1 ar1 m h0 h → mdP sc1 ar1 P → agr [7] [3, 4, 5, 6, 7, 8] sc ar sc1 ar1 → (∀ g F, g < 3 → g ≠ f → mdH ar g F → mdH ar1 g F) → isLf P (lfN P a k) ar1 → (∀ j, j < k → (lyQ P a j).length ≠ 0) → (0 < k → mdH ar1 f (lyH P a (k - 1))) → k + n = l + 1 → Ev (g_B G mX8_peels 0 0 (fun o z1 h1 => ∃ v, o = .inl v ∧ z1 = z ∧ (fun v h1 => v = some (.int (iN (bC (lyT P a l)))) ∧ ∃ sc1 ar1, mdX G sc1 ar1 m h0 h1 ∧ agr [7] [3, 4, 5, 6, 7, 8] sc ar sc1 ar1 ∧ (lyT P a l → mdH ar1 f (lyH P a l)) ∧ (∀ g F, g < 3 → g ≠ f → mdH ar g F → mdH ar1 g F)) v h1)) 0 0 z h 44 [(4, .int (iN (k : Nat))), (0, .ref m), (1, .int (iN a)), (2, .int (iN l)), (3, .int (iN f))] [] := by
  intro n
  induction n with
  | zero =>
    intro k sc1 ar1 h X hP hA hO hI hN hH hkn
    have e9 : k = l + 1 := by omega
    subst e9
    have e8 : lyT P a l := fun j hj => hN j (by omega)
    refine e_iload dX8_peels_44 rfl ?_
    refine e_iload_n dX8_peels_46 rfl ?_
    refine e_icmp_gt (tgt := 172) ⟨by omega, by omega⟩ ⟨by omega, by omega⟩ dX8_peels_47 rfl (fun c_47 => ?_) (fun c_47 => absurd (by omega) c_47)
    refine e_iconst dX8_peels_172 ?_
    refine e_zret rfl (by first | exact Or.inl rfl | exact Or.inr rfl | exact bP_01 _) dX8_peels_173 (by decide) (by decide) ?_
    exact ⟨_, rfl, rfl, by rw [show bC (lyT P a l) = 1 from bC_t e8], _, _, X, hA, fun _ => hH (by omega), hO⟩
  | succ n ih =>
    intro k sc1 ar1 h X hP hA hO hI hN hH hkn
    have hgk := gwn_spec (hg k)
    refine e_iload dX8_peels_44 rfl ?_
    refine e_iload_n dX8_peels_46 rfl ?_
    refine e_icmp_gt (tgt := 172) ⟨by omega, by omega⟩ ⟨by omega, by omega⟩ dX8_peels_47 rfl (fun c_47 => absurd c_47 (by omega)) (fun c_47 => ?_)
    refine e_aload_n dX8_peels_50 rfl ?_
    refine e_iconst dX8_peels_51 ?_
    refine e_putf pfX8_136 X.obj rfl rfl rfl dX8_peels_52 ?_
    refine X.pto (q := 7) (fun h9 X9 => ?_) rfl
    replace X := X9
    clear X9
    replace hP : mdP (uI sc1 7 0) ar1 P := hP.to (agr.rf.pk (by decide))
    replace hA := hA.pk (k := 7) (v := 0) (by decide)
    have hQ : mdQ (uI sc1 7 0) ar1 (plQ P (lfN P a k) 0) := mdQ.nil (uI_s _ _ _)
    refine e_iconst dX8_peels_55 ?_
    refine e_istore dX8_peels_56 rfl ?_
    refine e_loc [(5, .int (iN (0 : Nat))), (4, .int (iN (k : Nat))), (0, .ref m), (1, .int (iN a)), (2, .int (iN l)), (3, .int (iN f))] ⟨rfl, rfl, rfl, rfl, rfl, rfl, trivial⟩ (pe_lay (lf := lfN P a k) (fun sc1 ar1 h X hP hA hO hI hQ => ?_) _ 0 _ _ _ X hP hA hO hI hQ (Nat.zero_add _))
    refine e_aload_n dX8_peels_101 rfl ?_
    refine e_iload_n dX8_peels_102 rfl ?_
    refine e_doesV qcX8_150 X.obj rfl rfl (S_wraps X hQ hf hgk) rfl rfl rfl rfl dX8_peels_103 ?_
    intro v h9 q9
    obtain ⟨rfl, ar2, X, hK, hC, hD⟩ := q9
    replace hP := hP.to (hC.wk (by decide) (by decide))
    replace hA := hA.tr (hC.wk (by decide) (by decide))
    replace hI : isLf P (lfN P a k) ar2 := fun q hq => by rw [hC.2 8 (by decide)]; exact hI q hq
    replace hO : (∀ g F, g < 3 → g ≠ f → mdH ar g F → mdH ar2 g F) := fun g F hg hgf hG => hD g F hg hgf (hO g F hg hgf hG)
    have hn2 : gwn (lyQ P a k) ≤ 200 := hgk.1
    refine e_if_ne (tgt := 111) ⟨by omega, by omega⟩ dX8_peels_106 rfl (fun c_106 => ?_) (fun c_106 => ?_)
    · have e8 : (lyQ P a k).length ≠ 0 := fun w => c_106 (by rw [hgk.2.1 w]; rfl)
      refine e_iconst dX8_peels_111 ?_
      refine e_istore dX8_peels_112 rfl ?_
      refine e_loc [(5, .int (iN (0 : Nat))), (4, .int (iN (k : Nat))), (0, .ref m), (1, .int (iN a)), (2, .int (iN l)), (3, .int (iN f))] ⟨rfl, rfl, rfl, rfl, rfl, rfl, trivial⟩ (pe_upd ra hf hg (by omega) (fun sc1 ar1 h X hP hA hO hH hI => ?_) _ 0 _ _ _ X hP hA hO hK (fun q hq => by rw [if_neg (Nat.not_lt_zero _)]; exact hI q hq) (Nat.zero_add _))
      refine e_iinc dX8_peels_166 rfl ?_
      refine e_goto (tgt := 44) dX8_peels_169 rfl ?_
      exact e_loc [(4, .int (iN (k + 1 : Nat))), (0, .ref m), (1, .int (iN a)), (2, .int (iN l)), (3, .int (iN f))] ⟨rfl, rfl, rfl, rfl, rfl, trivial⟩ (ih (k + 1) _ _ _ X hP hA hO hI (fun j hj => if c : j < k then hN j c else by rw [show j = k by omega]; exact e8) (fun _ => hH) (by omega))
    · have e8 : ¬ lyT P a l := fun w => c_106 (by have := (hgk.2.2 (Nat.pos_of_ne_zero (w k (by omega)))).1; omega)
      refine e_iconst dX8_peels_109 ?_
      refine e_zret rfl (by first | exact Or.inl rfl | exact Or.inr rfl | exact bP_01 _) dX8_peels_110 (by decide) (by decide) ?_
      exact ⟨_, rfl, rfl, by rw [show bC (lyT P a l) = 0 from bC_f e8], _, _, X, hA, fun w => absurd w e8, hO⟩
set_option maxRecDepth 20000 in
theorem pe_first {z : Option Nat} {a : Int} {l f : Nat} (ra : r32 a) (hf : f < 3) (hg : ∀ k, ∃ n, gwc (lyQ P a k) n) (hl : l < 2147483646) : ∀ (n p : Nat) (sc1 : Nat → Int) (ar1 : Nat → Nat → Int) (h : g_hp), mdX G sc1 ar1 m h0 h → mdP sc1 ar1 P → agr [7] [3, 4, 5, 6, 7, 8] sc ar sc1 ar1 → (∀ g F, g < 3 → g ≠ f → mdH ar g F → mdH ar1 g F) → (∀ q, q < p → ar1 8 q = bC (lfN P a 0 q)) → p + n = P.length → Ev (g_B G mX8_peels 0 0 (fun o z1 h1 => ∃ v, o = .inl v ∧ z1 = z ∧ (fun v h1 => v = some (.int (iN (bC (lyT P a l)))) ∧ ∃ sc1 ar1, mdX G sc1 ar1 m h0 h1 ∧ agr [7] [3, 4, 5, 6, 7, 8] sc ar sc1 ar1 ∧ (lyT P a l → mdH ar1 f (lyH P a l)) ∧ (∀ g F, g < 3 → g ≠ f → mdH ar g F → mdH ar1 g F)) v h1)) 0 0 z h 3 [(4, .int (iN (p : Nat))), (0, .ref m), (1, .int (iN a)), (2, .int (iN l)), (3, .int (iN f))] [] := by
  have ra1 := ra.1
  have ra2 := ra.2
  intro n
  induction n with
  | zero =>
    intro p sc1 ar1 h X hP hA hO hI hpn
    obtain ⟨e1, e2, e3, e4⟩ := id hP
    have e9 : p = P.length := by omega
    refine e_iload dX8_peels_3 rfl ?_
    refine e_aload_n dX8_peels_5 rfl ?_
    refine e_getf fX8_108 X.obj rfl dX8_peels_6 ?_
    rw [e1]
    refine e_icmp_ge (tgt := 41) ⟨by omega, by omega⟩ ⟨by omega, by omega⟩ dX8_peels_9 rfl (fun c_9 => ?_) (fun c_9 => absurd (by omega) c_9)
    refine e_iconst dX8_peels_41 ?_
    refine e_istore dX8_peels_42 rfl ?_
    exact e_loc [(4, .int (iN (0 : Nat))), (0, .ref m), (1, .int (iN a)), (2, .int (iN l)), (3, .int (iN f))] ⟨rfl, rfl, rfl, rfl, rfl, trivial⟩ (pe_main ra hf hg hl _ 0 _ _ _ X hP hA hO (fun q hq => hI q (by omega)) (fun j hj => absurd hj (Nat.not_lt_zero _)) (fun w => absurd w (Nat.lt_irrefl _)) (Nat.zero_add _))
  | succ n ih =>
    intro p sc1 ar1 h X hP hA hO hI hpn
    obtain ⟨e1, e2, e3, e4⟩ := id hP
    have hp : p < P.length := by omega
    have hb := e3.at hp
    refine e_iload dX8_peels_3 rfl ?_
    refine e_aload_n dX8_peels_5 rfl ?_
    refine e_getf fX8_108 X.obj rfl dX8_peels_6 ?_
    rw [e1]
    refine e_icmp_ge (tgt := 41) ⟨by omega, by omega⟩ ⟨by omega, by omega⟩ dX8_peels_9 rfl (fun c_9 => absurd c_9 (by omega)) (fun c_9 => ?_)
    refine e_aload_n dX8_peels_12 rfl ?_
    refine e_getf fX8_38 X.obj rfl dX8_peels_13 ?_
    refine e_iload dX8_peels_16 rfl ?_
    refine e_aload_n dX8_peels_18 rfl ?_
    refine e_getf fX8_13 X.obj rfl dX8_peels_19 ?_
    refine e_iload dX8_peels_22 rfl ?_
    refine e_ial X.a0 (by omega) (by omega) rfl (e4 p hp).1 dX8_peels_24 ?_
    refine e_iload_n dX8_peels_25 rfl ?_
    refine e_icmp_ne (tgt := 33) ⟨by omega, by omega⟩ ⟨by omega, by omega⟩ dX8_peels_26 rfl (fun c_26 => ?_) (fun c_26 => ?_)
    · refine e_iconst dX8_peels_33 ?_
      refine e_top (bC (lfN P a 0 p)) (bC_f (show ¬ lfN P a 0 p from c_26)).symm ?_
      refine e_zastore X.a8 (by omega) (by omega) (bC_b (lfN P a 0 p)) rfl dX8_peels_34 ?_
      refine X.sto8 (fun h9 X9 => ?_)
      replace X := X9
      clear X9
      replace hP := hP.to (ar' := (uA ar1 8 (uI (ar1 8) (p : Int).toNat (bC (lfN P a 0 p))))) (agr.rf.pj (by decide))
      replace hA := hA.pj (j := 8) (g := uI (ar1 8) (p : Int).toNat (bC (lfN P a 0 p))) (by decide)
      have hO2 : (∀ g F, g < 3 → g ≠ f → mdH ar g F → mdH (uA ar1 8 (uI (ar1 8) (p : Int).toNat (bC (lfN P a 0 p)))) g F) := fun g F hg hgf hG => (hO g F hg hgf hG).to rfl rfl rfl
      refine e_iinc dX8_peels_35 rfl ?_
      refine e_goto (tgt := 3) dX8_peels_38 rfl ?_
      exact e_loc [(4, .int (iN (p + 1 : Nat))), (0, .ref m), (1, .int (iN a)), (2, .int (iN l)), (3, .int (iN f))] ⟨rfl, rfl, rfl, rfl, rfl, trivial⟩ (ih (p + 1) _ _ _ X hP hA hO2 (fun q hq => by
        show uI (ar1 8) p (bC (lfN P a 0 p)) q = _
        by_cases c : q = p
        · rw [c, uI_s]
        · rw [uI_n _ _ c]
          exact hI q (by omega)) (by omega))
    · refine e_iconst dX8_peels_29 ?_
      refine e_top (bC (lfN P a 0 p)) (bC_t (show lfN P a 0 p from (show pM P p = a from Decidable.of_not_not c_26))).symm ?_
      refine e_goto (tgt := 34) dX8_peels_30 rfl ?_
      refine e_zastore X.a8 (by omega) (by omega) (bC_b (lfN P a 0 p)) rfl dX8_peels_34 ?_
      refine X.sto8 (fun h9 X9 => ?_)
      replace X := X9
      clear X9
      replace hP := hP.to (ar' := (uA ar1 8 (uI (ar1 8) (p : Int).toNat (bC (lfN P a 0 p))))) (agr.rf.pj (by decide))
      replace hA := hA.pj (j := 8) (g := uI (ar1 8) (p : Int).toNat (bC (lfN P a 0 p))) (by decide)
      have hO2 : (∀ g F, g < 3 → g ≠ f → mdH ar g F → mdH (uA ar1 8 (uI (ar1 8) (p : Int).toNat (bC (lfN P a 0 p)))) g F) := fun g F hg hgf hG => (hO g F hg hgf hG).to rfl rfl rfl
      refine e_iinc dX8_peels_35 rfl ?_
      refine e_goto (tgt := 3) dX8_peels_38 rfl ?_
      exact e_loc [(4, .int (iN (p + 1 : Nat))), (0, .ref m), (1, .int (iN a)), (2, .int (iN l)), (3, .int (iN f))] ⟨rfl, rfl, rfl, rfl, rfl, trivial⟩ (ih (p + 1) _ _ _ X hP hA hO2 (fun q hq => by
        show uI (ar1 8) p (bC (lfN P a 0 p)) q = _
        by_cases c : q = p
        · rw [c, uI_s]
        · rw [uI_n _ _ c]
          exact hI q (by omega)) (by omega))
set_option maxRecDepth 20000 in
theorem S_peels {a : Int} {l f : Nat} (X : mdX G sc ar m h0 h) (hP : mdP sc ar P) (ra : r32 a) (hf : f < 3) (hg : ∀ k, ∃ n, gwc (lyQ P a k) n) (hl : l < 2147483646) : Does G mX8_peels [.ref m, .int (iN a), .int (iN l), .int (iN f)] h (fun v h1 => v = some (.int (iN (bC (lyT P a l)))) ∧ ∃ sc1 ar1, mdX G sc1 ar1 m h0 h1 ∧ agr [7] [3, 4, 5, 6, 7, 8] sc ar sc1 ar1 ∧ (lyT P a l → mdH ar1 f (lyH P a l)) ∧ (∀ g F, g < 3 → g ≠ f → mdH ar g F → mdH ar1 g F)) := by
  intro z
  refine run_of rfl plX8 rfl ?_
  refine e_iconst dX8_peels_0 ?_
  refine e_istore dX8_peels_1 rfl ?_
  exact e_loc [(4, .int (iN (0 : Nat))), (0, .ref m), (1, .int (iN a)), (2, .int (iN l)), (3, .int (iN f))] ⟨rfl, rfl, rfl, rfl, rfl, trivial⟩ (pe_first ra hf hg hl _ 0 _ _ _ X hP agr.rf (fun g F _ _ hG => hG) (fun q hq => absurd hq (Nat.not_lt_zero _)) (Nat.zero_add _))
set_option maxRecDepth 20000 in
theorem ls_loop {a : Int} {R : Nat} (ra : r32 a) (hg : ∀ k, ∃ n, gwc (lyQ P a k) n) (hR9 : R ≤ 60) (h1 : ∀ k, k < R → (lyQ P a k).length ≠ 0) (h2 : (lyQ P a R).length = 0) : ∀ (c n : Nat) (sc : Nat → Int) (ar : Nat → Nat → Int) (h : g_hp), mdX G sc ar m h0 h → mdR sc ar P E S b P2 E2 S2 F → sc 0 = 0 → n + c = R → Ev (g_B G mX8_layers 0 0 (mZ G ((0, (R : Int)) : Nat × Int) P E S b P2 E2 S2 F m h0)) 0 0 none h 17 [(2, .int (iN (n : Nat))), (0, .ref m), (1, .int (iN a))] [] := by
  intro c
  induction c with
  | zero =>
    intro n sc ar h X hR ht hnc
    have e9 : n = R := by omega
    subst e9
    letI : Decidable (lyT P a n) := Classical.propDecidable _
    refine e_aload_n dX8_layers_17 rfl ?_
    refine e_iload_n dX8_layers_18 rfl ?_
    refine e_iload_n dX8_layers_19 rfl ?_
    refine e_iconst dX8_layers_20 ?_
    refine e_doesV qcX8_166 X.obj rfl rfl (S_peels (f := 1) X hR.1 ra (by decide) hg (by omega)) rfl rfl rfl rfl dX8_layers_21 ?_
    intro v h9 q9
    obtain ⟨rfl, sc2, ar2, X, hA, hH, hO⟩ := q9
    replace hR := hR.to (hA.wk (by decide) (by decide)) (hO 0 F (by decide) (by decide) hR.2.2.2.2)
    replace ht := (hA.1 0 (by decide)).trans ht
    refine e_ifP_eq (tgt := 33) dX8_layers_24 rfl (fun c_24 => ?_) (fun c_24 => absurd h2 (c_24 _ (Nat.le_refl _)))
    refine e_iload_n dX8_layers_33 rfl ?_
    refine e_iret rfl dX8_layers_34 (by decide) (by decide) ?_
    exact ⟨rfl, rfl, _, _, X, hR, ht⟩
  | succ c ih =>
    intro n sc ar h X hR ht hnc
    letI : Decidable (lyT P a n) := Classical.propDecidable _
    refine e_aload_n dX8_layers_17 rfl ?_
    refine e_iload_n dX8_layers_18 rfl ?_
    refine e_iload_n dX8_layers_19 rfl ?_
    refine e_iconst dX8_layers_20 ?_
    refine e_doesV qcX8_166 X.obj rfl rfl (S_peels (f := 1) X hR.1 ra (by decide) hg (by omega)) rfl rfl rfl rfl dX8_layers_21 ?_
    intro v h9 q9
    obtain ⟨rfl, sc2, ar2, X, hA, hH, hO⟩ := q9
    replace hR := hR.to (hA.wk (by decide) (by decide)) (hO 0 F (by decide) (by decide) hR.2.2.2.2)
    replace ht := (hA.1 0 (by decide)).trans ht
    refine e_ifP_eq (tgt := 33) dX8_layers_24 rfl (fun c_24 => absurd (fun k hk => h1 k (by omega)) c_24) (fun c_24 => ?_)
    refine e_iinc dX8_layers_27 rfl ?_
    refine e_goto (tgt := 17) dX8_layers_30 rfl ?_
    exact e_loc [(2, .int (iN (n + 1 : Nat))), (0, .ref m), (1, .int (iN a))] ⟨rfl, rfl, rfl, trivial⟩ (ih (n + 1) _ _ _ X hR ht (by omega))
def lyS (P : PL) (a : Int) (R : Nat) : Prop := R ≤ 60 ∧ (∀ k, k < R → (lyQ P a k).length ≠ 0) ∧ (lyQ P a R).length = 0
set_option maxRecDepth 20000 in
theorem M_layers (X : mdX G sc0 ar m h0 h) (hR : mdR sc0 ar P E S b P2 E2 S2 F) {a : Int} (ra : r32 a) (hg : ∀ k, ∃ n, gwc (lyQ P a k) n) (hm : lyS P a (lyC 60 (putN P a [] P.length))) : Run G mX8_layers [.ref m, .int (iN a)] none h 0 0 (mZ G (k_layers P a) P E S b P2 E2 S2 F m h0) := by
  refine run_of rfl plX8 rfl ?_
  refine e_aload_n dX8_layers_0 rfl ?_
  refine e_iconst dX8_layers_1 ?_
  refine e_putf pfX8_1 X.obj rfl rfl rfl dX8_layers_2 ?_
  refine X.pto (q := 0) (fun h9 X9 => ?_) rfl
  replace X := X9
  clear X9
  replace hR := hR.t0 0
  have ht : uI sc0 0 0 0 = 0 := uI_s _ _ _
  generalize uI sc0 0 0 = sc at X hR ht
  refine e_aload_n dX8_layers_5 rfl ?_
  refine e_iload_n dX8_layers_6 rfl ?_
  
  by_cases c_7 : hpOK a
  · refine e_pureV qcX8_111 X.obj rfl rfl (S_noHeap_t X ra c_7 ht) rfl rfl rfl rfl dX8_layers_7 ?_
    refine e_if_eq (tgt := 15) ⟨by decide, by decide⟩ dX8_layers_10 rfl (fun c_10 => ?_) (fun c_10 => absurd rfl c_10)
    refine e_iconst dX8_layers_15 ?_
    refine e_istore_n dX8_layers_16 rfl ?_
    rw [show (k_layers P a) = (0, (lyC 60 (putN P a [] P.length) : Int)) from if_pos c_7]
    exact e_loc [(2, .int (iN (0 : Nat))), (0, .ref m), (1, .int (iN a))] ⟨rfl, rfl, rfl, trivial⟩ (ls_loop ra hg hm.1 hm.2.1 hm.2.2 _ 0 _ _ _ X hR ht (Nat.zero_add _))
  refine e_doesV qcX8_111 X.obj rfl rfl (S_noHeap_f X ra c_7 ht) rfl rfl rfl rfl dX8_layers_7 ?_
  intro v h9 q9
  obtain ⟨rfl, X⟩ := q9
  refine e_if_eq (tgt := 15) ⟨by decide, by decide⟩ dX8_layers_10 rfl (fun c_10 => absurd c_10 (by decide)) (fun c_10 => ?_)
  refine e_iconst dX8_layers_13 ?_
  refine e_iret rfl dX8_layers_14 (by decide) (by decide) ?_
  exact mz (show (k_layers P a) = (1, 0) from (if_neg c_7)) ⟨rfl, rfl, _, _, X, hR.t0 _, uI_s _ _ _⟩
set_option maxRecDepth 20000 in
theorem M_layer (X : mdX G sc0 ar m h0 h) (hR : mdR sc0 ar P E S b P2 E2 S2 F) {a : Int} (ra : r32 a) {l : Int} (rl : r32 l) (hg : ∀ k, ∃ n, gwc (lyQ P a k) n) (hm : ∀ q : Nat, q < 60 → (lyT P a q ↔ (lyL P a q).length ≠ 0) ∧ ((lyL P a q).length ≠ 0 → cEq (lyH P a q) (wrapN 61 (lyL P a q)))) (hm2 : 60 ≤ l → (lyL P a l).length = 0) : Run G mX8_layer [.ref m, .int (iN a), .int (iN l)] none h 0 0 (mZ G (k_layer P a l) P E S b P2 E2 S2 (s_layer P a l F) m h0) := by
  have ra1 := ra.1
  have ra2 := ra.2
  have rl1 := rl.1
  have rl2 := rl.2
  refine run_of rfl plX8 rfl ?_
  refine e_aload_n dX8_layer_0 rfl ?_
  refine e_iconst dX8_layer_1 ?_
  refine e_putf pfX8_1 X.obj rfl rfl rfl dX8_layer_2 ?_
  refine X.pto (q := 0) (fun h9 X9 => ?_) rfl
  replace X := X9
  clear X9
  replace hR := hR.t0 0
  have ht : uI sc0 0 0 0 = 0 := uI_s _ _ _
  generalize uI sc0 0 0 = sc at X hR ht
  refine e_aload_n dX8_layer_5 rfl ?_
  refine e_iload_n dX8_layer_6 rfl ?_
  
  by_cases c_7 : hpOK a
  · refine e_pureV qcX8_111 X.obj rfl rfl (S_noHeap_t X ra c_7 ht) rfl rfl rfl rfl dX8_layer_7 ?_
    refine e_if_ne (tgt := 46) ⟨by decide, by decide⟩ dX8_layer_10 rfl (fun c_10 => absurd rfl c_10) (fun c_10 => ?_)
    refine e_aload_n dX8_layer_13 rfl ?_
    
    by_cases c1 : 0 ≤ l ∧ l < 60
    · obtain ⟨q, rfl⟩ : ∃ q : Nat, l = (q : Int) := ⟨l.toNat, by omega⟩
      replace c1 : 0 ≤ (q : Int) ∧ q < 60 := ⟨by omega, by omega⟩
      letI : Decidable (lyT P a q) := Classical.propDecidable _
      by_cases cT : lyT P a q
      · refine e_iload_n dX8_layer_14 rfl ?_
        refine e_if_lt (tgt := 38) ⟨by omega, by omega⟩ dX8_layer_15 rfl (fun c_15 => absurd c_15 (by omega)) (fun c_15 => ?_)
        refine e_iload_n dX8_layer_18 rfl ?_
        refine e_bipush dX8_layer_19 (by decide) ?_
        refine e_icmp_ge (tgt := 38) ⟨by omega, by omega⟩ ⟨by omega, by omega⟩ dX8_layer_21 rfl (fun c_21 => absurd c_21 (by omega)) (fun c_21 => ?_)
        refine e_aload_n dX8_layer_24 rfl ?_
        refine e_iload_n dX8_layer_25 rfl ?_
        refine e_iload_n dX8_layer_26 rfl ?_
        refine e_iconst dX8_layer_27 ?_
        refine e_doesV qcX8_166 X.obj rfl rfl (S_peels (f := 1) X hR.1 ra (by decide) hg (by omega)) rfl rfl rfl rfl dX8_layer_28 ?_
        intro v h9 q9
        obtain ⟨rfl, sc2, ar2, X, hA, hH, hO⟩ := q9
        replace hR := hR.to (hA.wk (by decide) (by decide)) (hO 0 F (by decide) (by decide) hR.2.2.2.2)
        replace ht := (hA.1 0 (by decide)).trans ht
        refine e_ifP_eq (tgt := 38) dX8_layer_31 rfl (fun c_31 => absurd cT c_31) (fun c_31 => ?_)
        refine e_iconst dX8_layer_34 ?_
        refine e_top (bP True) (bP_t trivial).symm ?_
        refine e_goto (tgt := 39) dX8_layer_35 rfl ?_
        refine e_iconst dX8_layer_39 ?_
        refine e_pureV qcX8_104 X.obj rfl rfl (S_fails_t X (p := True) trivial ht) rfl rfl rfl rfl dX8_layer_40 ?_
        refine e_if_eq (tgt := 48) ⟨by decide, by decide⟩ dX8_layer_43 rfl (fun c_43 => ?_) (fun c_43 => absurd rfl c_43)
        refine e_aload_n dX8_layer_48 rfl ?_
        refine e_iload_n dX8_layer_49 rfl ?_
        refine e_iload_n dX8_layer_50 rfl ?_
        refine e_iconst dX8_layer_51 ?_
        refine e_doesV qcX8_166 X.obj rfl rfl (S_peels (f := 0) X hR.1 ra (by decide) hg (by omega)) rfl rfl rfl rfl dX8_layer_52 ?_
        intro v h9 q9
        obtain ⟨rfl, sc2, ar2, X, hA, hH, hO⟩ := q9
        refine e_istore_n dX8_layer_55 rfl ?_
        refine e_aload_n dX8_layer_56 rfl ?_
        refine e_getf fX8_35 X.obj rfl dX8_layer_57 ?_
        refine e_iconst dX8_layer_60 ?_
        refine e_ial X.a7 (by omega) (by omega) rfl rfl dX8_layer_61 ?_
        refine e_iret rfl dX8_layer_62 (by decide) (by decide) ?_
        have hA9 := hA.wk (ks2 := frK) (js2 := frJ) (by decide) (by decide)
        have hF := (hH cT).ceq ((hm q c1.2).2 ((hm q c1.2).1.mp cT))
        rw [show (ar2 7 (0 : Int).toNat) = (((wrapN 61 (lyL P a q)).length : Nat) : Int) from hF.1]
        exact mz (show (k_layer P a (q : Int)) = (0, ((wrapN 61 (lyL P a q)).length : Int)) from (if_pos c_7).trans (if_pos ⟨by omega, (hm q c1.2).1.mp cT⟩)) ⟨rfl, rfl, _, _, X, (by rw [show s_layer P a (q : Int) F = wrapN 61 (lyL P a q) from if_pos ⟨c_7, by omega, (hm q c1.2).1.mp cT⟩]; exact hR.to hA9 hF), (hA.1 0 (by decide)).trans ht⟩
      refine e_iload_n dX8_layer_14 rfl ?_
      refine e_if_lt (tgt := 38) ⟨by omega, by omega⟩ dX8_layer_15 rfl (fun c_15 => absurd c_15 (by omega)) (fun c_15 => ?_)
      refine e_iload_n dX8_layer_18 rfl ?_
      refine e_bipush dX8_layer_19 (by decide) ?_
      refine e_icmp_ge (tgt := 38) ⟨by omega, by omega⟩ ⟨by omega, by omega⟩ dX8_layer_21 rfl (fun c_21 => absurd c_21 (by omega)) (fun c_21 => ?_)
      refine e_aload_n dX8_layer_24 rfl ?_
      refine e_iload_n dX8_layer_25 rfl ?_
      refine e_iload_n dX8_layer_26 rfl ?_
      refine e_iconst dX8_layer_27 ?_
      refine e_doesV qcX8_166 X.obj rfl rfl (S_peels (f := 1) X hR.1 ra (by decide) hg (by omega)) rfl rfl rfl rfl dX8_layer_28 ?_
      intro v h9 q9
      obtain ⟨rfl, sc2, ar2, X, hA, hH, hO⟩ := q9
      replace hR := hR.to (hA.wk (by decide) (by decide)) (hO 0 F (by decide) (by decide) hR.2.2.2.2)
      replace ht := (hA.1 0 (by decide)).trans ht
      refine e_ifP_eq (tgt := 38) dX8_layer_31 rfl (fun c_31 => ?_) (fun c_31 => absurd c_31 cT)
      refine e_iconst dX8_layer_38 ?_
      refine e_top (bP False) (bP_f id).symm ?_
      refine e_iconst dX8_layer_39 ?_
      refine e_doesV qcX8_104 X.obj rfl rfl (S_fails_f X (p := False) id ht ⟨by decide, by decide⟩) rfl rfl rfl rfl dX8_layer_40 ?_
      intro v h9 q9
      obtain ⟨rfl, X⟩ := q9
      refine e_if_eq (tgt := 48) ⟨by decide, by decide⟩ dX8_layer_43 rfl (fun c_43 => absurd c_43 (by decide)) (fun c_43 => ?_)
      refine e_iconst dX8_layer_46 ?_
      refine e_iret rfl dX8_layer_47 (by decide) (by decide) ?_
      exact mz (show (k_layer P a (q : Int)) = (2, 0) from ((if_pos c_7).trans (if_neg (fun w => cT ((hm q c1.2).1.mpr w.2))))) ⟨rfl, rfl, _, _, X, (by rw [show s_layer P a (q : Int) F = F from if_neg (fun w => cT ((hm q c1.2).1.mpr w.2.2))]; exact hR.t0 _), uI_s _ _ _⟩
    by_cases c2 : l < 0
    · refine e_iload_n dX8_layer_14 rfl ?_
      refine e_if_lt (tgt := 38) ⟨by omega, by omega⟩ dX8_layer_15 rfl (fun c_15 => ?_) (fun c_15 => absurd (by omega) c_15)
      refine e_iconst dX8_layer_38 ?_
      refine e_top (bP False) (bP_f id).symm ?_
      refine e_iconst dX8_layer_39 ?_
      refine e_doesV qcX8_104 X.obj rfl rfl (S_fails_f X (p := False) id ht ⟨by decide, by decide⟩) rfl rfl rfl rfl dX8_layer_40 ?_
      intro v h9 q9
      obtain ⟨rfl, X⟩ := q9
      refine e_if_eq (tgt := 48) ⟨by decide, by decide⟩ dX8_layer_43 rfl (fun c_43 => absurd c_43 (by decide)) (fun c_43 => ?_)
      refine e_iconst dX8_layer_46 ?_
      refine e_iret rfl dX8_layer_47 (by decide) (by decide) ?_
      exact mz (show (k_layer P a l) = (2, 0) from ((if_pos c_7).trans (if_neg (fun w => absurd w.1 (by omega))))) ⟨rfl, rfl, _, _, X, (by rw [show s_layer P a l F = F from if_neg (fun w => absurd w.2.1 (by omega))]; exact hR.t0 _), uI_s _ _ _⟩
    refine e_iload_n dX8_layer_14 rfl ?_
    refine e_if_lt (tgt := 38) ⟨by omega, by omega⟩ dX8_layer_15 rfl (fun c_15 => absurd c_15 (by omega)) (fun c_15 => ?_)
    refine e_iload_n dX8_layer_18 rfl ?_
    refine e_bipush dX8_layer_19 (by decide) ?_
    refine e_icmp_ge (tgt := 38) ⟨by omega, by omega⟩ ⟨by omega, by omega⟩ dX8_layer_21 rfl (fun c_21 => ?_) (fun c_21 => absurd (by omega) c_21)
    refine e_iconst dX8_layer_38 ?_
    refine e_top (bP False) (bP_f id).symm ?_
    refine e_iconst dX8_layer_39 ?_
    refine e_doesV qcX8_104 X.obj rfl rfl (S_fails_f X (p := False) id ht ⟨by decide, by decide⟩) rfl rfl rfl rfl dX8_layer_40 ?_
    intro v h9 q9
    obtain ⟨rfl, X⟩ := q9
    refine e_if_eq (tgt := 48) ⟨by decide, by decide⟩ dX8_layer_43 rfl (fun c_43 => absurd c_43 (by decide)) (fun c_43 => ?_)
    refine e_iconst dX8_layer_46 ?_
    refine e_iret rfl dX8_layer_47 (by decide) (by decide) ?_
    exact mz (show (k_layer P a l) = (2, 0) from ((if_pos c_7).trans (if_neg (fun w => w.2 (hm2 (by omega)))))) ⟨rfl, rfl, _, _, X, (by rw [show s_layer P a l F = F from if_neg (fun w => w.2.2 (hm2 (by omega)))]; exact hR.t0 _), uI_s _ _ _⟩
  refine e_doesV qcX8_111 X.obj rfl rfl (S_noHeap_f X ra c_7 ht) rfl rfl rfl rfl dX8_layer_7 ?_
  intro v h9 q9
  obtain ⟨rfl, X⟩ := q9
  refine e_if_ne (tgt := 46) ⟨by decide, by decide⟩ dX8_layer_10 rfl (fun c_10 => ?_) (fun c_10 => absurd (by decide) c_10)
  refine e_iconst dX8_layer_46 ?_
  refine e_iret rfl dX8_layer_47 (by decide) (by decide) ?_
  exact mz (show (k_layer P a l) = (1, 0) from (if_neg c_7)) ⟨rfl, rfl, _, _, X, (by rw [show s_layer P a l F = F from if_neg (fun w => c_7 w.1)]; exact hR.t0 _), uI_s _ _ _⟩
end MEIGHT
