/-! The reference: hulls -/
abbrev cEq (A B : PL) : Prop := A.length = B.length ∧ ∀ k, k < A.length → pX A k = pX B k ∧ pY A k = pY B k
theorem mdH.ceq {ar : Nat → Nat → Int} {f : Nat} {A B : PL} (x : mdH ar f A) (e : cEq A B) : mdH ar f B := by
  obtain ⟨x1, x2, x3, x4⟩ := x
  obtain ⟨e1, e2⟩ := e
  refine ⟨by rw [← e1]; exact x1, by omega, fun i hi => ?_, fun k hk => ?_⟩
  · rw [← (e2 i (by omega)).1, ← (e2 i (by omega)).2]
    exact x3 i (by omega)
  · rw [← (e2 k (by omega)).1, ← (e2 k (by omega)).2]
    exact x4 k (by omega)
/-- the places laid have a way round, and it is the hull H -/
def gwH (Q H : PL) : Prop := ∃ n, gwc Q n ∧ cEq (gwL Q n) H
theorem mdQ.nil {sc : Nat → Int} {ar : Nat → Nat → Int} (h : sc 7 = 0) : mdQ sc ar [] := ⟨h, Nat.zero_le _, fun i hi => absurd hi (Nat.not_lt_zero _), fun k hk => absurd hk (Nat.not_lt_zero _)⟩
def smI (P : PL) (a b1 : Int) (p : Nat) : Nat → PL
  | 0 => []
  | o + 1 => if pM P p = a ∧ pM P o = b1 then smI P a b1 p o ++ [(pX P p + pX P o, pY P p + pY P o, 0)] else smI P a b1 p o
def smO (P : PL) (a b1 : Int) : Nat → PL
  | 0 => []
  | n + 1 => smO P a b1 n ++ smI P a b1 n P.length
theorem smI_le (P : PL) (a b1 : Int) (p : Nat) : ∀ o, (smI P a b1 p o).length ≤ o
  | 0 => Nat.le_refl _
  | o + 1 => by
    have := smI_le P a b1 p o
    unfold smI
    split
    · rw [List.length_append, List.length_singleton]; omega
    · omega
theorem smO_le (P : PL) (a b1 : Int) (hP : P.length ≤ 60) : ∀ n, (smO P a b1 n).length ≤ 60 * n
  | 0 => Nat.le_refl _
  | n + 1 => by
    have h1 := smO_le P a b1 hP n
    have h2 := smI_le P a b1 n P.length
    unfold smO
    rw [List.length_append]
    omega
def hcN (L : PL) : Nat → PL
  | 0 => []
  | n + 1 => hcN L n ++ [(pX L n, pY L n, 0)]
theorem hcN_len (L : PL) : ∀ n, (hcN L n).length = n
  | 0 => rfl
  | n + 1 => by unfold hcN; rw [List.length_append, List.length_singleton, hcN_len L n]
section MSEVEN
variable {G : g_X} {sc sc0 : Nat → Int} {ar : Nat → Nat → Int} {m : Nat} {h0 h : g_hp} {P E : PL} {S : Nat → PL} {b : Int} {P2 E2 : PL} {S2 : Nat → PL} {F : PL}
set_option maxRecDepth 20000 in
theorem S_hullOfHeap {f n : Nat} (X : mdX G sc ar m h0 h) (hP : mdP sc ar P) {a : Int} (ha : r32 a) (hf : f < 3) (hn : gwc (lhN P a P.length) n) : Does G mX8_hullOfHeap [.ref m, .int (iN f), .int (iN a)] h (fun v h1 => v = some (.int (iN (n : Nat))) ∧ ∃ sc2 ar2, mdX G sc2 ar2 m h0 h1 ∧ mdH ar2 f (gwL (lhN P a P.length) n) ∧ agr [7] [3, 4, 5, 6, 7] sc ar sc2 ar2 ∧ ∀ g F, g < 3 → g ≠ f → mdH ar g F → mdH ar2 g F) := by
  intro z
  refine run_of rfl plX8 rfl ?_
  refine e_aload_n dX8_hullOfHeap_0 rfl ?_
  refine e_iconst dX8_hullOfHeap_1 ?_
  refine e_putf pfX8_136 X.obj rfl rfl rfl dX8_hullOfHeap_2 ?_
  refine X.pto (q := 7) (fun h9 X9 => ?_) rfl
  replace X := X9
  clear X9
  have hP1 : mdP (uI sc 7 0) ar P := hP.to (agr.rf.pk (by decide))
  have hQ : mdQ (uI sc 7 0) ar [] := mdQ.nil (uI_s _ _ _)
  refine e_aload_n dX8_hullOfHeap_5 rfl ?_
  refine e_iload_n dX8_hullOfHeap_6 rfl ?_
  refine e_doesV qcX8_146 X.obj rfl rfl (S_laysHeap X hP1 hQ (by decide) ha) rfl rfl rfl rfl dX8_hullOfHeap_7 ?_
  intro v h9 q9
  obtain ⟨rfl, sc2, ar2, X, hQ, hB⟩ := q9
  rw [List.nil_append] at hQ
  refine e_aload_n dX8_hullOfHeap_10 rfl ?_
  refine e_iload_n dX8_hullOfHeap_11 rfl ?_
  refine e_doesV qcX8_150 X.obj rfl rfl (S_wraps X hQ hf hn) rfl rfl rfl rfl dX8_hullOfHeap_12 ?_
  intro v h9 q9
  obtain ⟨rfl, ar3, X, hH, hC, hO⟩ := q9
  refine e_iret rfl dX8_hullOfHeap_15 (by decide) (by decide) ?_
  refine ⟨_, rfl, rfl, rfl, _, _, X, hH, ((agr.rf.pk (by decide)).tr (hB.wk (by decide) (by decide))).tr (hC.wk (by decide) (by decide)), fun g F hg hgf hG => hO g F hg hgf (hG.to (hB.2 5 (by decide)) (hB.2 6 (by decide)) (hB.2 7 (by decide)))⟩
set_option maxRecDepth 20000 in
theorem M_hull (X : mdX G sc0 ar m h0 h) (hR : mdR sc0 ar P E S b P2 E2 S2 F) {a : Int} (ra : r32 a) (hm : cntN P a P.length ≠ 0 → gwH (lhN P a P.length) (wrapN 61 (putN P a [] P.length))) : Run G mX8_hull [.ref m, .int (iN a)] none h 0 0 (mZ G (k_hull P a) P E S b P2 E2 S2 (s_hull P a F) m h0) := by
  refine run_of rfl plX8 rfl ?_
  refine e_aload_n dX8_hull_0 rfl ?_
  refine e_iconst dX8_hull_1 ?_
  refine e_putf pfX8_1 X.obj rfl rfl rfl dX8_hull_2 ?_
  refine X.pto (q := 0) (fun h9 X9 => ?_) rfl
  replace X := X9
  clear X9
  replace hR := hR.t0 0
  have ht : uI sc0 0 0 0 = 0 := uI_s _ _ _
  generalize uI sc0 0 0 = sc at X hR ht
  refine e_aload_n dX8_hull_5 rfl ?_
  refine e_iload_n dX8_hull_6 rfl ?_
  
  by_cases c_7 : hpOK a
  · refine e_pureV qcX8_111 X.obj rfl rfl (S_noHeap_t X ra c_7 ht) rfl rfl rfl rfl dX8_hull_7 ?_
    refine e_if_ne (tgt := 21) ⟨by decide, by decide⟩ dX8_hull_10 rfl (fun c_10 => absurd rfl c_10) (fun c_10 => ?_)
    refine e_aload_n dX8_hull_13 rfl ?_
    refine e_iload_n dX8_hull_14 rfl ?_
    
    by_cases c_15 : cntN P a P.length ≠ 0
    · refine e_pureV qcX8_153 X.obj rfl rfl (S_isEmpty_t X hR.1 ra c_15 ht) rfl rfl rfl rfl dX8_hull_15 ?_
      refine e_if_eq (tgt := 25) ⟨by decide, by decide⟩ dX8_hull_18 rfl (fun c_18 => ?_) (fun c_18 => absurd rfl c_18)
      refine e_aload_n dX8_hull_25 rfl ?_
      refine e_iconst dX8_hull_26 ?_
      refine e_iload_n dX8_hull_27 rfl ?_
      obtain ⟨n, hn, hE⟩ := hm c_15
      refine e_doesV qcX8_156 X.obj rfl rfl (S_hullOfHeap X hR.1 ra (by decide) hn) rfl rfl rfl rfl dX8_hull_28 ?_
      intro v h9 q9
      obtain ⟨rfl, sc2, ar2, X, hH, hA, hO⟩ := q9
      refine e_iret rfl dX8_hull_31 (by decide) (by decide) ?_
      have hA9 := hA.wk (ks2 := frK) (js2 := frJ) (by decide) (by decide)
      have hF := hH.ceq hE
      have e9 : (gwL (lhN P a P.length) n).length = n := gwL_len _ _
      have e8 := hE.1
      exact mz (show (k_hull P a) = (0, ((wrapN 61 (putN P a [] P.length)).length : Int)) from ((if_pos c_7).trans (if_pos c_15))) ⟨rfl, congrArg _ (congrArg _ (congrArg _ (congrArg _ (by show (n : Int) = ((wrapN 61 (putN P a [] P.length)).length : Int); omega)))), _, _, X, (by rw [show s_hull P a F = wrapN 61 (putN P a [] P.length) from if_pos ⟨c_7, c_15⟩]; exact hR.to hA9 hF), (hA.1 0 (by decide)).trans ht⟩
    refine e_doesV qcX8_153 X.obj rfl rfl (S_isEmpty_f X hR.1 ra c_15 ht) rfl rfl rfl rfl dX8_hull_15 ?_
    intro v h9 q9
    obtain ⟨rfl, X⟩ := q9
    refine e_if_eq (tgt := 25) ⟨by decide, by decide⟩ dX8_hull_18 rfl (fun c_18 => absurd c_18 (by decide)) (fun c_18 => ?_)
    refine e_iconst dX8_hull_21 ?_
    refine e_goto (tgt := 31) dX8_hull_22 rfl ?_
    refine e_iret rfl dX8_hull_31 (by decide) (by decide) ?_
    exact mz (show (k_hull P a) = (2, 0) from ((if_pos c_7).trans (if_neg c_15))) ⟨rfl, rfl, _, _, X, (by rw [show s_hull P a F = F from if_neg (fun w => c_15 w.2)]; exact hR.t0 _), uI_s _ _ _⟩
  refine e_doesV qcX8_111 X.obj rfl rfl (S_noHeap_f X ra c_7 ht) rfl rfl rfl rfl dX8_hull_7 ?_
  intro v h9 q9
  obtain ⟨rfl, X⟩ := q9
  refine e_if_ne (tgt := 21) ⟨by decide, by decide⟩ dX8_hull_10 rfl (fun c_10 => ?_) (fun c_10 => absurd (by decide) c_10)
  refine e_iconst dX8_hull_21 ?_
  refine e_goto (tgt := 31) dX8_hull_22 rfl ?_
  refine e_iret rfl dX8_hull_31 (by decide) (by decide) ?_
  exact mz (show (k_hull P a) = (1, 0) from (if_neg c_7)) ⟨rfl, rfl, _, _, X, (by rw [show s_hull P a F = F from if_neg (fun w => c_7 w.1)]; exact hR.t0 _), uI_s _ _ _⟩
set_option maxRecDepth 20000 in
theorem M_join (X : mdX G sc0 ar m h0 h) (hR : mdR sc0 ar P E S b P2 E2 S2 F) {a : Int} (ra : r32 a) {b1 : Int} (rb1 : r32 b1) (hm : fl2 P a b1 → gwH (lhN P a P.length ++ lhN P b1 P.length) (wrapN 61 (jnL P a b1))) : Run G mX8_join [.ref m, .int (iN a), .int (iN b1)] none h 0 0 (mZ G (k_join P a b1) P E S b P2 E2 S2 (s_join P a b1 F) m h0) := by
  refine run_of rfl plX8 rfl ?_
  refine e_aload_n dX8_join_0 rfl ?_
  refine e_iconst dX8_join_1 ?_
  refine e_putf pfX8_1 X.obj rfl rfl rfl dX8_join_2 ?_
  refine X.pto (q := 0) (fun h9 X9 => ?_) rfl
  replace X := X9
  clear X9
  replace hR := hR.t0 0
  have ht : uI sc0 0 0 0 = 0 := uI_s _ _ _
  generalize uI sc0 0 0 = sc at X hR ht
  refine e_aload_n dX8_join_5 rfl ?_
  refine e_iload_n dX8_join_6 rfl ?_
  refine e_iload_n dX8_join_7 rfl ?_
  
  by_cases c_1 : hp2 a b1
  · by_cases c_2 : fl2 P a b1
    · refine e_pureV qcX8_159 X.obj rfl rfl (S_noHeaps_t X hR.1 ra rb1 c_1 c_2 ht) rfl rfl rfl rfl dX8_join_8 ?_
      refine e_if_eq (tgt := 16) ⟨by decide, by decide⟩ dX8_join_11 rfl (fun c_11 => ?_) (fun c_11 => absurd rfl c_11)
      refine e_aload_n dX8_join_16 rfl ?_
      refine e_iconst dX8_join_17 ?_
      refine e_putf pfX8_136 X.obj rfl rfl rfl dX8_join_18 ?_
      refine X.pto (q := 7) (fun h9 X9 => ?_) rfl
      replace X := X9
      clear X9
      obtain ⟨n, hn, hE⟩ := hm c_2
      have hA1 : agr frK frJ sc ar (uI sc 7 0) ar := agr.rf.pk (by decide)
      have hT1 : uI sc 7 0 0 = 0 := ht
      have hQ : mdQ (uI sc 7 0) ar [] := mdQ.nil (uI_s _ _ _)
      generalize uI sc 7 0 = sc1 at X hQ hA1 hT1
      refine e_aload_n dX8_join_21 rfl ?_
      refine e_iload_n dX8_join_22 rfl ?_
      refine e_doesV qcX8_146 X.obj rfl rfl (S_laysHeap X (hR.1.to hA1) hQ (by decide) ra) rfl rfl rfl rfl dX8_join_23 ?_
      intro v h9 q9
      obtain ⟨rfl, sc2, ar2, X, hQ, hB⟩ := q9
      rw [List.nil_append] at hQ
      have hL := lhN_le P a P.length
      have hP2 := hR.1.2.1
      replace hA1 := hA1.tr (hB.wk (by decide) (by decide))
      replace hT1 := (hB.1 0 (by decide)).trans hT1
      clear hB
      refine e_aload_n dX8_join_26 rfl ?_
      refine e_iload_n dX8_join_27 rfl ?_
      refine e_doesV qcX8_146 X.obj rfl rfl (S_laysHeap X (hR.1.to hA1) hQ (by omega) rb1) rfl rfl rfl rfl dX8_join_28 ?_
      intro v h9 q9
      obtain ⟨rfl, sc3, ar4, X, hQ, hB⟩ := q9
      replace hA1 := hA1.tr (hB.wk (by decide) (by decide))
      replace hT1 := (hB.1 0 (by decide)).trans hT1
      clear hB
      refine e_aload_n dX8_join_31 rfl ?_
      refine e_iconst dX8_join_32 ?_
      refine e_doesV qcX8_150 X.obj rfl rfl (S_wraps X hQ (by decide) hn) rfl rfl rfl rfl dX8_join_33 ?_
      intro v h9 q9
      obtain ⟨rfl, ar3, X, hH, hC, hO⟩ := q9
      replace hA1 := hA1.tr (hC.wk (by decide) (by decide))
      refine e_iret rfl dX8_join_36 (by decide) (by decide) ?_
      have hF := hH.ceq hE
      have e9 : (gwL (lhN P a P.length ++ lhN P b1 P.length) n).length = n := gwL_len _ _
      have e8 := hE.1
      exact mz (show (k_join P a b1) = (0, ((wrapN 61 (jnL P a b1)).length : Int)) from ((if_pos c_1).trans (if_pos c_2))) ⟨rfl, congrArg _ (congrArg _ (congrArg _ (congrArg _ (by show (n : Int) = ((wrapN 61 (jnL P a b1)).length : Int); omega)))), _, _, X, (by rw [show s_join P a b1 F = wrapN 61 (jnL P a b1) from if_pos ⟨c_1, c_2⟩]; exact hR.to hA1 hF), (hC.1 0 (by decide)).trans hT1⟩
    refine e_doesV qcX8_159 X.obj rfl rfl (S_noHeaps_f2 X hR.1 ra rb1 c_1 c_2 ht) rfl rfl rfl rfl dX8_join_8 ?_
    intro v h9 q9
    obtain ⟨rfl, X⟩ := q9
    refine e_if_eq (tgt := 16) ⟨by decide, by decide⟩ dX8_join_11 rfl (fun c_11 => absurd c_11 (by decide)) (fun c_11 => ?_)
    refine e_iconst dX8_join_14 ?_
    refine e_iret rfl dX8_join_15 (by decide) (by decide) ?_
    exact mz (show (k_join P a b1) = (2, 0) from ((if_pos c_1).trans (if_neg c_2))) ⟨rfl, rfl, _, _, X, (by rw [show s_join P a b1 F = F from if_neg (fun w => c_2 w.2)]; exact hR.t0 _), uI_s _ _ _⟩
  refine e_doesV qcX8_159 X.obj rfl rfl (S_noHeaps_f1 X hR.1 ra rb1 c_1 ht) rfl rfl rfl rfl dX8_join_8 ?_
  intro v h9 q9
  obtain ⟨rfl, X⟩ := q9
  refine e_if_eq (tgt := 16) ⟨by decide, by decide⟩ dX8_join_11 rfl (fun c_11 => absurd c_11 (by decide)) (fun c_11 => ?_)
  refine e_iconst dX8_join_14 ?_
  refine e_iret rfl dX8_join_15 (by decide) (by decide) ?_
  exact mz (show (k_join P a b1) = (1, 0) from (if_neg c_1)) ⟨rfl, rfl, _, _, X, (by rw [show s_join P a b1 F = F from if_neg (fun w => c_1 w.1)]; exact hR.t0 _), uI_s _ _ _⟩
set_option maxRecDepth 20000 in
theorem sm_inner {Z : g_Z} {a b1 : Int} (ra : r32 a) (rb1 : r32 b1) {p : Nat} (hp : p < P.length) {Q : PL} (hQl : Q.length + 60 ≤ 3700) (k : ∀ sc1 ar1 h, mdX G sc1 ar1 m h0 h → mdP sc1 ar1 P → mdQ sc1 ar1 (Q ++ smI P a b1 p P.length) → agr [7] [3, 4] sc ar sc1 ar1 → Ev (g_B G mX8_sum 0 0 Z) 0 0 none h 102 [(3, .int (iN (p : Nat))), (0, .ref m), (1, .int (iN a)), (2, .int (iN b1))] []) : ∀ (n o : Nat) (sc1 : Nat → Int) (ar1 : Nat → Nat → Int) (h : g_hp), mdX G sc1 ar1 m h0 h → mdP sc1 ar1 P → mdQ sc1 ar1 (Q ++ smI P a b1 p o) → agr [7] [3, 4] sc ar sc1 ar1 → o + n = P.length → Ev (g_B G mX8_sum 0 0 Z) 0 0 none h 34 [(4, .int (iN (o : Nat))), (3, .int (iN (p : Nat))), (0, .ref m), (1, .int (iN a)), (2, .int (iN b1))] [] := by
  have ra1 := ra.1
  have ra2 := ra.2
  have rb11 := rb1.1
  have rb12 := rb1.2
  intro n
  induction n with
  | zero =>
    intro o sc1 ar1 h X hP hQ hA hon
    obtain ⟨e1, e2, e3, e4⟩ := id hP
    have e9 : o = P.length := by omega
    rw [e9] at hQ
    refine e_iload dX8_sum_34 rfl ?_
    refine e_aload_n dX8_sum_36 rfl ?_
    refine e_getf fX8_108 X.obj rfl dX8_sum_37 ?_
    rw [e1]
    refine e_icmp_ge (tgt := 102) ⟨by omega, by omega⟩ ⟨by omega, by omega⟩ dX8_sum_40 rfl (fun c_40 => ?_) (fun c_40 => absurd (by omega) c_40)
    exact e_loc [(3, .int (iN (p : Nat))), (0, .ref m), (1, .int (iN a)), (2, .int (iN b1))] ⟨rfl, rfl, rfl, rfl, trivial⟩ (k _ _ _ X hP hQ hA)
  | succ n ih =>
    intro o sc1 ar1 h X hP hQ hA hon
    obtain ⟨e1, e2, e3, e4⟩ := id hP
    have ho : o < P.length := by omega
    have b1_ := e3.at hp
    have b2_ := e3.at ho
    have hl := smI_le P a b1 p o
    refine e_iload dX8_sum_34 rfl ?_
    refine e_aload_n dX8_sum_36 rfl ?_
    refine e_getf fX8_108 X.obj rfl dX8_sum_37 ?_
    rw [e1]
    refine e_icmp_ge (tgt := 102) ⟨by omega, by omega⟩ ⟨by omega, by omega⟩ dX8_sum_40 rfl (fun c_40 => absurd c_40 (by omega)) (fun c_40 => ?_)
    refine e_aload_n dX8_sum_43 rfl ?_
    refine e_getf fX8_13 X.obj rfl dX8_sum_44 ?_
    refine e_iload_n dX8_sum_47 rfl ?_
    refine e_ial X.a0 (by omega) (by omega) rfl (e4 p hp).1 dX8_sum_48 ?_
    refine e_iload_n dX8_sum_49 rfl ?_
    refine e_icmp_ne (tgt := 96) ⟨by omega, by omega⟩ ⟨by omega, by omega⟩ dX8_sum_50 rfl (fun c_50 => ?_) (fun c_50 => ?_)
    · have e6 : smI P a b1 p (o + 1) = smI P a b1 p o := if_neg (fun w => c_50 w.1)
      rw [← e6] at hQ
      refine e_iinc dX8_sum_96 rfl ?_
      refine e_goto (tgt := 34) dX8_sum_99 rfl ?_
      exact e_loc [(4, .int (iN (o + 1 : Nat))), (3, .int (iN (p : Nat))), (0, .ref m), (1, .int (iN a)), (2, .int (iN b1))] ⟨rfl, rfl, rfl, rfl, rfl, trivial⟩ (ih (o + 1) _ _ _ X hP hQ hA (by omega))
    · refine e_aload_n dX8_sum_53 rfl ?_
      refine e_getf fX8_13 X.obj rfl dX8_sum_54 ?_
      refine e_iload dX8_sum_57 rfl ?_
      refine e_ial X.a0 (by omega) (by omega) rfl (e4 o ho).1 dX8_sum_59 ?_
      refine e_iload_n dX8_sum_60 rfl ?_
      refine e_icmp_ne (tgt := 96) ⟨by omega, by omega⟩ ⟨by omega, by omega⟩ dX8_sum_61 rfl (fun c_61 => ?_) (fun c_61 => ?_)
      · have e6 : smI P a b1 p (o + 1) = smI P a b1 p o := if_neg (fun w => c_61 w.2)
        rw [← e6] at hQ
        refine e_iinc dX8_sum_96 rfl ?_
        refine e_goto (tgt := 34) dX8_sum_99 rfl ?_
        exact e_loc [(4, .int (iN (o + 1 : Nat))), (3, .int (iN (p : Nat))), (0, .ref m), (1, .int (iN a)), (2, .int (iN b1))] ⟨rfl, rfl, rfl, rfl, rfl, trivial⟩ (ih (o + 1) _ _ _ X hP hQ hA (by omega))
      · have e6 : smI P a b1 p (o + 1) = smI P a b1 p o ++ [(pX P p + pX P o, pY P p + pY P o, 0)] := if_pos ⟨Decidable.of_not_not c_50, Decidable.of_not_not c_61⟩
        refine e_aload_n dX8_sum_64 rfl ?_
        refine e_aload_n dX8_sum_65 rfl ?_
        refine e_getf fX8_17 X.obj rfl dX8_sum_66 ?_
        refine e_iload_n dX8_sum_69 rfl ?_
        refine e_ial X.a1 (by omega) (by omega) rfl (e4 p hp).2.1 dX8_sum_70 ?_
        refine e_aload_n dX8_sum_71 rfl ?_
        refine e_getf fX8_17 X.obj rfl dX8_sum_72 ?_
        refine e_iload dX8_sum_75 rfl ?_
        refine e_ial X.a1 (by omega) (by omega) rfl (e4 o ho).2.1 dX8_sum_77 ?_
        refine e_iadd dX8_sum_78 ?_
        refine e_aload_n dX8_sum_79 rfl ?_
        refine e_getf fX8_20 X.obj rfl dX8_sum_80 ?_
        refine e_iload_n dX8_sum_83 rfl ?_
        refine e_ial X.a2 (by omega) (by omega) rfl (e4 p hp).2.2 dX8_sum_84 ?_
        refine e_aload_n dX8_sum_85 rfl ?_
        refine e_getf fX8_20 X.obj rfl dX8_sum_86 ?_
        refine e_iload dX8_sum_89 rfl ?_
        refine e_ial X.a2 (by omega) (by omega) rfl (e4 o ho).2.2 dX8_sum_91 ?_
        refine e_iadd dX8_sum_92 ?_
        refine e_doesV qcX8_139 X.obj rfl rfl (S_lays X hQ (by rw [List.length_append]; omega) ⟨by omega, by omega⟩ ⟨by omega, by omega⟩) rfl rfl rfl rfl dX8_sum_93 ?_
        intro v h9 q9
        obtain ⟨rfl, sc2, ar2, X, hQ, hB⟩ := q9
        replace hP := hP.to (hB.wk (by decide) (by decide))
        replace hA := hA.tr hB
        rw [List.append_assoc, ← e6] at hQ
        refine e_iinc dX8_sum_96 rfl ?_
        refine e_goto (tgt := 34) dX8_sum_99 rfl ?_
        exact e_loc [(4, .int (iN (o + 1 : Nat))), (3, .int (iN (p : Nat))), (0, .ref m), (1, .int (iN a)), (2, .int (iN b1))] ⟨rfl, rfl, rfl, rfl, rfl, trivial⟩ (ih (o + 1) _ _ _ X hP hQ hA (by omega))
set_option maxRecDepth 20000 in
theorem sm_outer {Z : g_Z} {a b1 : Int} (ra : r32 a) (rb1 : r32 b1) (k : ∀ sc1 ar1 h, mdX G sc1 ar1 m h0 h → mdP sc1 ar1 P → mdQ sc1 ar1 (smO P a b1 P.length) → agr [7] [3, 4] sc ar sc1 ar1 → Ev (g_B G mX8_sum 0 0 Z) 0 0 none h 108 [(0, .ref m)] []) : ∀ (n p : Nat) (sc1 : Nat → Int) (ar1 : Nat → Nat → Int) (h : g_hp), mdX G sc1 ar1 m h0 h → mdP sc1 ar1 P → mdQ sc1 ar1 (smO P a b1 p) → agr [7] [3, 4] sc ar sc1 ar1 → p + n = P.length → Ev (g_B G mX8_sum 0 0 Z) 0 0 none h 23 [(3, .int (iN (p : Nat))), (0, .ref m), (1, .int (iN a)), (2, .int (iN b1))] [] := by
  intro n
  induction n with
  | zero =>
    intro p sc1 ar1 h X hP hQ hA hpn
    obtain ⟨e1, e2, e3, e4⟩ := id hP
    have e9 : p = P.length := by omega
    rw [e9] at hQ
    refine e_iload_n dX8_sum_23 rfl ?_
    refine e_aload_n dX8_sum_24 rfl ?_
    refine e_getf fX8_108 X.obj rfl dX8_sum_25 ?_
    rw [e1]
    refine e_icmp_ge (tgt := 108) ⟨by omega, by omega⟩ ⟨by omega, by omega⟩ dX8_sum_28 rfl (fun c_28 => ?_) (fun c_28 => absurd (by omega) c_28)
    exact e_loc [(0, .ref m)] ⟨rfl, trivial⟩ (k _ _ _ X hP hQ hA)
  | succ n ih =>
    intro p sc1 ar1 h X hP hQ hA hpn
    obtain ⟨e1, e2, e3, e4⟩ := id hP
    have hp : p < P.length := by omega
    have hl := smO_le P a b1 e2 p
    refine e_iload_n dX8_sum_23 rfl ?_
    refine e_aload_n dX8_sum_24 rfl ?_
    refine e_getf fX8_108 X.obj rfl dX8_sum_25 ?_
    rw [e1]
    refine e_icmp_ge (tgt := 108) ⟨by omega, by omega⟩ ⟨by omega, by omega⟩ dX8_sum_28 rfl (fun c_28 => absurd c_28 (by omega)) (fun c_28 => ?_)
    refine e_iconst dX8_sum_31 ?_
    refine e_istore dX8_sum_32 rfl ?_
    refine e_loc [(4, .int (iN (0 : Nat))), (3, .int (iN (p : Nat))), (0, .ref m), (1, .int (iN a)), (2, .int (iN b1))] ⟨rfl, rfl, rfl, rfl, rfl, trivial⟩ (sm_inner (Q := smO P a b1 p) ra rb1 hp (by omega) (fun sc1 ar1 h X hP hQ hA => ?_) _ 0 _ _ _ X hP (by rw [show smI P a b1 p 0 = [] from rfl, List.append_nil]; exact hQ) hA (Nat.zero_add _))
    refine e_iinc dX8_sum_102 rfl ?_
    refine e_goto (tgt := 23) dX8_sum_105 rfl ?_
    exact e_loc [(3, .int (iN (p + 1 : Nat))), (0, .ref m), (1, .int (iN a)), (2, .int (iN b1))] ⟨rfl, rfl, rfl, rfl, trivial⟩ (ih (p + 1) _ _ _ X hP hQ hA (by omega))
set_option maxRecDepth 20000 in
theorem M_sum (X : mdX G sc0 ar m h0 h) (hR : mdR sc0 ar P E S b P2 E2 S2 F) {a : Int} (ra : r32 a) {b1 : Int} (rb1 : r32 b1) (hm : fl2 P a b1 → gwH (smO P a b1 P.length) (smL P a b1)) : Run G mX8_sum [.ref m, .int (iN a), .int (iN b1)] none h 0 0 (mZ G (k_sum P a b1) P E S b P2 E2 S2 (s_sum P a b1 F) m h0) := by
  refine run_of rfl plX8 rfl ?_
  refine e_aload_n dX8_sum_0 rfl ?_
  refine e_iconst dX8_sum_1 ?_
  refine e_putf pfX8_1 X.obj rfl rfl rfl dX8_sum_2 ?_
  refine X.pto (q := 0) (fun h9 X9 => ?_) rfl
  replace X := X9
  clear X9
  replace hR := hR.t0 0
  have ht : uI sc0 0 0 0 = 0 := uI_s _ _ _
  generalize uI sc0 0 0 = sc at X hR ht
  refine e_aload_n dX8_sum_5 rfl ?_
  refine e_iload_n dX8_sum_6 rfl ?_
  refine e_iload_n dX8_sum_7 rfl ?_
  
  by_cases c_1 : hp2 a b1
  · by_cases c_2 : fl2 P a b1
    · refine e_pureV qcX8_159 X.obj rfl rfl (S_noHeaps_t X hR.1 ra rb1 c_1 c_2 ht) rfl rfl rfl rfl dX8_sum_8 ?_
      refine e_if_eq (tgt := 16) ⟨by decide, by decide⟩ dX8_sum_11 rfl (fun c_11 => ?_) (fun c_11 => absurd rfl c_11)
      refine e_aload_n dX8_sum_16 rfl ?_
      refine e_iconst dX8_sum_17 ?_
      refine e_putf pfX8_136 X.obj rfl rfl rfl dX8_sum_18 ?_
      refine X.pto (q := 7) (fun h9 X9 => ?_) rfl
      replace X := X9
      clear X9
      obtain ⟨n, hn, hE⟩ := hm c_2
      have hA1 : agr frK frJ sc ar (uI sc 7 0) ar := agr.rf.pk (by decide)
      have hT1 : uI sc 7 0 0 = 0 := ht
      have hQ : mdQ (uI sc 7 0) ar [] := mdQ.nil (uI_s _ _ _)
      generalize uI sc 7 0 = sc1 at X hQ hA1 hT1
      refine e_iconst dX8_sum_21 ?_
      refine e_istore_n dX8_sum_22 rfl ?_
      refine e_loc [(3, .int (iN (0 : Nat))), (0, .ref m), (1, .int (iN a)), (2, .int (iN b1))] ⟨rfl, rfl, rfl, rfl, trivial⟩ (sm_outer ra rb1 (fun sc2 ar2 h X hP hQ hB => ?_) _ 0 _ _ _ X (hR.1.to hA1) hQ agr.rf (Nat.zero_add _))
      replace hA1 := hA1.tr (hB.wk (by decide) (by decide))
      replace hT1 := (hB.1 0 (by decide)).trans hT1
      refine e_aload_n dX8_sum_108 rfl ?_
      refine e_iconst dX8_sum_109 ?_
      refine e_doesV qcX8_150 X.obj rfl rfl (S_wraps X hQ (by decide) hn) rfl rfl rfl rfl dX8_sum_110 ?_
      intro v h9 q9
      obtain ⟨rfl, ar3, X, hH, hC, hO⟩ := q9
      replace hA1 := hA1.tr (hC.wk (by decide) (by decide))
      refine e_iret rfl dX8_sum_113 (by decide) (by decide) ?_
      have hF := hH.ceq hE
      have e9 : (gwL (smO P a b1 P.length) n).length = n := gwL_len _ _
      have e8 := hE.1
      exact mz (show (k_sum P a b1) = (0, ((smL P a b1).length : Int)) from ((if_pos c_1).trans (if_pos c_2))) ⟨rfl, congrArg _ (congrArg _ (congrArg _ (congrArg _ (by show (n : Int) = ((smL P a b1).length : Int); omega)))), _, _, X, (by rw [show s_sum P a b1 F = smL P a b1 from if_pos ⟨c_1, c_2⟩]; exact hR.to hA1 hF), (hC.1 0 (by decide)).trans hT1⟩
    refine e_doesV qcX8_159 X.obj rfl rfl (S_noHeaps_f2 X hR.1 ra rb1 c_1 c_2 ht) rfl rfl rfl rfl dX8_sum_8 ?_
    intro v h9 q9
    obtain ⟨rfl, X⟩ := q9
    refine e_if_eq (tgt := 16) ⟨by decide, by decide⟩ dX8_sum_11 rfl (fun c_11 => absurd c_11 (by decide)) (fun c_11 => ?_)
    refine e_iconst dX8_sum_14 ?_
    refine e_iret rfl dX8_sum_15 (by decide) (by decide) ?_
    exact mz (show (k_sum P a b1) = (2, 0) from ((if_pos c_1).trans (if_neg c_2))) ⟨rfl, rfl, _, _, X, (by rw [show s_sum P a b1 F = F from if_neg (fun w => c_2 w.2)]; exact hR.t0 _), uI_s _ _ _⟩
  refine e_doesV qcX8_159 X.obj rfl rfl (S_noHeaps_f1 X hR.1 ra rb1 c_1 ht) rfl rfl rfl rfl dX8_sum_8 ?_
  intro v h9 q9
  obtain ⟨rfl, X⟩ := q9
  refine e_if_eq (tgt := 16) ⟨by decide, by decide⟩ dX8_sum_11 rfl (fun c_11 => absurd c_11 (by decide)) (fun c_11 => ?_)
  refine e_iconst dX8_sum_14 ?_
  refine e_iret rfl dX8_sum_15 (by decide) (by decide) ?_
  exact mz (show (k_sum P a b1) = (1, 0) from (if_neg c_1)) ⟨rfl, rfl, _, _, X, (by rw [show s_sum P a b1 F = F from if_neg (fun w => c_1 w.1)]; exact hR.t0 _), uI_s _ _ _⟩
set_option maxRecDepth 20000 in
theorem hc_loop8 {Z : g_Z} {g : Nat} (hg : g < 4) (k : ∀ sc1 ar1 h, mdX G sc1 ar1 m h0 h → mdQ sc1 ar1 (hcN (S g) (S g).length) → agr [7] [3, 4] sc ar sc1 ar1 → Ev (g_B G mX8_hullOf 0 0 Z) 0 0 none h 86 [(0, .ref m)] []) : ∀ (n i : Nat) (sc1 : Nat → Int) (ar1 : Nat → Nat → Int) (h : g_hp), mdX G sc1 ar1 m h0 h → mdS ar1 S → mdQ sc1 ar1 (hcN (S g) i) → agr [7] [3, 4] sc ar sc1 ar1 → i + n = (S g).length → Ev (g_B G mX8_hullOf 0 0 Z) 0 0 none h 44 [(2, .int (iN (i : Nat))), (0, .ref m), (1, .int (iN g))] [] := by
  intro n
  induction n with
  | zero =>
    intro i sc1 ar1 h X hS hQ hA hin
    obtain ⟨s1, s2, s3, s4⟩ := hS g hg
    have e9 : i = (S g).length := by omega
    rw [e9] at hQ
    refine e_iload_n dX8_hullOf_44 rfl ?_
    refine e_aload_n dX8_hullOf_45 rfl ?_
    refine e_getf fX8_48 X.obj rfl dX8_hullOf_46 ?_
    refine e_iload_n dX8_hullOf_49 rfl ?_
    refine e_ial X.a11 (by omega) (by omega) rfl s1 dX8_hullOf_50 ?_
    refine e_icmp_ge (tgt := 86) ⟨by omega, by omega⟩ ⟨by omega, by omega⟩ dX8_hullOf_51 rfl (fun c_51 => ?_) (fun c_51 => absurd (by omega) c_51)
    exact e_loc [(0, .ref m)] ⟨rfl, trivial⟩ (k _ _ _ X hQ hA)
  | succ n ih =>
    intro i sc1 ar1 h X hS hQ hA hin
    obtain ⟨s1, s2, s3, s4⟩ := hS g hg
    have hi : i < (S g).length := by omega
    have hb := s3.at hi
    refine e_iload_n dX8_hullOf_44 rfl ?_
    refine e_aload_n dX8_hullOf_45 rfl ?_
    refine e_getf fX8_48 X.obj rfl dX8_hullOf_46 ?_
    refine e_iload_n dX8_hullOf_49 rfl ?_
    refine e_ial X.a11 (by omega) (by omega) rfl s1 dX8_hullOf_50 ?_
    refine e_icmp_ge (tgt := 86) ⟨by omega, by omega⟩ ⟨by omega, by omega⟩ dX8_hullOf_51 rfl (fun c_51 => absurd c_51 (by omega)) (fun c_51 => ?_)
    refine e_aload_n dX8_hullOf_54 rfl ?_
    refine e_aload_n dX8_hullOf_55 rfl ?_
    refine e_getf fX8_42 X.obj rfl dX8_hullOf_56 ?_
    refine e_bipush dX8_hullOf_59 (by decide) ?_
    refine e_iload_n dX8_hullOf_61 rfl ?_
    refine e_imul dX8_hullOf_62 ?_
    refine e_iload_n dX8_hullOf_63 rfl ?_
    refine e_iadd dX8_hullOf_64 ?_
    refine e_ial X.a9 (by omega) (by omega) rfl ((congrArg _ (show (16 * ((g : Nat) : Int) + ((i : Nat) : Int)).toNat = 16 * g + i by omega)).trans (s4 i hi).1) dX8_hullOf_65 ?_
    refine e_aload_n dX8_hullOf_66 rfl ?_
    refine e_getf fX8_45 X.obj rfl dX8_hullOf_67 ?_
    refine e_bipush dX8_hullOf_70 (by decide) ?_
    refine e_iload_n dX8_hullOf_72 rfl ?_
    refine e_imul dX8_hullOf_73 ?_
    refine e_iload_n dX8_hullOf_74 rfl ?_
    refine e_iadd dX8_hullOf_75 ?_
    refine e_ial X.a10 (by omega) (by omega) rfl ((congrArg _ (show (16 * ((g : Nat) : Int) + ((i : Nat) : Int)).toNat = 16 * g + i by omega)).trans (s4 i hi).2) dX8_hullOf_76 ?_
    refine e_doesV qcX8_139 X.obj rfl rfl (S_lays X hQ (by rw [hcN_len]; omega) ⟨by omega, by omega⟩ ⟨by omega, by omega⟩) rfl rfl rfl rfl dX8_hullOf_77 ?_
    intro v h9 q9
    obtain ⟨rfl, sc2, ar2, X, hQ, hB⟩ := q9
    replace hS := hS.to (hB.wk (by decide) (by decide))
    replace hA := hA.tr hB
    refine e_iinc dX8_hullOf_80 rfl ?_
    refine e_goto (tgt := 44) dX8_hullOf_83 rfl ?_
    exact e_loc [(2, .int (iN (i + 1 : Nat))), (0, .ref m), (1, .int (iN g))] ⟨rfl, rfl, rfl, trivial⟩ (ih (i + 1) _ _ _ X hS hQ hA (by omega))
set_option maxRecDepth 20000 in
theorem M_hullOf (X : mdX G sc0 ar m h0 h) (hR : mdR sc0 ar P E S b P2 E2 S2 F) {j : Int} (rj : r32 j) (hm : ∀ g : Nat, g < 4 → (S g).length ≠ 0 → gwH (hcN (S g) (S g).length) (wrapN 61 (hoL (S g)))) : Run G mX8_hullOf [.ref m, .int (iN j)] none h 0 0 (mZ G (k_hullOf S j) P E S b P2 E2 S2 (s_hullOf S j F) m h0) := by
  have rj1 := rj.1
  have rj2 := rj.2
  refine run_of rfl plX8 rfl ?_
  refine e_aload_n dX8_hullOf_0 rfl ?_
  refine e_iconst dX8_hullOf_1 ?_
  refine e_putf pfX8_1 X.obj rfl rfl rfl dX8_hullOf_2 ?_
  refine X.pto (q := 0) (fun h9 X9 => ?_) rfl
  replace X := X9
  clear X9
  replace hR := hR.t0 0
  have ht : uI sc0 0 0 0 = 0 := uI_s _ _ _
  generalize uI sc0 0 0 = sc at X hR ht
  refine e_aload_n dX8_hullOf_5 rfl ?_
  refine e_iload_n dX8_hullOf_6 rfl ?_
  
  by_cases c_7 : pgOK j
  · obtain ⟨g, rfl⟩ : ∃ g : Nat, j = (g : Int) := ⟨j.toNat, by omega⟩
    have hg : g < 4 := by omega
    obtain ⟨s1, s2, s3, s4⟩ := hR.2.2.1 g hg
    refine e_pureV qcX8_195 X.obj rfl rfl (S_noPolygon_t X rj c_7 ht) rfl rfl rfl rfl dX8_hullOf_7 ?_
    refine e_if_ne (tgt := 35) ⟨by decide, by decide⟩ dX8_hullOf_10 rfl (fun c_10 => absurd rfl c_10) (fun c_10 => ?_)
    refine e_aload_n dX8_hullOf_13 rfl ?_
    refine e_aload_n dX8_hullOf_14 rfl ?_
    refine e_getf fX8_48 X.obj rfl dX8_hullOf_15 ?_
    refine e_iload_n dX8_hullOf_18 rfl ?_
    refine e_ial X.a11 (by omega) (by omega) rfl s1 dX8_hullOf_19 ?_
    
    by_cases c_20 : (S g).length ≠ 0
    · refine e_if_le (tgt := 27) ⟨by omega, by omega⟩ dX8_hullOf_20 rfl (fun c_0 => absurd c_0 (by omega)) (fun c_0 => ?_)
      refine e_iconst dX8_hullOf_23 ?_
      refine e_top (bP ((S g).length ≠ 0)) (bP_t c_20).symm ?_
      refine e_goto (tgt := 28) dX8_hullOf_24 rfl ?_
      refine e_iconst dX8_hullOf_28 ?_
      refine e_pureV qcX8_104 X.obj rfl rfl (S_fails_t X c_20 ht) rfl rfl rfl rfl dX8_hullOf_29 ?_
      refine e_if_eq (tgt := 37) ⟨by decide, by decide⟩ dX8_hullOf_32 rfl (fun c_32 => ?_) (fun c_32 => absurd rfl c_32)
      refine e_aload_n dX8_hullOf_37 rfl ?_
      refine e_iconst dX8_hullOf_38 ?_
      refine e_putf pfX8_136 X.obj rfl rfl rfl dX8_hullOf_39 ?_
      refine X.pto (q := 7) (fun h9 X9 => ?_) rfl
      replace X := X9
      clear X9
      obtain ⟨n, hn, hE⟩ := hm g hg c_20
      have hA1 : agr frK frJ sc ar (uI sc 7 0) ar := agr.rf.pk (by decide)
      have hT1 : uI sc 7 0 0 = 0 := ht
      have hQ : mdQ (uI sc 7 0) ar [] := mdQ.nil (uI_s _ _ _)
      generalize uI sc 7 0 = sc1 at X hQ hA1 hT1
      refine e_iconst dX8_hullOf_42 ?_
      refine e_istore_n dX8_hullOf_43 rfl ?_
      refine e_loc [(2, .int (iN (0 : Nat))), (0, .ref m), (1, .int (iN g))] ⟨rfl, rfl, rfl, trivial⟩ (hc_loop8 hg (fun sc2 ar2 h X hQ hB => ?_) _ 0 _ _ _ X (hR.2.2.1.to hA1) hQ agr.rf (Nat.zero_add _))
      replace hA1 := hA1.tr (hB.wk (by decide) (by decide))
      replace hT1 := (hB.1 0 (by decide)).trans hT1
      refine e_aload_n dX8_hullOf_86 rfl ?_
      refine e_iconst dX8_hullOf_87 ?_
      refine e_doesV qcX8_150 X.obj rfl rfl (S_wraps X hQ (by decide) hn) rfl rfl rfl rfl dX8_hullOf_88 ?_
      intro v h9 q9
      obtain ⟨rfl, ar3, X, hH, hC, hO⟩ := q9
      replace hA1 := hA1.tr (hC.wk (by decide) (by decide))
      refine e_iret rfl dX8_hullOf_91 (by decide) (by decide) ?_
      have hF := hH.ceq hE
      have e9 : (gwL (hcN (S g) (S g).length) n).length = n := gwL_len _ _
      have e8 := hE.1
      exact mz (show (k_hullOf S (g : Int)) = (0, ((wrapN 61 (hoL (S g))).length : Int)) from ((if_pos c_7).trans (if_pos c_20))) ⟨rfl, congrArg _ (congrArg _ (congrArg _ (congrArg _ (by show (n : Int) = ((wrapN 61 (hoL (S g))).length : Int); omega)))), _, _, X, (by rw [show s_hullOf S (g : Int) F = wrapN 61 (hoL (S g)) from if_pos ⟨c_7, c_20⟩]; exact hR.to hA1 hF), (hC.1 0 (by decide)).trans hT1⟩
    refine e_if_le (tgt := 27) ⟨by omega, by omega⟩ dX8_hullOf_20 rfl (fun c_0 => ?_) (fun c_0 => absurd (by omega) c_0)
    refine e_iconst dX8_hullOf_27 ?_
    refine e_top (bP ((S g).length ≠ 0)) (bP_f c_20).symm ?_
    refine e_iconst dX8_hullOf_28 ?_
    refine e_doesV qcX8_104 X.obj rfl rfl (S_fails_f X c_20 ht ⟨by decide, by decide⟩) rfl rfl rfl rfl dX8_hullOf_29 ?_
    intro v h9 q9
    obtain ⟨rfl, X⟩ := q9
    refine e_if_eq (tgt := 37) ⟨by decide, by decide⟩ dX8_hullOf_32 rfl (fun c_32 => absurd c_32 (by decide)) (fun c_32 => ?_)
    refine e_iconst dX8_hullOf_35 ?_
    refine e_iret rfl dX8_hullOf_36 (by decide) (by decide) ?_
    exact mz (show (k_hullOf S (g : Int)) = (2, 0) from ((if_pos c_7).trans (if_neg c_20))) ⟨rfl, rfl, _, _, X, (by rw [show s_hullOf S (g : Int) F = F from if_neg (fun w => c_20 w.2)]; exact hR.t0 _), uI_s _ _ _⟩
  refine e_doesV qcX8_195 X.obj rfl rfl (S_noPolygon_f X rj c_7 ht) rfl rfl rfl rfl dX8_hullOf_7 ?_
  intro v h9 q9
  obtain ⟨rfl, X⟩ := q9
  refine e_if_ne (tgt := 35) ⟨by decide, by decide⟩ dX8_hullOf_10 rfl (fun c_10 => ?_) (fun c_10 => absurd (by decide) c_10)
  refine e_iconst dX8_hullOf_35 ?_
  refine e_iret rfl dX8_hullOf_36 (by decide) (by decide) ?_
  exact mz (show (k_hullOf S j) = (1, 0) from (if_neg c_7)) ⟨rfl, rfl, _, _, X, (by rw [show s_hullOf S j F = F from if_neg (fun w => c_7 w.1)]; exact hR.t0 _), uI_s _ _ _⟩
end MSEVEN
