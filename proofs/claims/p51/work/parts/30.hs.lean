/-! The class HullyardSurveys: its 96 cells, and what several calls need -/
theorem plX7 : plainName RX7 = true := by decide +kernel
abbrev xIAE : String := "java/lang/IllegalArgumentException"
abbrev xISE : String := "java/lang/IllegalStateException"
abbrev xIOB : String := "java/lang/IndexOutOfBoundsException"
abbrev xNSE : String := "java/util/NoSuchElementException"
/-- the object o of the class in the world h, and nothing else changed since h0 -/
def hsX (G : g_X) (P E : PL) (S : Nat → PL) (b : Int) (P2 E2 : PL) (S2 : Nat → PL) (F L1 L2 H1 H2 QL : PL) (QT : List Int) (qa : Int) (CA CB : PL) (o : Nat) (h0 h : g_hp) : Prop :=
  h o = some (.inr (4, [.ref (o + 1), .ref (o + 31), .int (iN b), .ref (o + 61), .ref (o + 65), .ref (o + 69), .ref (o + 73), .ref (o + 77), .ref (o + 81), .ref (o + 87)])) ∧ yardAt G P E S (o + 1) h ∧ yardAt G P2 E2 S2 (o + 31) h ∧ rowAt G 61 F (o + 61) h ∧ rowAt G 60 L1 (o + 65) h ∧ rowAt G 60 L2 (o + 69) h ∧ rowAt G 61 H1 (o + 73) h ∧ rowAt G 61 H2 (o + 77) h ∧ parAt G QL QT qa (o + 81) h ∧ cenAt G CA CB (o + 87) h ∧ g_fr o 96 h0 h
section PHS
variable {G : g_X} {P E : PL} {S : Nat → PL} {b : Int} {P2 E2 : PL} {S2 : Nat → PL} {F L1 L2 H1 H2 : PL} {QL : PL} {QT : List Int} {qa : Int} {CA CB : PL} {o : Nat} {h0 h : g_hp}
theorem hsX.obj (X : hsX G P E S b P2 E2 S2 F L1 L2 H1 H2 QL QT qa CA CB o h0 h) : h o = some (.inr (4, [.ref (o + 1), .ref (o + 31), .int (iN b), .ref (o + 61), .ref (o + 65), .ref (o + 69), .ref (o + 73), .ref (o + 77), .ref (o + 81), .ref (o + 87)])) := X.1
theorem hsX.yd (X : hsX G P E S b P2 E2 S2 F L1 L2 H1 H2 QL QT qa CA CB o h0 h) : yardAt G P E S (o + 1) h := X.2.1
theorem hsX.im (X : hsX G P E S b P2 E2 S2 F L1 L2 H1 H2 QL QT qa CA CB o h0 h) : yardAt G P2 E2 S2 (o + 31) h := X.2.2.1
theorem hsX.fg (X : hsX G P E S b P2 E2 S2 F L1 L2 H1 H2 QL QT qa CA CB o h0 h) : rowAt G 61 F (o + 61) h := X.2.2.2.1
theorem hsX.od (X : hsX G P E S b P2 E2 S2 F L1 L2 H1 H2 QL QT qa CA CB o h0 h) : rowAt G 60 L1 (o + 65) h := X.2.2.2.2.1
theorem hsX.ht (X : hsX G P E S b P2 E2 S2 F L1 L2 H1 H2 QL QT qa CA CB o h0 h) : rowAt G 60 L2 (o + 69) h := X.2.2.2.2.2.1
theorem hsX.fh (X : hsX G P E S b P2 E2 S2 F L1 L2 H1 H2 QL QT qa CA CB o h0 h) : rowAt G 61 H1 (o + 73) h := X.2.2.2.2.2.2.1
theorem hsX.sh (X : hsX G P E S b P2 E2 S2 F L1 L2 H1 H2 QL QT qa CA CB o h0 h) : rowAt G 61 H2 (o + 77) h := X.2.2.2.2.2.2.2.1
theorem hsX.pt (X : hsX G P E S b P2 E2 S2 F L1 L2 H1 H2 QL QT qa CA CB o h0 h) : parAt G QL QT qa (o + 81) h := X.2.2.2.2.2.2.2.2.1
theorem hsX.cn (X : hsX G P E S b P2 E2 S2 F L1 L2 H1 H2 QL QT qa CA CB o h0 h) : cenAt G CA CB (o + 87) h := X.2.2.2.2.2.2.2.2.2.1
theorem hsX.fr (X : hsX G P E S b P2 E2 S2 F L1 L2 H1 H2 QL QT qa CA CB o h0 h) : g_fr o 96 h0 h := X.2.2.2.2.2.2.2.2.2.2
theorem hsX.pol (X : hsX G P E S b P2 E2 S2 F L1 L2 H1 H2 QL QT qa CA CB o h0 h) {j : Nat} (hj : j < 4) : rowAt G 16 (S j) (o + 1 + 14 + 4 * j) h := X.yd.pol hj
theorem hsX.wP {P9 : PL} (X : hsX G P E S b P2 E2 S2 F L1 L2 H1 H2 QL QT qa CA CB o h0 h) {h1 : g_hp} (r : rowAt G 60 P9 (o + 1 + 1) h1) (f : g_fr (o + 1 + 1) 4 h h1) : hsX G P9 E S b P2 E2 S2 F L1 L2 H1 H2 QL QT qa CA CB o h0 h1 :=
  ⟨(f _ (by omega)).trans X.obj, X.yd.wP r f, X.im.off f (by omega), X.fg.off f (by omega), X.od.off f (by omega), X.ht.off f (by omega), X.fh.off f (by omega), X.sh.off f (by omega), X.pt.off f (by omega), X.cn.off f (by omega), X.fr.tr (f.wd (by omega) (by omega))⟩
theorem hsX.wE {E9 : PL} (X : hsX G P E S b P2 E2 S2 F L1 L2 H1 H2 QL QT qa CA CB o h0 h) {h1 : g_hp} (r : rowAt G 40 E9 (o + 1 + 5) h1) (f : g_fr (o + 1 + 5) 4 h h1) : hsX G P E9 S b P2 E2 S2 F L1 L2 H1 H2 QL QT qa CA CB o h0 h1 :=
  ⟨(f _ (by omega)).trans X.obj, X.yd.wE r f, X.im.off f (by omega), X.fg.off f (by omega), X.od.off f (by omega), X.ht.off f (by omega), X.fh.off f (by omega), X.sh.off f (by omega), X.pt.off f (by omega), X.cn.off f (by omega), X.fr.tr (f.wd (by omega) (by omega))⟩
theorem hsX.wS {L9 : PL} {j : Nat} (hj : j < 4) (X : hsX G P E S b P2 E2 S2 F L1 L2 H1 H2 QL QT qa CA CB o h0 h) {h1 : g_hp} (r : rowAt G 16 L9 (o + 1 + 14 + 4 * j) h1) (f : g_fr (o + 1 + 14 + 4 * j) 4 h h1) : hsX G P E (uS S j L9) b P2 E2 S2 F L1 L2 H1 H2 QL QT qa CA CB o h0 h1 :=
  ⟨(f _ (by omega)).trans X.obj, X.yd.wS hj r f, X.im.off f (by omega), X.fg.off f (by omega), X.od.off f (by omega), X.ht.off f (by omega), X.fh.off f (by omega), X.sh.off f (by omega), X.pt.off f (by omega), X.cn.off f (by omega), X.fr.tr (f.wd (by omega) (by omega))⟩
theorem hsX.wY {P9 E9 : PL} {S9 : Nat → PL} (X : hsX G P E S b P2 E2 S2 F L1 L2 H1 H2 QL QT qa CA CB o h0 h) {h1 : g_hp} (r : yardAt G P9 E9 S9 (o + 1) h1) (f : g_fr (o + 1) 30 h h1) : hsX G P9 E9 S9 b P2 E2 S2 F L1 L2 H1 H2 QL QT qa CA CB o h0 h1 :=
  ⟨(f _ (by omega)).trans X.obj, r, X.im.off f (by omega), X.fg.off f (by omega), X.od.off f (by omega), X.ht.off f (by omega), X.fh.off f (by omega), X.sh.off f (by omega), X.pt.off f (by omega), X.cn.off f (by omega), X.fr.tr (f.wd (by omega) (by omega))⟩
theorem hsX.wI {P9 E9 : PL} {S9 : Nat → PL} (X : hsX G P E S b P2 E2 S2 F L1 L2 H1 H2 QL QT qa CA CB o h0 h) {h1 : g_hp} (r : yardAt G P9 E9 S9 (o + 31) h1) (f : g_fr (o + 31) 30 h h1) : hsX G P E S b P9 E9 S9 F L1 L2 H1 H2 QL QT qa CA CB o h0 h1 :=
  ⟨(f _ (by omega)).trans X.obj, X.yd.off f (by omega), r, X.fg.off f (by omega), X.od.off f (by omega), X.ht.off f (by omega), X.fh.off f (by omega), X.sh.off f (by omega), X.pt.off f (by omega), X.cn.off f (by omega), X.fr.tr (f.wd (by omega) (by omega))⟩
theorem hsX.wF {L9 : PL} (X : hsX G P E S b P2 E2 S2 F L1 L2 H1 H2 QL QT qa CA CB o h0 h) {h1 : g_hp} (r : rowAt G 61 L9 (o + 61) h1) (f : g_fr (o + 61) 4 h h1) : hsX G P E S b P2 E2 S2 L9 L1 L2 H1 H2 QL QT qa CA CB o h0 h1 :=
  ⟨(f _ (by omega)).trans X.obj, X.yd.off f (by omega), X.im.off f (by omega), r, X.od.off f (by omega), X.ht.off f (by omega), X.fh.off f (by omega), X.sh.off f (by omega), X.pt.off f (by omega), X.cn.off f (by omega), X.fr.tr (f.wd (by omega) (by omega))⟩
theorem hsX.wO {L9 : PL} (X : hsX G P E S b P2 E2 S2 F L1 L2 H1 H2 QL QT qa CA CB o h0 h) {h1 : g_hp} (r : rowAt G 60 L9 (o + 65) h1) (f : g_fr (o + 65) 4 h h1) : hsX G P E S b P2 E2 S2 F L9 L2 H1 H2 QL QT qa CA CB o h0 h1 :=
  ⟨(f _ (by omega)).trans X.obj, X.yd.off f (by omega), X.im.off f (by omega), X.fg.off f (by omega), r, X.ht.off f (by omega), X.fh.off f (by omega), X.sh.off f (by omega), X.pt.off f (by omega), X.cn.off f (by omega), X.fr.tr (f.wd (by omega) (by omega))⟩
theorem hsX.wH {L9 : PL} (X : hsX G P E S b P2 E2 S2 F L1 L2 H1 H2 QL QT qa CA CB o h0 h) {h1 : g_hp} (r : rowAt G 60 L9 (o + 69) h1) (f : g_fr (o + 69) 4 h h1) : hsX G P E S b P2 E2 S2 F L1 L9 H1 H2 QL QT qa CA CB o h0 h1 :=
  ⟨(f _ (by omega)).trans X.obj, X.yd.off f (by omega), X.im.off f (by omega), X.fg.off f (by omega), X.od.off f (by omega), r, X.fh.off f (by omega), X.sh.off f (by omega), X.pt.off f (by omega), X.cn.off f (by omega), X.fr.tr (f.wd (by omega) (by omega))⟩
theorem hsX.w1 {L9 : PL} (X : hsX G P E S b P2 E2 S2 F L1 L2 H1 H2 QL QT qa CA CB o h0 h) {h1 : g_hp} (r : rowAt G 61 L9 (o + 73) h1) (f : g_fr (o + 73) 4 h h1) : hsX G P E S b P2 E2 S2 F L1 L2 L9 H2 QL QT qa CA CB o h0 h1 :=
  ⟨(f _ (by omega)).trans X.obj, X.yd.off f (by omega), X.im.off f (by omega), X.fg.off f (by omega), X.od.off f (by omega), X.ht.off f (by omega), r, X.sh.off f (by omega), X.pt.off f (by omega), X.cn.off f (by omega), X.fr.tr (f.wd (by omega) (by omega))⟩
theorem hsX.w2 {L9 : PL} (X : hsX G P E S b P2 E2 S2 F L1 L2 H1 H2 QL QT qa CA CB o h0 h) {h1 : g_hp} (r : rowAt G 61 L9 (o + 77) h1) (f : g_fr (o + 77) 4 h h1) : hsX G P E S b P2 E2 S2 F L1 L2 H1 L9 QL QT qa CA CB o h0 h1 :=
  ⟨(f _ (by omega)).trans X.obj, X.yd.off f (by omega), X.im.off f (by omega), X.fg.off f (by omega), X.od.off f (by omega), X.ht.off f (by omega), X.fh.off f (by omega), r, X.pt.off f (by omega), X.cn.off f (by omega), X.fr.tr (f.wd (by omega) (by omega))⟩
theorem hsX.wQ {Q9 : PL} {T9 : List Int} {a9 : Int} (X : hsX G P E S b P2 E2 S2 F L1 L2 H1 H2 QL QT qa CA CB o h0 h) {h1 : g_hp} (r : parAt G Q9 T9 a9 (o + 81) h1) (f : g_fr (o + 81) 6 h h1) : hsX G P E S b P2 E2 S2 F L1 L2 H1 H2 Q9 T9 a9 CA CB o h0 h1 :=
  ⟨(f _ (by omega)).trans X.obj, X.yd.off f (by omega), X.im.off f (by omega), X.fg.off f (by omega), X.od.off f (by omega), X.ht.off f (by omega), X.fh.off f (by omega), X.sh.off f (by omega), r, X.cn.off f (by omega), X.fr.tr (f.wd (by omega) (by omega))⟩
theorem hsX.wC {A9 B9 : PL} (X : hsX G P E S b P2 E2 S2 F L1 L2 H1 H2 QL QT qa CA CB o h0 h) {h1 : g_hp} (r : cenAt G A9 B9 (o + 87) h1) (f : g_fr (o + 87) 9 h h1) : hsX G P E S b P2 E2 S2 F L1 L2 H1 H2 QL QT qa A9 B9 o h0 h1 :=
  ⟨(f _ (by omega)).trans X.obj, X.yd.off f (by omega), X.im.off f (by omega), X.fg.off f (by omega), X.od.off f (by omega), X.ht.off f (by omega), X.fh.off f (by omega), X.sh.off f (by omega), X.pt.off f (by omega), r, X.fr.tr (f.wd (by omega) (by omega))⟩
theorem hsX.wB (X : hsX G P E S b P2 E2 S2 F L1 L2 H1 H2 QL QT qa CA CB o h0 h) (c : Int) : hsX G P E S c P2 E2 S2 F L1 L2 H1 H2 QL QT qa CA CB o h0 (g_up h o (.inr (4, [.ref (o + 1), .ref (o + 31), .int (iN c), .ref (o + 61), .ref (o + 65), .ref (o + 69), .ref (o + 73), .ref (o + 77), .ref (o + 81), .ref (o + 87)]))) := by
  have f : g_fr o 1 h (g_up h o (.inr (4, [.ref (o + 1), .ref (o + 31), .int (iN c), .ref (o + 61), .ref (o + 65), .ref (o + 69), .ref (o + 73), .ref (o + 77), .ref (o + 81), .ref (o + 87)]))) := g_fr.rf.up (by omega) (by omega)
  exact ⟨g_up_s _ _ _, X.yd.off f (by omega), X.im.off f (by omega), X.fg.off f (by omega), X.od.off f (by omega), X.ht.off f (by omega), X.fh.off f (by omega), X.sh.off f (by omega), X.pt.off f (by omega), X.cn.off f (by omega), X.fr.tr (f.wd (by omega) (by omega))⟩
abbrev hpOK (a : Int) : Prop := 0 ≤ a ∧ a < 3
abbrev nrOK (x y : Int) : Prop := -200 ≤ x ∧ x ≤ 200 ∧ -200 ≤ y ∧ y ≤ 200
abbrev lnOK (E : PL) (l : Int) : Prop := 0 ≤ l ∧ l < (E.length / 2 : Nat)
abbrev crOK (L : PL) (k : Int) : Prop := 0 ≤ k ∧ k < L.length
abbrev pgOK (j : Int) : Prop := 0 ≤ j ∧ j < 4
theorem ord_len (P : PL) (a : Int) : (putN P a [] P.length).length = cntN P a P.length := by rw [putN_len]; exact Nat.zero_add _
set_option maxRecDepth 20000 in
theorem S_requireHeap {a : Int} (ha : r32 a) (c : hpOK a) : Does G mX7_requireHeap [.int (iN a)] h (fun v h1 => v = none ∧ h1 = h) := by
  have a1 := ha.1
  have a2 := ha.2
  intro z
  refine run_of rfl plX7 rfl ?_
  refine e_iload_n dX7_requireHeap_0 rfl ?_
  refine e_if_lt (tgt := 9) ⟨by omega, by omega⟩ dX7_requireHeap_1 rfl (fun c_1 => ?_) (fun c_1 => ?_)
  · exact absurd c (by omega)
  · refine e_iload_n dX7_requireHeap_4 rfl ?_
    refine e_iconst dX7_requireHeap_5 ?_
    refine e_icmp_lt (tgt := 20) ⟨by omega, by omega⟩ ⟨by omega, by omega⟩ dX7_requireHeap_6 rfl (fun c_6 => ?_) (fun c_6 => ?_)
    · refine e_vret rfl dX7_requireHeap_20 (by decide) (by decide) ?_
      exact ⟨none, rfl, rfl, rfl, rfl⟩
    · exact absurd c (by omega)
set_option maxRecDepth 20000 in
theorem T_requireHeap {a : Int} (ha : r32 a) (c : ¬ (hpOK a)) : Throws G mX7_requireHeap [.int (iN a)] h xIAE := by
  have a1 := ha.1
  have a2 := ha.2
  intro z
  refine run_of rfl plX7 rfl ?_
  refine e_iload_n dX7_requireHeap_0 rfl ?_
  refine e_if_lt (tgt := 9) ⟨by omega, by omega⟩ dX7_requireHeap_1 rfl (fun c_1 => ?_) (fun c_1 => ?_)
  · refine e_throwW (text := "heap is out of range") rfl rfl t_102_106 s_289 dX7_requireHeap_9 dX7_requireHeap_12 dX7_requireHeap_13 dX7_requireHeap_16 dX7_requireHeap_19 rfl rfl (by decide) (by decide) ?_
    exact ⟨rfl, rfl, rfl⟩
  · refine e_iload_n dX7_requireHeap_4 rfl ?_
    refine e_iconst dX7_requireHeap_5 ?_
    refine e_icmp_lt (tgt := 20) ⟨by omega, by omega⟩ ⟨by omega, by omega⟩ dX7_requireHeap_6 rfl (fun c_6 => ?_) (fun c_6 => ?_)
    · refine e_vret rfl dX7_requireHeap_20 (by decide) (by decide) ?_
      exact absurd (show hpOK a from by omega) c
    · refine e_throwW (text := "heap is out of range") rfl rfl t_102_106 s_289 dX7_requireHeap_9 dX7_requireHeap_12 dX7_requireHeap_13 dX7_requireHeap_16 dX7_requireHeap_19 rfl rfl (by decide) (by decide) ?_
      exact ⟨rfl, rfl, rfl⟩
set_option maxRecDepth 20000 in
theorem S_requireNear {x y : Int} (ha : r32 x) (hb : r32 y) (c : nrOK x y) : Does G mX7_requireNear [.int (iN x), .int (iN y)] h (fun v h1 => v = none ∧ h1 = h) := by
  have a1 := ha.1
  have a2 := ha.2
  have b1 := hb.1
  have b2 := hb.2
  intro z
  refine run_of rfl plX7 rfl ?_
  refine e_iload_n dX7_requireNear_0 rfl ?_
  refine e_sipush dX7_requireNear_1 (by decide) ?_
  refine e_icmp_lt (tgt := 28) ⟨by omega, by omega⟩ ⟨by omega, by omega⟩ dX7_requireNear_4 rfl (fun c_4 => ?_) (fun c_4 => ?_)
  · exact absurd c (by omega)
  · refine e_iload_n dX7_requireNear_7 rfl ?_
    refine e_sipush dX7_requireNear_8 (by decide) ?_
    refine e_icmp_gt (tgt := 28) ⟨by omega, by omega⟩ ⟨by omega, by omega⟩ dX7_requireNear_11 rfl (fun c_11 => ?_) (fun c_11 => ?_)
    · exact absurd c (by omega)
    · refine e_iload_n dX7_requireNear_14 rfl ?_
      refine e_sipush dX7_requireNear_15 (by decide) ?_
      refine e_icmp_lt (tgt := 28) ⟨by omega, by omega⟩ ⟨by omega, by omega⟩ dX7_requireNear_18 rfl (fun c_18 => ?_) (fun c_18 => ?_)
      · exact absurd c (by omega)
      · refine e_iload_n dX7_requireNear_21 rfl ?_
        refine e_sipush dX7_requireNear_22 (by decide) ?_
        refine e_icmp_le (tgt := 39) ⟨by omega, by omega⟩ ⟨by omega, by omega⟩ dX7_requireNear_25 rfl (fun c_25 => ?_) (fun c_25 => ?_)
        · refine e_vret rfl dX7_requireNear_39 (by decide) (by decide) ?_
          exact ⟨none, rfl, rfl, rfl, rfl⟩
        · exact absurd c (by omega)
set_option maxRecDepth 20000 in
theorem T_requireNear {x y : Int} (ha : r32 x) (hb : r32 y) (c : ¬ (nrOK x y)) : Throws G mX7_requireNear [.int (iN x), .int (iN y)] h xIAE := by
  have a1 := ha.1
  have a2 := ha.2
  have b1 := hb.1
  have b2 := hb.2
  intro z
  refine run_of rfl plX7 rfl ?_
  refine e_iload_n dX7_requireNear_0 rfl ?_
  refine e_sipush dX7_requireNear_1 (by decide) ?_
  refine e_icmp_lt (tgt := 28) ⟨by omega, by omega⟩ ⟨by omega, by omega⟩ dX7_requireNear_4 rfl (fun c_4 => ?_) (fun c_4 => ?_)
  · refine e_throwW (text := "x or y is out of range") rfl rfl t_102_106 s_291 dX7_requireNear_28 dX7_requireNear_31 dX7_requireNear_32 dX7_requireNear_35 dX7_requireNear_38 rfl rfl (by decide) (by decide) ?_
    exact ⟨rfl, rfl, rfl⟩
  · refine e_iload_n dX7_requireNear_7 rfl ?_
    refine e_sipush dX7_requireNear_8 (by decide) ?_
    refine e_icmp_gt (tgt := 28) ⟨by omega, by omega⟩ ⟨by omega, by omega⟩ dX7_requireNear_11 rfl (fun c_11 => ?_) (fun c_11 => ?_)
    · refine e_throwW (text := "x or y is out of range") rfl rfl t_102_106 s_291 dX7_requireNear_28 dX7_requireNear_31 dX7_requireNear_32 dX7_requireNear_35 dX7_requireNear_38 rfl rfl (by decide) (by decide) ?_
      exact ⟨rfl, rfl, rfl⟩
    · refine e_iload_n dX7_requireNear_14 rfl ?_
      refine e_sipush dX7_requireNear_15 (by decide) ?_
      refine e_icmp_lt (tgt := 28) ⟨by omega, by omega⟩ ⟨by omega, by omega⟩ dX7_requireNear_18 rfl (fun c_18 => ?_) (fun c_18 => ?_)
      · refine e_throwW (text := "x or y is out of range") rfl rfl t_102_106 s_291 dX7_requireNear_28 dX7_requireNear_31 dX7_requireNear_32 dX7_requireNear_35 dX7_requireNear_38 rfl rfl (by decide) (by decide) ?_
        exact ⟨rfl, rfl, rfl⟩
      · refine e_iload_n dX7_requireNear_21 rfl ?_
        refine e_sipush dX7_requireNear_22 (by decide) ?_
        refine e_icmp_le (tgt := 39) ⟨by omega, by omega⟩ ⟨by omega, by omega⟩ dX7_requireNear_25 rfl (fun c_25 => ?_) (fun c_25 => ?_)
        · refine e_vret rfl dX7_requireNear_39 (by decide) (by decide) ?_
          exact absurd (show nrOK x y from by omega) c
        · refine e_throwW (text := "x or y is out of range") rfl rfl t_102_106 s_291 dX7_requireNear_28 dX7_requireNear_31 dX7_requireNear_32 dX7_requireNear_35 dX7_requireNear_38 rfl rfl (by decide) (by decide) ?_
          exact ⟨rfl, rfl, rfl⟩
set_option maxRecDepth 20000 in
theorem S_requirePoint (X : hsX G P E S b P2 E2 S2 F L1 L2 H1 H2 QL QT qa CA CB o h0 h) {i : Int} (ha : r32 i) (c : isPt P i) : Does G mX7_requirePoint [.ref o, .int (iN i)] h (fun v h1 => v = none ∧ h1 = h) := by
  intro z
  refine run_of rfl plX7 rfl ?_
  refine e_aload_n dX7_requirePoint_0 rfl ?_
  refine e_getf fX7_12 X.obj rfl dX7_requirePoint_1 ?_
  refine e_iload_n dX7_requirePoint_4 rfl ?_
  refine e_pureV qcX7_293 X.yd.obj rfl rfl (S_hasPoint X.yd ha) rfl rfl rfl rfl dX7_requirePoint_5 ?_
  refine e_ifP_ne (tgt := 22) dX7_requirePoint_8 rfl (fun c_8 => ?_) (fun c_8 => ?_)
  · refine e_vret rfl dX7_requirePoint_22 (by decide) (by decide) ?_
    exact ⟨none, rfl, rfl, rfl, rfl⟩
  · exact absurd c (by assumption)
set_option maxRecDepth 20000 in
theorem T_requirePoint (X : hsX G P E S b P2 E2 S2 F L1 L2 H1 H2 QL QT qa CA CB o h0 h) {i : Int} (ha : r32 i) (c : ¬ (isPt P i)) : Throws G mX7_requirePoint [.ref o, .int (iN i)] h xIOB := by
  intro z
  refine run_of rfl plX7 rfl ?_
  refine e_aload_n dX7_requirePoint_0 rfl ?_
  refine e_getf fX7_12 X.obj rfl dX7_requirePoint_1 ?_
  refine e_iload_n dX7_requirePoint_4 rfl ?_
  refine e_pureV qcX7_293 X.yd.obj rfl rfl (S_hasPoint X.yd ha) rfl rfl rfl rfl dX7_requirePoint_5 ?_
  refine e_ifP_ne (tgt := 22) dX7_requirePoint_8 rfl (fun c_8 => ?_) (fun c_8 => ?_)
  · refine e_vret rfl dX7_requirePoint_22 (by decide) (by decide) ?_
    exact absurd (show isPt P i from by assumption) c
  · refine e_throwW (text := "there is no such point") rfl rfl t_110_114 s_296 dX7_requirePoint_11 dX7_requirePoint_14 dX7_requirePoint_15 dX7_requirePoint_18 dX7_requirePoint_21 rfl rfl (by decide) (by decide) ?_
    exact ⟨rfl, rfl, rfl⟩
set_option maxRecDepth 20000 in
theorem S_requireLine (X : hsX G P E S b P2 E2 S2 F L1 L2 H1 H2 QL QT qa CA CB o h0 h) {i : Int} (ha : r32 i) (c : lnOK E i) : Does G mX7_requireLine [.ref o, .int (iN i)] h (fun v h1 => v = none ∧ h1 = h) := by
  have a1 := ha.1
  have a2 := ha.2
  have e9 := X.yd.ens.1
  intro z
  refine run_of rfl plX7 rfl ?_
  refine e_iload_n dX7_requireLine_0 rfl ?_
  refine e_if_lt (tgt := 15) ⟨by omega, by omega⟩ dX7_requireLine_1 rfl (fun c_1 => ?_) (fun c_1 => ?_)
  · exact absurd c (by omega)
  · refine e_iload_n dX7_requireLine_4 rfl ?_
    refine e_aload_n dX7_requireLine_5 rfl ?_
    refine e_getf fX7_12 X.obj rfl dX7_requireLine_6 ?_
    refine e_pureV qcX7_229 X.yd.obj rfl rfl (S_lineCount X.yd) rfl rfl rfl rfl dX7_requireLine_9 ?_
    refine e_icmp_lt (tgt := 26) ⟨by omega, by omega⟩ ⟨by omega, by omega⟩ dX7_requireLine_12 rfl (fun c_12 => ?_) (fun c_12 => ?_)
    · refine e_vret rfl dX7_requireLine_26 (by decide) (by decide) ?_
      exact ⟨none, rfl, rfl, rfl, rfl⟩
    · exact absurd c (by omega)
set_option maxRecDepth 20000 in
theorem T_requireLine (X : hsX G P E S b P2 E2 S2 F L1 L2 H1 H2 QL QT qa CA CB o h0 h) {i : Int} (ha : r32 i) (c : ¬ (lnOK E i)) : Throws G mX7_requireLine [.ref o, .int (iN i)] h xIOB := by
  have a1 := ha.1
  have a2 := ha.2
  have e9 := X.yd.ens.1
  intro z
  refine run_of rfl plX7 rfl ?_
  refine e_iload_n dX7_requireLine_0 rfl ?_
  refine e_if_lt (tgt := 15) ⟨by omega, by omega⟩ dX7_requireLine_1 rfl (fun c_1 => ?_) (fun c_1 => ?_)
  · refine e_throwW (text := "there is no such line") rfl rfl t_110_114 s_298 dX7_requireLine_15 dX7_requireLine_18 dX7_requireLine_19 dX7_requireLine_22 dX7_requireLine_25 rfl rfl (by decide) (by decide) ?_
    exact ⟨rfl, rfl, rfl⟩
  · refine e_iload_n dX7_requireLine_4 rfl ?_
    refine e_aload_n dX7_requireLine_5 rfl ?_
    refine e_getf fX7_12 X.obj rfl dX7_requireLine_6 ?_
    refine e_pureV qcX7_229 X.yd.obj rfl rfl (S_lineCount X.yd) rfl rfl rfl rfl dX7_requireLine_9 ?_
    refine e_icmp_lt (tgt := 26) ⟨by omega, by omega⟩ ⟨by omega, by omega⟩ dX7_requireLine_12 rfl (fun c_12 => ?_) (fun c_12 => ?_)
    · refine e_vret rfl dX7_requireLine_26 (by decide) (by decide) ?_
      exact absurd (show lnOK E i from by omega) c
    · refine e_throwW (text := "there is no such line") rfl rfl t_110_114 s_298 dX7_requireLine_15 dX7_requireLine_18 dX7_requireLine_19 dX7_requireLine_22 dX7_requireLine_25 rfl rfl (by decide) (by decide) ?_
      exact ⟨rfl, rfl, rfl⟩
set_option maxRecDepth 20000 in
theorem S_requireCorner {N r : Nat} {L : PL} (hr : rowAt G N L r h) {i : Int} (ha : r32 i) (c : crOK L i) : Does G mX7_requireCorner [.ref r, .int (iN i)] h (fun v h1 => v = none ∧ h1 = h) := by
  have a1 := ha.1
  have a2 := ha.2
  have e9 := hr.1
  have e8 := hr.2.1
  intro z
  refine run_of rfl plX7 rfl ?_
  refine e_iload_n dX7_requireCorner_0 rfl ?_
  refine e_if_lt (tgt := 12) ⟨by omega, by omega⟩ dX7_requireCorner_1 rfl (fun c_1 => ?_) (fun c_1 => ?_)
  · exact absurd c (by omega)
  · refine e_iload_n dX7_requireCorner_4 rfl ?_
    refine e_aload_n dX7_requireCorner_5 rfl ?_
    refine e_pureV qcX7_68 hr.obj rfl rfl (S_size hr) rfl rfl rfl rfl dX7_requireCorner_6 ?_
    refine e_icmp_lt (tgt := 23) ⟨by omega, by omega⟩ ⟨by omega, by omega⟩ dX7_requireCorner_9 rfl (fun c_9 => ?_) (fun c_9 => ?_)
    · refine e_vret rfl dX7_requireCorner_23 (by decide) (by decide) ?_
      exact ⟨none, rfl, rfl, rfl, rfl⟩
    · exact absurd c (by omega)
set_option maxRecDepth 20000 in
theorem T_requireCorner {N r : Nat} {L : PL} (hr : rowAt G N L r h) {i : Int} (ha : r32 i) (c : ¬ (crOK L i)) : Throws G mX7_requireCorner [.ref r, .int (iN i)] h xIOB := by
  have a1 := ha.1
  have a2 := ha.2
  have e9 := hr.1
  have e8 := hr.2.1
  intro z
  refine run_of rfl plX7 rfl ?_
  refine e_iload_n dX7_requireCorner_0 rfl ?_
  refine e_if_lt (tgt := 12) ⟨by omega, by omega⟩ dX7_requireCorner_1 rfl (fun c_1 => ?_) (fun c_1 => ?_)
  · refine e_throwW (text := "there is no such corner") rfl rfl t_110_114 s_300 dX7_requireCorner_12 dX7_requireCorner_15 dX7_requireCorner_16 dX7_requireCorner_19 dX7_requireCorner_22 rfl rfl (by decide) (by decide) ?_
    exact ⟨rfl, rfl, rfl⟩
  · refine e_iload_n dX7_requireCorner_4 rfl ?_
    refine e_aload_n dX7_requireCorner_5 rfl ?_
    refine e_pureV qcX7_68 hr.obj rfl rfl (S_size hr) rfl rfl rfl rfl dX7_requireCorner_6 ?_
    refine e_icmp_lt (tgt := 23) ⟨by omega, by omega⟩ ⟨by omega, by omega⟩ dX7_requireCorner_9 rfl (fun c_9 => ?_) (fun c_9 => ?_)
    · refine e_vret rfl dX7_requireCorner_23 (by decide) (by decide) ?_
      exact absurd (show crOK L i from by omega) c
    · refine e_throwW (text := "there is no such corner") rfl rfl t_110_114 s_300 dX7_requireCorner_12 dX7_requireCorner_15 dX7_requireCorner_16 dX7_requireCorner_19 dX7_requireCorner_22 rfl rfl (by decide) (by decide) ?_
      exact ⟨rfl, rfl, rfl⟩
set_option maxRecDepth 20000 in
theorem S_requireFilled (X : hsX G P E S b P2 E2 S2 F L1 L2 H1 H2 QL QT qa CA CB o h0 h) {a : Int} (ha : r32 a) (c : cntN P a P.length ≠ 0) : Does G mX7_requireFilled [.ref o, .int (iN a)] h (fun v h1 => v = none ∧ h1 = h) := by
  have e9 := X.yd.pts.1
  have e8 := cntN_le P a P.length
  intro z
  refine run_of rfl plX7 rfl ?_
  refine e_aload_n dX7_requireFilled_0 rfl ?_
  refine e_getf fX7_12 X.obj rfl dX7_requireFilled_1 ?_
  refine e_iload_n dX7_requireFilled_4 rfl ?_
  refine e_pureV qcX7_93 X.yd.obj rfl rfl (S_heapSize X.yd ha) rfl rfl rfl rfl dX7_requireFilled_5 ?_
  refine e_if_ne (tgt := 22) ⟨by omega, by omega⟩ dX7_requireFilled_8 rfl (fun c_8 => ?_) (fun c_8 => ?_)
  · refine e_vret rfl dX7_requireFilled_22 (by decide) (by decide) ?_
    exact ⟨none, rfl, rfl, rfl, rfl⟩
  · exact absurd c (by omega)
set_option maxRecDepth 20000 in
theorem T_requireFilled (X : hsX G P E S b P2 E2 S2 F L1 L2 H1 H2 QL QT qa CA CB o h0 h) {a : Int} (ha : r32 a) (c : ¬ (cntN P a P.length ≠ 0)) : Throws G mX7_requireFilled [.ref o, .int (iN a)] h xNSE := by
  have e9 := X.yd.pts.1
  have e8 := cntN_le P a P.length
  intro z
  refine run_of rfl plX7 rfl ?_
  refine e_aload_n dX7_requireFilled_0 rfl ?_
  refine e_getf fX7_12 X.obj rfl dX7_requireFilled_1 ?_
  refine e_iload_n dX7_requireFilled_4 rfl ?_
  refine e_pureV qcX7_93 X.yd.obj rfl rfl (S_heapSize X.yd ha) rfl rfl rfl rfl dX7_requireFilled_5 ?_
  refine e_if_ne (tgt := 22) ⟨by omega, by omega⟩ dX7_requireFilled_8 rfl (fun c_8 => ?_) (fun c_8 => ?_)
  · refine e_vret rfl dX7_requireFilled_22 (by decide) (by decide) ?_
    exact absurd (show cntN P a P.length ≠ 0 from by omega) c
  · refine e_throwNW (text := "the heap is empty") rfl rfl t_163_167 s_302 dX7_requireFilled_11 dX7_requireFilled_14 dX7_requireFilled_15 dX7_requireFilled_18 dX7_requireFilled_21 rfl rfl (by decide) (by decide) ?_
    exact ⟨rfl, rfl, rfl⟩
set_option maxRecDepth 20000 in
theorem S_requireTwoPoints (X : hsX G P E S b P2 E2 S2 F L1 L2 H1 H2 QL QT qa CA CB o h0 h) {a : Int} (ha : r32 a) (c : 2 ≤ cntN P a P.length) : Does G mX7_requireTwoPoints [.ref o, .int (iN a)] h (fun v h1 => v = none ∧ h1 = h) := by
  have e9 := X.yd.pts.1
  have e8 := cntN_le P a P.length
  intro z
  refine run_of rfl plX7 rfl ?_
  refine e_aload_n dX7_requireTwoPoints_0 rfl ?_
  refine e_getf fX7_12 X.obj rfl dX7_requireTwoPoints_1 ?_
  refine e_iload_n dX7_requireTwoPoints_4 rfl ?_
  refine e_pureV qcX7_93 X.yd.obj rfl rfl (S_heapSize X.yd ha) rfl rfl rfl rfl dX7_requireTwoPoints_5 ?_
  refine e_iconst dX7_requireTwoPoints_8 ?_
  refine e_icmp_ge (tgt := 23) ⟨by omega, by omega⟩ ⟨by omega, by omega⟩ dX7_requireTwoPoints_9 rfl (fun c_9 => ?_) (fun c_9 => ?_)
  · refine e_vret rfl dX7_requireTwoPoints_23 (by decide) (by decide) ?_
    exact ⟨none, rfl, rfl, rfl, rfl⟩
  · exact absurd c (by omega)
set_option maxRecDepth 20000 in
theorem T_requireTwoPoints (X : hsX G P E S b P2 E2 S2 F L1 L2 H1 H2 QL QT qa CA CB o h0 h) {a : Int} (ha : r32 a) (c : ¬ (2 ≤ cntN P a P.length)) : Throws G mX7_requireTwoPoints [.ref o, .int (iN a)] h xNSE := by
  have e9 := X.yd.pts.1
  have e8 := cntN_le P a P.length
  intro z
  refine run_of rfl plX7 rfl ?_
  refine e_aload_n dX7_requireTwoPoints_0 rfl ?_
  refine e_getf fX7_12 X.obj rfl dX7_requireTwoPoints_1 ?_
  refine e_iload_n dX7_requireTwoPoints_4 rfl ?_
  refine e_pureV qcX7_93 X.yd.obj rfl rfl (S_heapSize X.yd ha) rfl rfl rfl rfl dX7_requireTwoPoints_5 ?_
  refine e_iconst dX7_requireTwoPoints_8 ?_
  refine e_icmp_ge (tgt := 23) ⟨by omega, by omega⟩ ⟨by omega, by omega⟩ dX7_requireTwoPoints_9 rfl (fun c_9 => ?_) (fun c_9 => ?_)
  · refine e_vret rfl dX7_requireTwoPoints_23 (by decide) (by decide) ?_
    exact absurd (show 2 ≤ cntN P a P.length from by omega) c
  · refine e_throwNW (text := "the heap has fewer than 2 points") rfl rfl t_163_167 s_304 dX7_requireTwoPoints_12 dX7_requireTwoPoints_15 dX7_requireTwoPoints_16 dX7_requireTwoPoints_19 dX7_requireTwoPoints_22 rfl rfl (by decide) (by decide) ?_
    exact ⟨rfl, rfl, rfl⟩
set_option maxRecDepth 20000 in
theorem S_orderHeap (X : hsX G P E S b P2 E2 S2 F L1 L2 H1 H2 QL QT qa CA CB o h0 h) {a : Int} (ha : r32 a) : Does G mX7_orderHeap [.ref o, .int (iN a)] h (fun v h1 => v = none ∧ hsX G P E S b P2 E2 S2 F (putN P a [] P.length) L2 H1 H2 QL QT qa CA CB o h0 h1) := by
  have e9 := X.yd.pts.1
  have e8 := cntN_le P a P.length
  intro z
  refine run_of rfl plX7 rfl ?_
  refine e_aload_n dX7_orderHeap_0 rfl ?_
  refine e_getf fX7_32 X.obj rfl dX7_orderHeap_1 ?_
  refine e_doesV qcX7_168 X.od.obj rfl rfl (S_reset X.od) rfl rfl rfl rfl dX7_orderHeap_4 ?_
  intro v h9 q9
  obtain ⟨rfl, g9, f9⟩ := q9
  replace X := X.wO g9 f9
  clear g9 f9
  refine e_aload_n dX7_orderHeap_7 rfl ?_
  refine e_getf fX7_12 X.obj rfl dX7_orderHeap_8 ?_
  refine e_iload_n dX7_orderHeap_11 rfl ?_
  refine e_aload_n dX7_orderHeap_12 rfl ?_
  refine e_getf fX7_32 X.obj rfl dX7_orderHeap_13 ?_
  refine e_doesV qcX7_137 X.yd.obj rfl rfl (S_putInOrder X.yd ha (by omega) X.od (by rw [List.length_nil]; omega)) rfl rfl rfl rfl dX7_orderHeap_16 ?_
  intro v h9 q9
  obtain ⟨rfl, g9, f9⟩ := q9
  replace X := X.wO g9 f9
  clear g9 f9
  refine e_vret rfl dX7_orderHeap_19 (by decide) (by decide) ?_
  exact ⟨none, rfl, rfl, rfl, X⟩
end PHS
