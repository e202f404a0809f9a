/-! The law: apart; a second object of the class beside the first -/
set_option maxRecDepth 20000 in
theorem vlL_7 : (.classLink RL 7 RX7 : Cond) ∈ GW := gw1 26 rfl rfl
set_option maxRecDepth 20000 in
theorem vn_X7 : (.instantiable RX7 10 : Cond) ∈ GW := gw1 27 rfl rfl
set_option maxRecDepth 20000 in
theorem vi_X7 : (.initialized RX7 : Cond) ∈ GW := gw1 1 rfl rfl
section LAWR10
variable {G : g_X} {M0 : g_M} {K : Nat} {Z : g_Z} {k : Nat} {h : g_hp} {pc : Nat} {L : List (Nat × Value)} {st : List Value} {x pt sd cr : Int} {HP XS YS GX GY FX FY : Nat → Int} {P E : PL} {S : Nat → PL} {b : Int} {P2 E2 : PL} {S2 : Nat → PL} {F : PL} {P' E' : PL} {S' : Nat → PL} {b' : Int} {P2' E2' : PL} {S2' : Nat → PL} {F' : PL} {P'' E'' : PL} {S'' : Nat → PL} {b'' : Int} {P2'' E2'' : PL} {S2'' : Nat → PL} {F'' : PL} {l q : Nat}
theorem lwW.mv {h1 : g_hp} (W : lwW G x pt sd cr HP XS YS GX GY FX FY P E S b P2 E2 S2 F l h) (f : ∀ a, l ≤ a → a < l + 104 → h1 a = h a) : lwW G x pt sd cr HP XS YS GX GY FX FY P E S b P2 E2 S2 F l h1 := by
  obtain ⟨⟨a0, a1, a2, a3, a4, a5, a6, a7⟩, Y⟩ := W
  exact ⟨⟨(f _ (by omega) (by omega)).trans a0, (f _ (by omega) (by omega)).trans a1, (f _ (by omega) (by omega)).trans a2, (f _ (by omega) (by omega)).trans a3, (f _ (by omega) (by omega)).trans a4, (f _ (by omega) (by omega)).trans a5, (f _ (by omega) (by omega)).trans a6, (f _ (by omega) (by omega)).trans a7⟩, Y.mv (fun a h1 h2 => f a (by omega) (by omega))⟩
/-- a call of the second object -/
theorem e_hi {M : g_M} {idx a : Nat} {As rest : List Value} {v9 : Value} (hq : l + 104 ≤ q) (W : lwW G x pt sd cr HP XS YS GX GY FX FY P E S b P2 E2 S2 F l h) (Y : hsY G P' E' S' b' P2' E2' S2' F' q h) (hc : g_cV M0.1.cls idx M a) (hcl : RX7 = M.1.cls) (hr : ∀ L1 L2 H1 H2 QL QT qa CA CB, hsX G P' E' S' b' P2' E2' S2' F' L1 L2 H1 H2 QL QT qa CA CB q h h → Run G M (.ref q :: As) none h 1 6 (zK G (.inl (some v9)) P'' E'' S'' b'' P2'' E2'' S2'' F'' q h)) (hst : st = As.reverse ++ .ref q :: rest) (hlen : As.length = a) (hW : Nat.ble (rest.map fun v => v.category).sum 14 = true) (hrm : (Nat.ble (M.2.2.2.2.1.1 + 1) M0.2.2.2.2.1.1 && Nat.ble (14 + (M.2.2.1 + 11) + M.2.2.2.2.1.2) M0.2.2.2.2.1.2) = true) (hk : k + 1 ≤ K) (hd : decode M0.2.1 pc = .ok (.invokevirtual idx, 3))
    (kk : ∀ h1, lwW G x pt sd cr HP XS YS GX GY FX FY P E S b P2 E2 S2 F l h1 → hsY G P'' E'' S'' b'' P2'' E2'' S2'' F'' q h1 → Ev (g_B G M0 K (6 * K) Z) (k + 1) (6 * (k + 1)) none h1 (pc + 3) L (v9 :: rest)) : Ev (g_B G M0 K (6 * K) Z) k (6 * k) none h pc L st :=
  e_hsO (C := g_B G M0 K (6 * K) Z) Y hc hcl hr hst hlen hW hrm hk (show 6 * k + 6 ≤ 6 * K by omega) hd (fun h1 Y1 f1 => kk h1 (W.mv (fun a _ h2 => f1 a (by omega))) Y1)
/-- a call of the first object, the second beside -/
theorem e_ho {M : g_M} {idx a : Nat} {As rest : List Value} {v9 : Value} (hq : l + 104 ≤ q) (W : lwW G x pt sd cr HP XS YS GX GY FX FY P E S b P2 E2 S2 F l h) (Y : hsY G P' E' S' b' P2' E2' S2' F' q h) (hc : g_cV M0.1.cls idx M a) (hcl : RX7 = M.1.cls) (hr : ∀ L1 L2 H1 H2 QL QT qa CA CB, hsX G P E S b P2 E2 S2 F L1 L2 H1 H2 QL QT qa CA CB (l + 1) h h → Run G M (.ref (l + 1) :: As) none h 1 6 (zK G (.inl (some v9)) P'' E'' S'' b'' P2'' E2'' S2'' F'' (l + 1) h)) (hst : st = As.reverse ++ .ref (l + 1) :: rest) (hlen : As.length = a) (hW : Nat.ble (rest.map fun v => v.category).sum 14 = true) (hrm : (Nat.ble (M.2.2.2.2.1.1 + 1) M0.2.2.2.2.1.1 && Nat.ble (14 + (M.2.2.1 + 11) + M.2.2.2.2.1.2) M0.2.2.2.2.1.2) = true) (hk : k + 1 ≤ K) (hd : decode M0.2.1 pc = .ok (.invokevirtual idx, 3))
    (kk : ∀ h1, lwW G x pt sd cr HP XS YS GX GY FX FY P'' E'' S'' b'' P2'' E2'' S2'' F'' l h1 → hsY G P' E' S' b' P2' E2' S2' F' q h1 → Ev (g_B G M0 K (6 * K) Z) (k + 1) (6 * (k + 1)) none h1 (pc + 3) L (v9 :: rest)) : Ev (g_B G M0 K (6 * K) Z) k (6 * k) none h pc L st :=
  e_hsO (C := g_B G M0 K (6 * K) Z) W.o hc hcl hr hst hlen hW hrm hk (show 6 * k + 6 ≤ 6 * K by omega) hd (fun h1 Y1 f1 => kk h1 ⟨W.1.off f1, Y1⟩ (Y.mv (fun a h2 _ => f1 a (by omega))))
end LAWR10
def ptA (P : PL) (a : Int) : Nat → PL
  | 0 => []
  | n + 1 => if pM P n = a then ptA P a n ++ [(pX P n, pY P n, 0)] else ptA P a n
def ptB (P : PL) (b1 : Int) (R : PL) : Nat → PL
  | 0 => R
  | n + 1 => if pM P n = b1 then ptB P b1 R n ++ [(-pX P n, -pY P n, 1)] else ptB P b1 R n
theorem ptA_len (P : PL) (a : Int) : ∀ n, (ptA P a n).length ≤ n
  | 0 => Nat.le_refl _
  | n + 1 => by
    have h := ptA_len P a n
    unfold ptA
    split
    · rw [List.length_append, List.length_singleton]
      omega
    · omega
theorem ptB_len (P : PL) (b1 : Int) (R : PL) : ∀ n, (ptB P b1 R n).length ≤ R.length + n
  | 0 => Nat.le_refl _
  | n + 1 => by
    have h := ptB_len P b1 R n
    unfold ptB
    split
    · rw [List.length_append, List.length_singleton]
      omega
    · omega
abbrev ptQ (P : PL) (a b1 : Int) : PL := ptB P b1 (ptA P a P.length) P.length
def apaF (P : PL) (a b1 : Int) : Prop := sumH (ptQ P a b1) ∧ fl2 (ptQ P a b1) 0 1 ∧ (0 < (smL (ptQ P a b1) 0 1).length ∧ (smL (ptQ P a b1) 0 1).length ≤ 100) ∧ (tch (W1 P a) (W1 P b1) ↔ 0 ≤ wI (smL (ptQ P a b1) 0 1) 1 0 0) ∧ (tch (W1 P a) (W1 P b1) ↔ tch (W1 P b1) (W1 P a))
section LAW10
variable {G : g_X} {x pt sd cr : Int} {HP XS YS GX GY FX FY : Nat → Int} {P E : PL} {S : Nat → PL} {b : Int} {P2 E2 : PL} {S2 : Nat → PL} {F : PL} {l q : Nat} {h : g_hp}
variable {E3 : PL} {S3 : Nat → PL} {b3 : Int} {P3 E4 : PL} {S4 : Nat → PL} {F2 : PL}
set_option maxRecDepth 20000 in
theorem aa_one (hg : goodP P) (hp : pt = P.length) (hq : l + 104 ≤ q) {a b1 : Int} (ha : hpOK a) (hb : hpOK b1) (kk : ∀ (k : Nat) (h : g_hp), lwW G x pt sd cr (pM P) (pX P) (pY P) GX GY FX FY P E S b P2 E2 S2 F l h → hsY G (ptA P a P.length) E3 S3 b3 P3 E4 S4 F2 q h → k ≤ 530 → Ev (g_B G mL_areApart 700 (6 * 700) (zQ (fun v h1 => v = .int (iN 1) ∧ ∃ x, lwW G x pt sd cr (pM P) (pX P) (pY P) GX GY FX FY P E S b P2 E2 S2 F l h1))) k (6 * k) none h 82 [(3, .ref q), (2, .int (iN b1)), (1, .int (iN a)), (0, .ref l)] []) : ∀ (n i9 k : Nat) (h : g_hp), lwW G x pt sd cr (pM P) (pX P) (pY P) GX GY FX FY P E S b P2 E2 S2 F l h → hsY G (ptA P a i9) E3 S3 b3 P3 E4 S4 F2 q h → i9 + n = P.length → k + n ≤ 530 → Ev (g_B G mL_areApart 700 (6 * 700) (zQ (fun v h1 => v = .int (iN 1) ∧ ∃ x, lwW G x pt sd cr (pM P) (pX P) (pY P) GX GY FX FY P E S b P2 E2 S2 F l h1))) k (6 * k) none h 32 [(4, .int (iN ((i9 : Nat) : Int))), (3, .ref q), (2, .int (iN b1)), (1, .int (iN a)), (0, .ref l)] []
  | 0, i9, k, h, W, Y, e, hk => by
    have hl := hg.1
    have e9 : i9 = P.length := by omega
    subst e9
    subst hp
    refine e_iload dL_areApart_32 rfl ?_
    refine e_aload_n dL_areApart_34 rfl ?_
    refine e_getf fL_57 W.obj rfl dL_areApart_35 ?_
    refine e_icmp_ge (tgt := 82) ⟨by omega, by omega⟩ ⟨by omega, by omega⟩ dL_areApart_38 rfl (fun c_9 => ?_) (fun c_9 => absurd (by omega) c_9)
    exact e_loc [(3, .ref q), (2, .int (iN b1)), (1, .int (iN a)), (0, .ref l)] ⟨rfl, rfl, rfl, rfl, trivial⟩ (kk k h W Y (by omega))
  | n + 1, i9, k, h, W, Y, e, hk => by
    have ih := aa_one hg hp hq ha hb kk n (i9 + 1)
    have hl := hg.1
    have hi9 := hg.2 i9 (by omega)
    have ll1 := ptA_len P a P.length
    have ll2 := ptA_len P a i9
    subst hp
    refine e_iload dL_areApart_32 rfl ?_
    refine e_aload_n dL_areApart_34 rfl ?_
    refine e_getf fL_57 W.obj rfl dL_areApart_35 ?_
    refine e_icmp_ge (tgt := 82) ⟨by omega, by omega⟩ ⟨by omega, by omega⟩ dL_areApart_38 rfl (fun c_9 => absurd c_9 (by omega)) (fun c_9 => ?_)
    refine e_aload_n dL_areApart_41 rfl ?_
    refine e_getf fL_16 W.obj rfl dL_areApart_42 ?_
    refine e_iload dL_areApart_45 rfl ?_
    refine e_iaN W.hp (by omega) rfl dL_areApart_47 ?_
    refine e_iload_n dL_areApart_48 rfl ?_
    refine e_icmp_ne (tgt := 76) ⟨by omega, by omega⟩ ⟨by omega, by omega⟩ dL_areApart_49 rfl (fun c_49 => ?_) (fun c_49 => ?_)
    · have e5 : ptA P a (i9 + 1) = ptA P a i9 := if_neg c_49
      rw [e5] at ih
      refine e_iinc dL_areApart_76 rfl ?_
      refine e_goto (tgt := 32) dL_areApart_79 rfl ?_
      exact e_loc [(4, .int (iN ((i9 + 1 : Nat) : Int))), (3, .ref q), (2, .int (iN b1)), (1, .int (iN a)), (0, .ref l)] ⟨rfl, rfl, rfl, rfl, rfl, trivial⟩ (ih _ h W Y (by omega) (by omega))
    · refine e_aload_n dL_areApart_52 rfl ?_
      refine e_iconst dL_areApart_53 ?_
      refine e_aload_n dL_areApart_54 rfl ?_
      refine e_getf fL_20 W.obj rfl dL_areApart_55 ?_
      refine e_iload dL_areApart_58 rfl ?_
      refine e_iaN W.xs (by omega) rfl dL_areApart_60 ?_
      refine e_aload_n dL_areApart_61 rfl ?_
      refine e_getf fL_23 W.obj rfl dL_areApart_62 ?_
      refine e_iload dL_areApart_65 rfl ?_
      refine e_iaN W.ys (by omega) rfl dL_areApart_67 ?_
      refine e_hi hq W Y qcL_64 rfl (fun _ _ _ _ _ _ _ _ _ X => D_point X ⟨⟨by decide, by decide⟩, ⟨by omega, by omega, by omega, by omega⟩, by omega⟩) rfl rfl rfl rfl (by omega) dL_areApart_68 (fun h W Y => ?_)
      refine e_if_ge (tgt := 76) ⟨by omega, by omega⟩ dL_areApart_71 rfl (fun _ => ?_) (fun c => absurd (by omega) c)
      have e5 : ptA P a (i9 + 1) = (ptA P a i9) ++ [(pX P i9, pY P i9, 0)] := if_pos (Classical.not_not.mp c_49)
      rw [e5] at ih
      refine e_iinc dL_areApart_76 rfl ?_
      refine e_goto (tgt := 32) dL_areApart_79 rfl ?_
      exact e_loc [(4, .int (iN ((i9 + 1 : Nat) : Int))), (3, .ref q), (2, .int (iN b1)), (1, .int (iN a)), (0, .ref l)] ⟨rfl, rfl, rfl, rfl, rfl, trivial⟩ (ih _ h W Y (by omega) (by omega))
set_option maxRecDepth 20000 in
theorem aa_two (hg : goodP P) (hp : pt = P.length) (hq : l + 104 ≤ q) {a b1 : Int} (ha : hpOK a) (hb : hpOK b1) (kk : ∀ (k : Nat) (h : g_hp), lwW G x pt sd cr (pM P) (pX P) (pY P) GX GY FX FY P E S b P2 E2 S2 F l h → hsY G (ptB P b1 (ptA P a P.length) P.length) E3 S3 b3 P3 E4 S4 F2 q h → k ≤ 600 → Ev (g_B G mL_areApart 700 (6 * 700) (zQ (fun v h1 => v = .int (iN 1) ∧ ∃ x, lwW G x pt sd cr (pM P) (pX P) (pY P) GX GY FX FY P E S b P2 E2 S2 F l h1))) k (6 * k) none h 137 [(3, .ref q), (2, .int (iN b1)), (1, .int (iN a)), (0, .ref l)] []) : ∀ (n i9 k : Nat) (h : g_hp), lwW G x pt sd cr (pM P) (pX P) (pY P) GX GY FX FY P E S b P2 E2 S2 F l h → hsY G (ptB P b1 (ptA P a P.length) i9) E3 S3 b3 P3 E4 S4 F2 q h → i9 + n = P.length → k + n ≤ 600 → Ev (g_B G mL_areApart 700 (6 * 700) (zQ (fun v h1 => v = .int (iN 1) ∧ ∃ x, lwW G x pt sd cr (pM P) (pX P) (pY P) GX GY FX FY P E S b P2 E2 S2 F l h1))) k (6 * k) none h 85 [(4, .int (iN ((i9 : Nat) : Int))), (3, .ref q), (2, .int (iN b1)), (1, .int (iN a)), (0, .ref l)] []
  | 0, i9, k, h, W, Y, e, hk => by
    have hl := hg.1
    have e9 : i9 = P.length := by omega
    subst e9
    subst hp
    refine e_iload dL_areApart_85 rfl ?_
    refine e_aload_n dL_areApart_87 rfl ?_
    refine e_getf fL_57 W.obj rfl dL_areApart_88 ?_
    refine e_icmp_ge (tgt := 137) ⟨by omega, by omega⟩ ⟨by omega, by omega⟩ dL_areApart_91 rfl (fun c_9 => ?_) (fun c_9 => absurd (by omega) c_9)
    exact e_loc [(3, .ref q), (2, .int (iN b1)), (1, .int (iN a)), (0, .ref l)] ⟨rfl, rfl, rfl, rfl, trivial⟩ (kk k h W Y (by omega))
  | n + 1, i9, k, h, W, Y, e, hk => by
    have ih := aa_two hg hp hq ha hb kk n (i9 + 1)
    have hl := hg.1
    have hi9 := hg.2 i9 (by omega)
    have ll1 := ptA_len P a P.length
    have ll2 := ptB_len P b1 (ptA P a P.length) i9
    subst hp
    refine e_iload dL_areApart_85 rfl ?_
    refine e_aload_n dL_areApart_87 rfl ?_
    refine e_getf fL_57 W.obj rfl dL_areApart_88 ?_
    refine e_icmp_ge (tgt := 137) ⟨by omega, by omega⟩ ⟨by omega, by omega⟩ dL_areApart_91 rfl (fun c_9 => absurd c_9 (by omega)) (fun c_9 => ?_)
    refine e_aload_n dL_areApart_94 rfl ?_
    refine e_getf fL_16 W.obj rfl dL_areApart_95 ?_
    refine e_iload dL_areApart_98 rfl ?_
    refine e_iaN W.hp (by omega) rfl dL_areApart_100 ?_
    refine e_iload_n dL_areApart_101 rfl ?_
    refine e_icmp_ne (tgt := 131) ⟨by omega, by omega⟩ ⟨by omega, by omega⟩ dL_areApart_102 rfl (fun c_102 => ?_) (fun c_102 => ?_)
    · have e5 : ptB P b1 (ptA P a P.length) (i9 + 1) = ptB P b1 (ptA P a P.length) i9 := if_neg c_102
      rw [e5] at ih
      refine e_iinc dL_areApart_131 rfl ?_
      refine e_goto (tgt := 85) dL_areApart_134 rfl ?_
      exact e_loc [(4, .int (iN ((i9 + 1 : Nat) : Int))), (3, .ref q), (2, .int (iN b1)), (1, .int (iN a)), (0, .ref l)] ⟨rfl, rfl, rfl, rfl, rfl, trivial⟩ (ih _ h W Y (by omega) (by omega))
    · refine e_aload_n dL_areApart_105 rfl ?_
      refine e_iconst dL_areApart_106 ?_
      refine e_aload_n dL_areApart_107 rfl ?_
      refine e_getf fL_20 W.obj rfl dL_areApart_108 ?_
      refine e_iload dL_areApart_111 rfl ?_
      refine e_iaN W.xs (by omega) rfl dL_areApart_113 ?_
      refine e_ineg dL_areApart_114 ?_
      refine e_aload_n dL_areApart_115 rfl ?_
      refine e_getf fL_23 W.obj rfl dL_areApart_116 ?_
      refine e_iload dL_areApart_119 rfl ?_
      refine e_iaN W.ys (by omega) rfl dL_areApart_121 ?_
      refine e_ineg dL_areApart_122 ?_
      refine e_hi hq W Y qcL_64 rfl (fun _ _ _ _ _ _ _ _ _ X => D_point X ⟨⟨by decide, by decide⟩, ⟨by omega, by omega, by omega, by omega⟩, by omega⟩) rfl rfl rfl rfl (by omega) dL_areApart_123 (fun h W Y => ?_)
      refine e_if_ge (tgt := 131) ⟨by omega, by omega⟩ dL_areApart_126 rfl (fun _ => ?_) (fun c => absurd (by omega) c)
      have e5 : ptB P b1 (ptA P a P.length) (i9 + 1) = (ptB P b1 (ptA P a P.length) i9) ++ [(-pX P i9, -pY P i9, 1)] := if_pos (Classical.not_not.mp c_102)
      rw [e5] at ih
      refine e_iinc dL_areApart_131 rfl ?_
      refine e_goto (tgt := 85) dL_areApart_134 rfl ?_
      exact e_loc [(4, .int (iN ((i9 + 1 : Nat) : Int))), (3, .ref q), (2, .int (iN b1)), (1, .int (iN a)), (0, .ref l)] ⟨rfl, rfl, rfl, rfl, rfl, trivial⟩ (ih _ h W Y (by omega) (by omega))
set_option maxRecDepth 20000 in
theorem aa_end (hg : goodP P) (hp : pt = P.length) (hq : l + 104 ≤ q) {a b1 : Int} (ha : hpOK a) (hb : hpOK b1) (ca : cntN P a P.length ≠ 0) (cb : cntN P b1 P.length ≠ 0) (hF : apaF P a b1) (k : Nat) (h : g_hp) (W : lwW G x pt sd cr (pM P) (pX P) (pY P) GX GY FX FY P E S b P2 E2 S2 F l h) (Y : hsY G (ptQ P a b1) E3 S3 b3 P3 E4 S4 F2 q h) (hk : k ≤ 600) : Ev (g_B G mL_areApart 700 (6 * 700) (zQ (fun v h1 => v = .int (iN 1) ∧ ∃ x, lwW G x pt sd cr (pM P) (pX P) (pY P) GX GY FX FY P E S b P2 E2 S2 F l h1))) k (6 * k) none h 137 [(3, .ref q), (2, .int (iN b1)), (1, .int (iN a)), (0, .ref l)] [] := by
  obtain ⟨f1, f2, f3, f4, f5⟩ := hF
  have hb9 := wI_b (smL (ptQ P a b1) 0 1) 1 0 0
  refine e_aload_n dL_areApart_137 rfl ?_
  refine e_iconst dL_areApart_138 ?_
  refine e_iconst dL_areApart_139 ?_
  refine e_hi hq W Y qcL_136 rfl (fun _ _ _ _ _ _ _ _ _ X => D_sum X ⟨⟨by decide, by decide⟩, ⟨by decide, by decide⟩⟩ f2 f1) rfl rfl rfl rfl (by omega) dL_areApart_140 (fun h W Y => ?_)
  refine e_if_le (tgt := 197) ⟨by omega, by omega⟩ dL_areApart_143 rfl (fun c => absurd c (by omega)) (fun _ => ?_)
  refine e_aload_n dL_areApart_146 rfl ?_
  refine e_getf fL_10 W.obj rfl dL_areApart_147 ?_
  refine e_iload_n dL_areApart_150 rfl ?_
  refine e_iload_n dL_areApart_151 rfl ?_
  refine e_ho hq W Y qcL_171 rfl (fun _ _ _ _ _ _ _ _ _ X => D_apart X ⟨ha, hb⟩ ⟨ca, cb⟩) rfl rfl rfl rfl (by omega) dL_areApart_152 (fun h W Y => ?_)
  refine e_aload_n dL_areApart_155 rfl ?_
  refine e_iconst dL_areApart_156 ?_
  refine e_iconst dL_areApart_157 ?_
  refine e_hi hq W Y qcL_85 rfl (fun _ _ _ _ _ _ _ _ _ X => D_lies X r32_0 r32_0) rfl rfl rfl rfl (by omega) dL_areApart_158 (fun h W Y => ?_)
  refine e_if_ge (tgt := 168) ⟨by omega, by omega⟩ dL_areApart_161 rfl (fun c_161 => ?_) (fun c_161 => ?_)
  · rw [bC_f (show ¬ ¬ tch (W1 P a) (W1 P b1) from fun w => w (f4.mpr c_161))]
    refine e_iconst dL_areApart_168 ?_
    refine e_same_ne (tgt := 197) dL_areApart_169 rfl ?_
    refine e_aload_n dL_areApart_172 rfl ?_
    refine e_getf fL_10 W.obj rfl dL_areApart_173 ?_
    refine e_iload_n dL_areApart_176 rfl ?_
    refine e_iload_n dL_areApart_177 rfl ?_
    refine e_ho hq W Y qcL_171 rfl (fun _ _ _ _ _ _ _ _ _ X => D_apart X ⟨hb, ha⟩ ⟨cb, ca⟩) rfl rfl rfl rfl (by omega) dL_areApart_178 (fun h W Y => ?_)
    rw [bC_c (show ¬ tch (W1 P b1) (W1 P a) ↔ ¬ tch (W1 P a) (W1 P b1) from not_congr f5.symm)]
    refine e_aload_n dL_areApart_181 rfl ?_
    refine e_getf fL_10 W.obj rfl dL_areApart_182 ?_
    refine e_iload_n dL_areApart_185 rfl ?_
    refine e_iload_n dL_areApart_186 rfl ?_
    refine e_ho hq W Y qcL_171 rfl (fun _ _ _ _ _ _ _ _ _ X => D_apart X ⟨ha, hb⟩ ⟨ca, cb⟩) rfl rfl rfl rfl (by omega) dL_areApart_187 (fun h W Y => ?_)
    refine e_same_ne (tgt := 197) dL_areApart_190 rfl ?_
    refine e_iconst dL_areApart_193 ?_
    refine e_goto (tgt := 198) dL_areApart_194 rfl ?_
    refine e_zret rfl (Or.inr rfl) dL_areApart_198 (by omega) (by omega) ?_
    exact ⟨rfl, _, rfl, rfl, _, W⟩
  · rw [bC_t (show ¬ tch (W1 P a) (W1 P b1) from fun w => c_161 (f4.mp w))]
    refine e_iconst dL_areApart_164 ?_
    refine e_goto (tgt := 169) dL_areApart_165 rfl ?_
    refine e_same_ne (tgt := 197) dL_areApart_169 rfl ?_
    refine e_aload_n dL_areApart_172 rfl ?_
    refine e_getf fL_10 W.obj rfl dL_areApart_173 ?_
    refine e_iload_n dL_areApart_176 rfl ?_
    refine e_iload_n dL_areApart_177 rfl ?_
    refine e_ho hq W Y qcL_171 rfl (fun _ _ _ _ _ _ _ _ _ X => D_apart X ⟨hb, ha⟩ ⟨cb, ca⟩) rfl rfl rfl rfl (by omega) dL_areApart_178 (fun h W Y => ?_)
    rw [bC_c (show ¬ tch (W1 P b1) (W1 P a) ↔ ¬ tch (W1 P a) (W1 P b1) from not_congr f5.symm)]
    refine e_aload_n dL_areApart_181 rfl ?_
    refine e_getf fL_10 W.obj rfl dL_areApart_182 ?_
    refine e_iload_n dL_areApart_185 rfl ?_
    refine e_iload_n dL_areApart_186 rfl ?_
    refine e_ho hq W Y qcL_171 rfl (fun _ _ _ _ _ _ _ _ _ X => D_apart X ⟨ha, hb⟩ ⟨ca, cb⟩) rfl rfl rfl rfl (by omega) dL_areApart_187 (fun h W Y => ?_)
    refine e_same_ne (tgt := 197) dL_areApart_190 rfl ?_
    refine e_iconst dL_areApart_193 ?_
    refine e_goto (tgt := 198) dL_areApart_194 rfl ?_
    refine e_zret rfl (Or.inr rfl) dL_areApart_198 (by omega) (by omega) ?_
    exact ⟨rfl, _, rfl, rfl, _, W⟩
set_option maxRecDepth 20000 in
theorem L_areApart (W : lwW G x pt sd cr (pM P) (pX P) (pY P) GX GY FX FY P E S b P2 E2 S2 F l h) (hg : goodP P) (hp : pt = P.length) (hF : ∀ r, r < P.length → apaF P (pM P 0) (pM P r)) : Run G mL_areApart [.ref l] none h 700 (6 * 700) (zQ (fun v h1 => v = .int (iN 1) ∧ ∃ x, lwW G x pt sd cr (pM P) (pX P) (pY P) GX GY FX FY P E S b P2 E2 S2 F l h1)) := by
  have hl := hg.1
  have ha := hg.hp (show 0 < P.length by omega)
  have ca : cntN P (pM P 0) P.length ≠ 0 := cnt_at (show 0 < P.length by omega) rfl
  refine run_L rfl plL rfl ?_
  refine e_aload_n dL_areApart_0 rfl ?_
  refine e_getf fL_16 W.obj rfl dL_areApart_1 ?_
  refine e_iconst dL_areApart_4 ?_
  refine e_iaN (j := 0) W.hp (by omega) rfl dL_areApart_5 ?_
  refine e_istore_n dL_areApart_6 rfl ?_
  refine e_aload_n dL_areApart_7 rfl ?_
  refine e_getf fL_16 W.obj rfl dL_areApart_8 ?_
  refine e_aload_n dL_areApart_11 rfl ?_
  refine e_aload_n dL_areApart_12 rfl ?_
  refine e_getf fL_57 W.obj rfl dL_areApart_13 ?_
  refine e_ow W qcL_54 rfl (L_next W (by omega) (by omega)) rfl rfl rfl rfl (by omega) dL_areApart_16 (fun h v9 q9 => ?_)
  obtain ⟨r, x2, rfl, r0, r1, W⟩ := q9
  obtain ⟨r, rfl⟩ := Int.eq_ofNat_of_zero_le r0
  have hr : r < P.length := by omega
  have hb := hg.hp hr
  have cb : cntN P (pM P r) P.length ≠ 0 := cnt_at hr rfl
  have hF := hF r hr
  refine e_iaN W.hp (by omega) rfl dL_areApart_19 ?_
  refine e_istore_n dL_areApart_20 rfl ?_
  refine e_size (fun q hq0 hq1 => ?_)
  have hq : l + 104 ≤ q := hq1 _ _ W.fy
  refine e_new kX7 vlL_7 vn_X7 vi_X7 dfX7 rfl rfl dL_areApart_21 ?_
  refine e_dup dL_areApart_24 rfl ?_
  refine e_mkI qcL_9 (S_hsInit (g_up_s _ _ _)) rfl rfl rfl rfl dL_areApart_25 (fun h9 X => ?_)
  refine e_astore_n dL_areApart_28 rfl ?_
  refine e_lose ?_
  refine e_widen (k' := 500) (n' := 6 * 500) (by decide) (by decide) ?_
  have Y : hsY G [] [] (fun _ => []) 0 [] [] (fun _ => []) [] q h9 := ⟨_, _, _, _, _, _, _, _, _, X.mv (fun _ _ _ => rfl)⟩
  replace W := W.mv (h1 := h9) (fun a h1 h2 => (X.fr a (by omega)).trans (g_up_n _ _ (by omega)))
  clear X
  generalize h9 = h at W Y ⊢
  refine e_iconst dL_areApart_29 ?_
  refine e_istore dL_areApart_30 rfl ?_
  refine e_loc [(4, .int (iN ((0 : Nat) : Int))), (3, .ref q), (2, .int (iN (pM P r))), (1, .int (iN (pM P 0))), (0, .ref l)] ⟨rfl, rfl, rfl, rfl, rfl, trivial⟩ ?_
  refine aa_one hg hp hq ha hb (fun k h W Y hk => ?_) P.length 0 500 h W Y (Nat.zero_add _) (by omega)
  refine e_iconst dL_areApart_82 ?_
  refine e_istore dL_areApart_83 rfl ?_
  refine e_loc [(4, .int (iN ((0 : Nat) : Int))), (3, .ref q), (2, .int (iN (pM P r))), (1, .int (iN (pM P 0))), (0, .ref l)] ⟨rfl, rfl, rfl, rfl, rfl, trivial⟩ ?_
  exact aa_two hg hp hq ha hb (fun k h W Y hk => aa_end hg hp hq ha hb ca cb hF k h W Y hk) P.length 0 k h W Y (Nat.zero_add _) (by omega)
end LAW10
