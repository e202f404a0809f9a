/-! The law: rules for its frames; its small methods -/
theorem plL : plainName RL = true := by decide +kernel
abbrev zQ (Q : Value → g_hp → Prop) : g_Z := fun oc z1 h1 => z1 = none ∧ ∃ v, oc = .inl (some v) ∧ Q v h1
section LAWR
variable {G : g_X} {M0 : g_M} {K : Nat} {Z : g_Z} {k : Nat} {h : g_hp} {pc : Nat} {L : List (Nat × Value)} {st : List Value}
theorem e_hs {M : g_M} {idx a l : Nat} {As rest : List Value} {v9 : Value} {x pt sd cr : Int} {HP XS YS GX GY FX FY : Nat → Int} {P E : PL} {S : Nat → PL} {b : Int} {P2 E2 : PL} {S2 : Nat → PL} {F : PL} {P' E' : PL} {S' : Nat → PL} {b' : Int} {P2' E2' : PL} {S2' : Nat → PL} {F' : PL} (W : lwW G x pt sd cr HP XS YS GX GY FX FY P E S b P2 E2 S2 F l h) (hc : g_cV M0.1.cls idx M a) (hcl : RX7 = M.1.cls) (hr : ∀ L1 L2 H1 H2 QL QT qa CA CB, hsX G P E S b P2 E2 S2 F L1 L2 H1 H2 QL QT qa CA CB (l + 1) h h → Run G M (.ref (l + 1) :: As) none h 1 6 (zK G (.inl (some v9)) P' E' S' b' P2' E2' S2' F' (l + 1) h)) (hst : st = As.reverse ++ .ref (l + 1) :: rest) (hlen : As.length = a) (hW : Nat.ble (rest.map fun v => v.category).sum 14 = true) (hrm : (Nat.ble (M.2.2.2.2.1.1 + 1) M0.2.2.2.2.1.1 && Nat.ble (14 + (M.2.2.1 + 11) + M.2.2.2.2.1.2) M0.2.2.2.2.1.2) = true) (hk : k + 1 ≤ K) (hd : decode M0.2.1 pc = .ok (.invokevirtual idx, 3))
    (kk : ∀ h1, lwW G x pt sd cr HP XS YS GX GY FX FY P' E' S' b' P2' E2' S2' F' l h1 → Ev (g_B G M0 K (6 * K) Z) (k + 1) (6 * (k + 1)) none h1 (pc + 3) L (v9 :: rest)) : Ev (g_B G M0 K (6 * K) Z) k (6 * k) none h pc L st :=
  e_hsO (C := g_B G M0 K (6 * K) Z) W.o hc hcl hr hst hlen hW hrm hk (show 6 * k + 6 ≤ 6 * K by omega) hd (fun h1 Y1 f1 => kk h1 ⟨W.1.off f1, Y1⟩)
theorem e_ow {M : g_M} {idx a l K' : Nat} {As rest : List Value} {Q : Value → g_hp → Prop} {x pt sd cr : Int} {HP XS YS GX GY FX FY : Nat → Int} {P E : PL} {S : Nat → PL} {b : Int} {P2 E2 : PL} {S2 : Nat → PL} {F : PL} (W : lwW G x pt sd cr HP XS YS GX GY FX FY P E S b P2 E2 S2 F l h) (hc : g_cV M0.1.cls idx M a) (hcl : RL = M.1.cls) (hr : Run G M (.ref l :: As) none h K' (6 * K') (zQ Q)) (hst : st = As.reverse ++ .ref l :: rest) (hlen : As.length = a) (hW : Nat.ble (rest.map fun v => v.category).sum 14 = true) (hrm : (Nat.ble (M.2.2.2.2.1.1 + 1) M0.2.2.2.2.1.1 && Nat.ble (14 + (M.2.2.1 + 11) + M.2.2.2.2.1.2) M0.2.2.2.2.1.2) = true) (hk : k + K' ≤ K) (hd : decode M0.2.1 pc = .ok (.invokevirtual idx, 3))
    (kk : ∀ h1 v, Q v h1 → Ev (g_B G M0 K (6 * K) Z) (k + K') (6 * (k + K')) none h1 (pc + 3) L (v :: rest)) : Ev (g_B G M0 K (6 * K) Z) k (6 * k) none h pc L st :=
  e_own (C := g_B G M0 K (6 * K) Z) W hc hcl hr hst hlen hW hrm hk (show 6 * k + 6 * K' ≤ 6 * K by omega) hd kk
/-- a body begins -/
theorem run_L {av : List Value} (hn : M0.2.2.2.2.2 = none) (hp : plainName M0.1.cls = true) (hs : Nat.ble (lg_sl av).length M0.2.2.1 = true) (body : Ev (g_B G M0 K (6 * K) Z) 0 (6 * 0) none h 0 (lv_args 0 av) []) : Run G M0 av none h K (6 * K) Z := run_of hn hp hs body
theorem e_iaN {C : g_E} {n : Nat} {z : Option Nat} {a N : Nat} {g : Nat → Int} {j : Nat} (ha : h a = some (aI C.1 N g)) (hj : j < N) (hb9 : Nat.ble N 2147483647 = true) (hd : decode (g_cc C) pc = .ok (.iaload, 1)) (kk : Ev C k n z h (pc + 1) L (.int (iN (g j)) :: st)) : Ev C k n z h pc L (.int (iN (j : Int)) :: .ref a :: st) :=
  e_iaload ha (Int.natCast_nonneg j) (Int.ofNat_lt.mpr hj) hb9 hd kk
theorem e_iasN {C : g_E} {n : Nat} {z : Option Nat} {a N : Nat} {g : Nat → Int} {j : Nat} {x : Int} (ha : h a = some (aI C.1 N g)) (hj : j < N) (hb9 : Nat.ble N 2147483647 = true) (hd : decode (g_cc C) pc = .ok (.iastore, 1)) (kk : Ev C k n z (g_up h a (aI C.1 N (uI g j x))) (pc + 1) L st) : Ev C k n z h pc L (.int (iN x) :: .int (iN (j : Int)) :: .ref a :: st) :=
  e_iastore ha (Int.natCast_nonneg j) (Int.ofNat_lt.mpr hj) hb9 hd kk
theorem e_or1 {C : g_E} {n : Nat} {z : Option Nat} {p : Prop} {i9 : Decidable p} (hd : decode (g_cc C) pc = .ok (.ior, 1)) (kk : Ev C k n z h (pc + 1) L (.int (iN 1) :: st)) : Ev C k n z h pc L (.int (iN 1) :: .int (iN (bP p)) :: st) :=
  e_orP (q := True) hd (by rw [bP_t (Or.inr trivial)]; exact kk)
theorem e_or0 {C : g_E} {n : Nat} {z : Option Nat} {p : Prop} {i9 : Decidable p} (hd : decode (g_cc C) pc = .ok (.ior, 1)) (kk : Ev C k n z h (pc + 1) L (.int (iN (bP p)) :: st)) : Ev C k n z h pc L (.int (iN 0) :: .int (iN (bP p)) :: st) :=
  e_orP (q := False) hd (by rw [bP_c (show p ∨ False ↔ p from ⟨fun w => w.elim id False.elim, Or.inl⟩)]; exact kk)
theorem e_ifC_eq {C : g_E} {n : Nat} {z : Option Nat} {p : Prop} {i9 : Decidable p} {off : Int} {tgt : Nat} (hd : decode (g_cc C) pc = .ok (.ifCond .eq off, 3)) (ht : (pc : Int) + off = (tgt : Int)) (kt : ¬ p → Ev C k n z h tgt L st) (kf : p → Ev C k n z h (pc + 3) L st) : Ev C k n z h pc L (.int (iN (bP p)) :: st) := e_ifP_eq hd ht kt kf
theorem e_ifC_ne {C : g_E} {n : Nat} {z : Option Nat} {p : Prop} {i9 : Decidable p} {off : Int} {tgt : Nat} (hd : decode (g_cc C) pc = .ok (.ifCond .ne off, 3)) (ht : (pc : Int) + off = (tgt : Int)) (kt : p → Ev C k n z h tgt L st) (kf : ¬ p → Ev C k n z h (pc + 3) L st) : Ev C k n z h pc L (.int (iN (bP p)) :: st) := e_ifP_ne hd ht kt kf
end LAWR
set_option maxRecDepth 20000 in
theorem wc_42 : (.constant RL 42 1103515245 : Cond) ∈ GW := gw1 191 rfl rfl
set_option maxRecDepth 20000 in
theorem wc_254 : (.constant RL 254 59467 : Cond) ∈ GW := gw5 17 rfl rfl
section LAW1
variable {G : g_X} {x pt sd cr : Int} {HP XS YS GX GY FX FY : Nat → Int} {P E : PL} {S : Nat → PL} {b : Int} {P2 E2 : PL} {S2 : Nat → PL} {F : PL} {l : Nat} {h : g_hp}
set_option maxRecDepth 20000 in
theorem L_next (W : lwW G x pt sd cr HP XS YS GX GY FX FY P E S b P2 E2 S2 F l h) {n9 : Int} (h1 : 0 < n9) (h2 : n9 ≤ 65536) : Run G mL_next [.ref l, .int (iN n9)] none h 0 (6 * 0) (zQ (fun v h1 => ∃ r x', v = .int (iN r) ∧ 0 ≤ r ∧ r < n9 ∧ lwW G x' pt sd cr HP XS YS GX GY FX FY P E S b P2 E2 S2 F l h1)) := by
  refine run_L rfl plL rfl ?_
  refine e_aload_n dL_next_0 rfl ?_
  refine e_aload_n dL_next_1 rfl ?_
  refine e_getf fL_38 W.obj rfl dL_next_2 ?_
  refine e_ldcI (c9 := 1103515245) wc_42 rfl dL_next_5 ?_
  refine e_imul dL_next_7 ?_
  refine e_sipush dL_next_8 (by decide) ?_
  refine e_iadd dL_next_11 ?_
  refine e_putf pfL_38 W.obj rfl rfl rfl dL_next_12 ?_
  replace W := W.w_x (x * 1103515245 + 12345)
  refine (show Ev _ _ _ _ (g_up h l (.inr (5, [.int (iN (x * 1103515245 + 12345)), .ref (l + 1), .ref (l + 97), .ref (l + 98), .ref (l + 99), .ref (l + 100), .ref (l + 101), .ref (l + 102), .ref (l + 103), .int (iN pt), .int (iN sd), .int (iN cr)]))) _ _ _ from ?_)
  generalize g_up h l _ = h at W ⊢
  refine e_aload_n dL_next_15 rfl ?_
  refine e_getf fL_38 W.obj rfl dL_next_16 ?_
  refine e_bipush dL_next_19 (by decide) ?_
  refine e_ushr (t := 16) (by decide) (by omega) dL_next_21 (fun v9 v0 v1 => ?_)
  replace v1 : v9 * 65536 < 4294967296 := v1
  refine e_iload_n dL_next_22 rfl ?_
  refine e_irem ⟨by omega, by omega⟩ ⟨by omega, by omega⟩ (by omega) dL_next_23 ?_
  refine e_iret rfl dL_next_24 (by decide) (by decide) ?_
  refine ⟨rfl, _, rfl, _, _, rfl, ?_, ?_, W⟩
  · exact Int.tmod_nonneg _ v0
  · exact Int.tmod_lt_of_pos _ h1
set_option maxRecDepth 20000 in
theorem L_spread (W : lwW G x pt sd cr HP XS YS GX GY FX FY P E S b P2 E2 S2 F l h) : Run G mL_spread [.ref l] none h 0 (6 * 0) (zQ (fun v h1 => ∃ r x', v = .int (iN r) ∧ (r = 3 ∨ r = 8 ∨ r = 25 ∨ r = 60) ∧ lwW G x' pt sd cr HP XS YS GX GY FX FY P E S b P2 E2 S2 F l h1)) := by
  refine run_L rfl plL rfl ?_
  refine e_aload_n dL_spread_0 rfl ?_
  refine e_iconst dL_spread_1 ?_
  refine e_ow W qcL_54 rfl (L_next W (by decide) (by decide)) rfl rfl rfl rfl (by omega) dL_spread_2 (fun h v9 q9 => ?_)
  obtain ⟨r, x2, rfl, r0, r1, W⟩ := q9
  refine e_istore_n dL_spread_5 rfl ?_
  refine e_iload_n dL_spread_6 rfl ?_
  refine e_if_ne (tgt := 14) ⟨by omega, by omega⟩ dL_spread_7 rfl (fun c_7 => ?_) (fun c_7 => ?_)
  · refine e_iload_n dL_spread_14 rfl ?_
    refine e_iconst dL_spread_15 ?_
    refine e_icmp_ne (tgt := 24) ⟨by omega, by omega⟩ ⟨by omega, by omega⟩ dL_spread_16 rfl (fun c_16 => ?_) (fun c_16 => ?_)
    · refine e_iload_n dL_spread_24 rfl ?_
      refine e_iconst dL_spread_25 ?_
      refine e_icmp_ne (tgt := 34) ⟨by omega, by omega⟩ ⟨by omega, by omega⟩ dL_spread_26 rfl (fun c_26 => ?_) (fun c_26 => ?_)
      · refine e_bipush dL_spread_34 (by decide) ?_
        refine e_iret rfl dL_spread_36 (by decide) (by decide) ?_
        exact ⟨rfl, _, rfl, _, _, rfl, by omega, W⟩
      · refine e_bipush dL_spread_29 (by decide) ?_
        refine e_goto (tgt := 36) dL_spread_31 rfl ?_
        refine e_iret rfl dL_spread_36 (by decide) (by decide) ?_
        exact ⟨rfl, _, rfl, _, _, rfl, by omega, W⟩
    · refine e_bipush dL_spread_19 (by decide) ?_
      refine e_goto (tgt := 36) dL_spread_21 rfl ?_
      refine e_iret rfl dL_spread_36 (by decide) (by decide) ?_
      exact ⟨rfl, _, rfl, _, _, rfl, by omega, W⟩
  · refine e_iconst dL_spread_10 ?_
    refine e_goto (tgt := 36) dL_spread_11 rfl ?_
    refine e_iret rfl dL_spread_36 (by decide) (by decide) ?_
    exact ⟨rfl, _, rfl, _, _, rfl, by omega, W⟩
set_option maxRecDepth 20000 in
theorem many_loop (W : lwW G x pt sd cr (pM P) XS YS GX GY FX FY P E S b P2 E2 S2 F l h) (hp : pt = P.length) (hl : P.length ≤ 40) (hm : ∀ i, i < P.length → r32 (pM P i)) {a : Int} (ra : r32 a) : ∀ (n i : Nat), i + n = P.length → Ev (g_B G mL_many 0 (6 * 0) (zQ (fun v h1 => v = .int (iN (cntN P a P.length : Int)) ∧ lwW G x pt sd cr (pM P) XS YS GX GY FX FY P E S b P2 E2 S2 F l h1))) 0 (6 * 0) none h 4 [(3, .int (iN (i : Int))), (2, .int (iN (cntN P a i : Int))), (1, .int (iN a)), (0, .ref l)] []
  | 0, i, e => by
    subst hp
    refine e_iload_n dL_many_4 rfl ?_
    refine e_aload_n dL_many_5 rfl ?_
    refine e_getf fL_57 W.obj rfl dL_many_6 ?_
    refine e_icmp_ge (tgt := 36) ⟨by omega, by omega⟩ ⟨by omega, by omega⟩ dL_many_9 rfl (fun c_9 => ?_) (fun c_9 => absurd (by omega) c_9)
    refine e_iload_n dL_many_36 rfl ?_
    refine e_iret rfl dL_many_37 (by decide) (by decide) ?_
    rw [show i = P.length by omega]
    exact ⟨rfl, _, rfl, rfl, W⟩
  | n + 1, i, e => by
    have ih := many_loop W hp hl hm ra n (i + 1) (by omega)
    have hi := hm i (by omega)
    subst hp
    refine e_iload_n dL_many_4 rfl ?_
    refine e_aload_n dL_many_5 rfl ?_
    refine e_getf fL_57 W.obj rfl dL_many_6 ?_
    refine e_icmp_ge (tgt := 36) ⟨by omega, by omega⟩ ⟨by omega, by omega⟩ dL_many_9 rfl (fun c_9 => absurd c_9 (by omega)) (fun c_9 => ?_)
    refine e_iload_n dL_many_12 rfl ?_
    refine e_aload_n dL_many_13 rfl ?_
    refine e_getf fL_16 W.obj rfl dL_many_14 ?_
    refine e_iload_n dL_many_17 rfl ?_
    refine e_iaN W.hp (by omega) rfl dL_many_18 ?_
    refine e_iload_n dL_many_19 rfl ?_
    refine e_icmp_ne (tgt := 27) ⟨by omega, by omega⟩ ⟨by omega, by omega⟩ dL_many_20 rfl (fun c_20 => ?_) (fun c_20 => ?_)
    · refine e_iconst dL_many_27 ?_
      refine e_iadd dL_many_28 ?_
      refine e_istore_n dL_many_29 rfl ?_
      refine e_iinc dL_many_30 rfl ?_
      refine e_goto (tgt := 4) dL_many_33 rfl ?_
      refine e_loc [(3, .int (iN ((i + 1 : Nat) : Int))), (2, .int (iN (cntN P a (i + 1) : Int))), (1, .int (iN a)), (0, .ref l)] ⟨rfl, ?_, rfl, rfl, trivial⟩ ih
      refine (show some (Value.int (iN ((cntN P a i : Int) + 0))) = some (.int (iN (cntN P a (i + 1) : Int))) from ?_)
      rw [show cntN P a (i + 1) = cntN P a i + (if pM P i = a then 1 else 0) from rfl, if_neg c_20]
      rfl
    · refine e_iconst dL_many_23 ?_
      refine e_goto (tgt := 28) dL_many_24 rfl ?_
      refine e_iadd dL_many_28 ?_
      refine e_istore_n dL_many_29 rfl ?_
      refine e_iinc dL_many_30 rfl ?_
      refine e_goto (tgt := 4) dL_many_33 rfl ?_
      refine e_loc [(3, .int (iN ((i + 1 : Nat) : Int))), (2, .int (iN (cntN P a (i + 1) : Int))), (1, .int (iN a)), (0, .ref l)] ⟨rfl, ?_, rfl, rfl, trivial⟩ ih
      refine (show some (Value.int (iN ((cntN P a i : Int) + 1))) = some (.int (iN (cntN P a (i + 1) : Int))) from ?_)
      rw [show cntN P a (i + 1) = cntN P a i + (if pM P i = a then 1 else 0) from rfl, if_pos (Classical.not_not.mp c_20)]
      rfl
set_option maxRecDepth 20000 in
theorem L_many (W : lwW G x pt sd cr (pM P) XS YS GX GY FX FY P E S b P2 E2 S2 F l h) (hp : pt = P.length) (hl : P.length ≤ 40) (hm : ∀ i, i < P.length → r32 (pM P i)) {a : Int} (ra : r32 a) : Run G mL_many [.ref l, .int (iN a)] none h 0 (6 * 0) (zQ (fun v h1 => v = .int (iN (cntN P a P.length : Int)) ∧ lwW G x pt sd cr (pM P) XS YS GX GY FX FY P E S b P2 E2 S2 F l h1)) := by
  refine run_L rfl plL rfl ?_
  refine e_iconst dL_many_0 ?_
  refine e_istore_n dL_many_1 rfl ?_
  refine e_iconst dL_many_2 ?_
  refine e_istore_n dL_many_3 rfl ?_
  refine e_loc [(3, .int (iN ((0 : Nat) : Int))), (2, .int (iN (cntN P a 0 : Int))), (1, .int (iN a)), (0, .ref l)] ⟨rfl, rfl, rfl, rfl, trivial⟩ ?_
  exact many_loop W hp hl hm ra P.length 0 (Nat.zero_add _)
end LAW1
