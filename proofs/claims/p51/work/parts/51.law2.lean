/-! The law: signs, divisors, the script stirred; what a figure holds -/
section LAWR2
variable {G : g_X} {M0 : g_M} {K : Nat} {Z : g_Z} {k : Nat} {h : g_hp} {pc : Nat} {L : List (Nat × Value)} {st : List Value}
theorem e_pS {M : g_M} {idx : Nat} {a : Nat} {As rest : List Value} {v : Value} (hc : g_cS M0.1.cls idx M a) (hr : Pure G M As h v) (hst : st = As.reverse ++ rest) (hlen : As.length = a) (hW : Nat.ble (rest.map fun v => v.category).sum 14 = true) (hrm : (Nat.ble (M.2.2.2.2.1.1 + 1) M0.2.2.2.2.1.1 && Nat.ble (14 + (M.2.2.1 + 11) + M.2.2.2.2.1.2) M0.2.2.2.2.1.2) = true) (hk : k ≤ K) (hd : decode M0.2.1 pc = .ok (.invokestatic idx, 3)) (kk : Ev (g_B G M0 K (6 * K) Z) k (6 * k) none h (pc + 3) L (v :: rest)) : Ev (g_B G M0 K (6 * K) Z) k (6 * k) none h pc L st :=
  e_pureS (C := g_B G M0 K (6 * K) Z) hc hr hst hlen hW (g_rm_of hrm hk (show 6 * k + 0 ≤ 6 * K by omega)) hd kk
theorem g_rM_of {C : g_E} {rest : List Value} {k n w : Nat} (h1 : (Nat.ble 1 C.2.2.1.frames && Nat.ble ((rest.map fun v => v.category).sum + w) C.2.2.1.locals) = true) (h2 : k ≤ C.2.2.1.cells) (h3 : n ≤ C.2.2.1.slots) : g_rM C rest k n w = true := by
  unfold g_rM
  rw [h1, Nat.ble_eq_true_of_le h2, Nat.ble_eq_true_of_le h3]
  rfl
theorem e_ishr {C : g_E} {n : Nat} {z : Option Nat} {x y : Int32} (hd : decode (g_cc C) pc = .ok (.ishr, 1)) (kk : Ev C k n z h (pc + 1) L (.int (x >>> (y &&& 31)) :: st)) : Ev C k n z h pc L (.int y :: .int x :: st) := by
  intro p e s m args below meth c H locs ls hC hS hH hb hl
  exact lv_ishr hC.1 hC.2.1 hd (kk p e s m args below meth c H locs ls hC hS hH hb hl)
theorem e_iushrX {C : g_E} {n : Nat} {z : Option Nat} {x y : Int32} (hd : decode (g_cc C) pc = .ok (.iushr, 1)) (kk : Ev C k n z h (pc + 1) L (.int ((x.toUInt32 >>> (y.toUInt32 &&& Int32.toUInt32 31)).toInt32) :: st)) : Ev C k n z h pc L (.int y :: .int x :: st) := by
  intro p e s m args below meth c H locs ls hC hS hH hb hl
  exact lv_iushr hC.1 hC.2.1 hd rfl (kk p e s m args below meth c H locs ls hC hS hH hb hl)
theorem e_iorX {C : g_E} {n : Nat} {z : Option Nat} {x y v : Int32} (hv : x ||| y = v) (hd : decode (g_cc C) pc = .ok (.ior, 1)) (kk : Ev C k n z h (pc + 1) L (.int v :: st)) : Ev C k n z h pc L (.int y :: .int x :: st) := by
  intro p e s m args below meth c H locs ls hC hS hH hb hl
  refine lv_ior hC.1 hC.2.1 hd ?_
  rw [hv]
  exact kk p e s m args below meth c H locs ls hC hS hH hb hl
end LAWR2
theorem i32_bv {a b : Int32} (e : a.toBitVec = b.toBitVec) : a = b := Int32.toBitVec_inj.mp e
theorem sar_31 {x : Int} (hx : r32 x) : iN x >>> ((iN 31) &&& 31) = iN (if x < 0 then -1 else 0) := by
  apply Int32.toInt.inj
  have e0 : ((iN 31) &&& 31 : Int32) = 31 := by decide
  rw [e0]
  have e1 : (iN x >>> (31 : Int32)).toInt = (iN x).toBitVec.toInt >>> 31 := by
    show ((iN x).toBitVec.sshiftRight _).toInt = _
    rw [BitVec.toInt_sshiftRight]
    rfl
  rw [e1]
  have e2 : (iN x).toBitVec.toInt = x := iN_toInt hx
  rw [e2, Int.shiftRight_eq_div_pow, iN_toInt (by by_cases c : x < 0 <;> simp only [c, if_true, if_false] <;> constructor <;> decide)]
  have := hx.1
  have := hx.2
  show x / 2147483648 = _
  by_cases c : x < 0
  · rw [if_pos c]
    omega
  · rw [if_neg c]
    omega
theorem shr_31 {x : Int} (h0 : 0 ≤ x) (hx : r32 x) : ((-(iN x)).toUInt32 >>> ((iN 31).toUInt32 &&& Int32.toUInt32 31)).toInt32 = iN (if x = 0 then 0 else 1) := by
  have e0 : (iN 31).toUInt32 &&& Int32.toUInt32 31 = UInt32.ofNat 31 := by decide
  rw [e0, u_toI, UInt32.toNat_shiftRight, Nat.shiftRight_eq_div_pow]
  have e1 : (UInt32.ofNat 31).toNat % 32 = 31 := by decide
  rw [e1, iN_neg]
  have e2 : (iN (-x)).toUInt32.toNat = (BitVec.ofInt 32 (-x)).toNat := rfl
  rw [e2, BitVec.toNat_ofInt]
  have := hx.2
  congr 1
  by_cases c : x = 0
  · subst c
    rfl
  · rw [if_neg c]
    have e3 : ((-x) % ((2 ^ 32 : Nat) : Int)).toNat / 2 ^ 31 = 1 := by
      have : ((2 ^ 32 : Nat) : Int) = 4294967296 := rfl
      rw [this]
      have : (2 : Nat) ^ 31 = 2147483648 := rfl
      rw [this]
      omega
    rw [e3]
    rfl
theorem sgn_bits {x : Int} (hx : r32 x) : (iN x >>> ((iN 31) &&& 31)) ||| (((-(iN x)).toUInt32 >>> ((iN 31).toUInt32 &&& Int32.toUInt32 31)).toInt32) = iN (sg x) := by
  rw [sar_31 hx]
  by_cases c : x < 0
  · rw [if_pos c]
    have e : sg x = -1 := by unfold sg; rw [if_neg (by omega), if_pos c]
    rw [e]
    generalize ((-(iN x)).toUInt32 >>> _).toInt32 = y
    apply i32_bv
    show (iN (-1)).toBitVec ||| y.toBitVec = _
    have e2 : (iN (-1)).toBitVec = BitVec.allOnes 32 := by decide
    rw [e2]
    exact BitVec.allOnes_or
  · rw [if_neg c, shr_31 (by omega) hx]
    by_cases c2 : x = 0
    · subst c2
      decide
    · have e : sg x = 1 := by unfold sg; rw [if_pos (by omega)]
      rw [if_neg c2, e]
      decide
section LAW2
variable {G : g_X} {x pt sd cr : Int} {HP XS YS GX GY FX FY : Nat → Int} {P E : PL} {S : Nat → PL} {b : Int} {P2 E2 : PL} {S2 : Nat → PL} {F : PL} {l : Nat} {h : g_hp}
set_option maxRecDepth 20000 in
theorem S_signum {x : Int} (hx : r32 x) : Pure G mJ6_signum_0f7a4 [.int (iN x)] h (.int (iN (sg x))) := fun z => by
  refine run_ofF rfl (by decide +kernel) rfl ?_
  refine e_iload_n dJ6_signum_0f7a4_0 rfl ?_
  refine e_bipush dJ6_signum_0f7a4_1 (by decide) ?_
  refine e_ishr dJ6_signum_0f7a4_3 ?_
  refine e_iload_n dJ6_signum_0f7a4_4 rfl ?_
  refine e_ineg dJ6_signum_0f7a4_5 ?_
  refine e_bipush dJ6_signum_0f7a4_6 (by decide) ?_
  refine e_iushrX dJ6_signum_0f7a4_8 ?_
  refine e_iorX (v := iN (sg x)) (by rw [← iN_neg]; exact sgn_bits hx) dJ6_signum_0f7a4_9 ?_
  refine e_iret rfl dJ6_signum_0f7a4_10 (by decide) (by decide) ?_
  exact ⟨rfl, rfl, rfl⟩
abbrev b1k (z : Int) : Prop := -1000 ≤ z ∧ z ≤ 1000
theorem tw_r {ax ay bx b' cx cy : Int} (h1 : b1k ax) (h2 : b1k ay) (h3 : b1k bx) (h4 : b1k b') (h5 : b1k cx) (h6 : b1k cy) : -8000000 ≤ tw ax ay bx b' cx cy ∧ tw ax ay bx b' cx cy ≤ 8000000 := by
  have m1 := mul_bd (a := bx - ax) (b := cy - ay) (A := 2000) (B := 2000) (by omega) (by omega)
  have m2 := mul_bd (a := b' - ay) (b := cx - ax) (A := 2000) (B := 2000) (by omega) (by omega)
  unfold tw
  omega
set_option maxRecDepth 20000 in
theorem L_turn {ax ay bx b' cx cy : Int} (h1 : b1k ax) (h2 : b1k ay) (h3 : b1k bx) (h4 : b1k b') (h5 : b1k cx) (h6 : b1k cy) : Pure G mL_turn [.int (iN ax), .int (iN ay), .int (iN bx), .int (iN b'), .int (iN cx), .int (iN cy)] h (.int (iN (sg (tw ax ay bx b' cx cy)))) := fun z => by
  have r := tw_r h1 h2 h3 h4 h5 h6
  refine run_of rfl plL rfl ?_
  refine e_iload_n dL_turn_0 rfl ?_
  refine e_iload_n dL_turn_1 rfl ?_
  refine e_isub dL_turn_2 ?_
  refine e_iload dL_turn_3 rfl ?_
  refine e_iload_n dL_turn_5 rfl ?_
  refine e_isub dL_turn_6 ?_
  refine e_imul dL_turn_7 ?_
  refine e_iload_n dL_turn_8 rfl ?_
  refine e_iload_n dL_turn_9 rfl ?_
  refine e_isub dL_turn_10 ?_
  refine e_iload dL_turn_11 rfl ?_
  refine e_iload_n dL_turn_13 rfl ?_
  refine e_isub dL_turn_14 ?_
  refine e_imul dL_turn_15 ?_
  refine e_isub dL_turn_16 ?_
  refine e_pureS qcL_49 (S_signum (x := tw ax ay bx b' cx cy) ⟨by omega, by omega⟩) rfl rfl rfl rfl dL_turn_17 ?_
  refine e_iret rfl dL_turn_20 (by decide) (by decide) ?_
  exact ⟨rfl, rfl, rfl⟩
set_option maxRecDepth 20000 in
theorem cm_loop {z : Option Nat} {D : Nat} : ∀ (n p q : Nat) (Lo : List (Nat × Value)), q ≤ n → p < 100000 → q < 100000 → Nat.gcd p q = D → Ev (g_B G mL_common 0 0 (fun o z1 h1 => o = .inl (some (.int (iN (D : Int)))) ∧ z1 = z ∧ h1 = h)) 0 0 z h 10 ((3, .int (iN (q : Int))) :: (2, .int (iN (p : Int))) :: Lo) []
  | 0, p, q, Lo, hn, hp, hq, hD => by
    obtain rfl : q = 0 := by omega
    refine e_iload_n dL_common_10 rfl ?_
    refine e_if_le (tgt := 27) ⟨by omega, by omega⟩ dL_common_11 rfl (fun c_11 => ?_) (fun c_11 => absurd (by omega) c_11)
    refine e_iload_n dL_common_27 rfl ?_
    refine e_iret rfl dL_common_28 (by decide) (by decide) ?_
    rw [Nat.gcd_zero_right] at hD
    subst hD
    exact ⟨rfl, rfl, rfl⟩
  | n + 1, p, q, Lo, hn, hp, hq, hD => by
    refine e_iload_n dL_common_10 rfl ?_
    refine e_if_le (tgt := 27) ⟨by omega, by omega⟩ dL_common_11 rfl (fun c_11 => ?_) (fun c_11 => ?_)
    · refine e_iload_n dL_common_27 rfl ?_
      refine e_iret rfl dL_common_28 (by decide) (by decide) ?_
      obtain rfl : q = 0 := by omega
      rw [Nat.gcd_zero_right] at hD
      subst hD
      exact ⟨rfl, rfl, rfl⟩
    · refine e_iload_n dL_common_14 rfl ?_
      refine e_iload_n dL_common_15 rfl ?_
      refine e_irem ⟨by omega, by omega⟩ ⟨by omega, by omega⟩ (by omega) dL_common_16 ?_
      refine e_istore dL_common_17 rfl ?_
      refine e_iload_n dL_common_19 rfl ?_
      refine e_istore_n dL_common_20 rfl ?_
      refine e_iload dL_common_21 rfl ?_
      refine e_istore_n dL_common_23 rfl ?_
      have e1 : (p : Int).tmod q = ((p % q : Nat) : Int) := rfl
      rw [e1]
      refine e_goto (tgt := 10) dL_common_24 rfl ?_
      have h9 := Nat.mod_lt p (show 0 < q by omega)
      have hD2 : Nat.gcd q (p % q) = D := by
        rw [← hD, Nat.gcd_comm p q, Nat.gcd_rec q p, Nat.gcd_comm]
      refine e_loc ((3, .int (iN ((p % q : Nat) : Int))) :: (2, .int (iN (q : Int))) :: []) ⟨rfl, rfl, trivial⟩ ?_
      exact cm_loop n q (p % q) [] (by omega) (by omega) (by omega) hD2
set_option maxRecDepth 20000 in
theorem L_common {x y : Int} (hx : -90000 ≤ x ∧ x ≤ 90000) (hy : -90000 ≤ y ∧ y ≤ 90000) : Pure G mL_common [.int (iN x), .int (iN y)] h (.int (iN (Nat.gcd x.natAbs y.natAbs : Int))) := fun z => by
  refine run_of rfl plL rfl ?_
  refine e_iload_n dL_common_0 rfl ?_
  refine e_mabs ⟨by omega, by omega⟩ qcL_43 rfl dL_common_1 ?_
  refine e_istore_n dL_common_4 rfl ?_
  refine e_iload_n dL_common_5 rfl ?_
  refine e_mabs ⟨by omega, by omega⟩ qcL_43 rfl dL_common_6 ?_
  refine e_istore_n dL_common_9 rfl ?_
  exact cm_loop (D := Nat.gcd x.natAbs y.natAbs) y.natAbs x.natAbs y.natAbs _ (Nat.le_refl _) (by omega) (by omega) rfl
set_option maxRecDepth 20000 in
theorem st_loop2 {z : Option Nat} {N9 : Nat} (hN : N9 = G.2.1.2 9 1) (h9 : N9 ≤ 260) : ∀ (n i : Nat) (q : Int) (Lo : List (Nat × Value)), i + n = N9 → Ev (g_B G mL_stirred 0 0 (fun o z1 h1 => ∃ v : Int, o = .inl (some (.int (iN v))) ∧ z1 = z ∧ h1 = h)) 0 0 z h 11 ((4, .int (iN (i : Int))) :: (3, .int (iN (N9 : Int))) :: (2, .ref (G.2.1.2 9 0)) :: (1, .int (iN q)) :: Lo) []
  | 0, i, q, Lo, e => by
    refine e_iload dL_stirred_11 rfl ?_
    refine e_iload_n dL_stirred_13 rfl ?_
    refine e_icmp_ge (tgt := 48) ⟨by omega, by omega⟩ ⟨by omega, by omega⟩ dL_stirred_14 rfl (fun c_9 => ?_) (fun c_9 => absurd (by omega) c_9)
    refine e_iload_n dL_stirred_48 rfl ?_
    refine e_iret rfl dL_stirred_49 (by decide) (by decide) ?_
    exact ⟨_, rfl, rfl, rfl⟩
  | n + 1, i, q, Lo, e => by
    refine e_iload dL_stirred_11 rfl ?_
    refine e_iload_n dL_stirred_13 rfl ?_
    refine e_icmp_ge (tgt := 48) ⟨by omega, by omega⟩ ⟨by omega, by omega⟩ dL_stirred_14 rfl (fun c_9 => absurd c_9 (by omega)) (fun c_9 => ?_)
    refine e_aload_n dL_stirred_17 rfl ?_
    refine e_iload dL_stirred_18 rfl ?_
    refine e_scAt (by omega) (by have h8 : (N9 : Int) = ((G.2.1.2 9 1 : Nat) : Int) := congrArg _ hN; show (i : Int) < ((G.2.1.2 9 1 : Nat) : Int); omega) dL_stirred_20 (fun w1 => ?_)
    refine e_istore dL_stirred_21 rfl ?_
    refine e_iload_n dL_stirred_23 rfl ?_
    refine e_iload dL_stirred_24 rfl ?_
    refine e_xor dL_stirred_26 (fun w2 => ?_)
    refine e_ldcI (c9 := 1103515245) wc_42 rfl dL_stirred_27 ?_
    refine e_imul dL_stirred_29 ?_
    refine e_sipush dL_stirred_30 (by decide) ?_
    refine e_iadd dL_stirred_33 ?_
    refine e_istore_n dL_stirred_34 rfl ?_
    refine e_iload_n dL_stirred_35 rfl ?_
    refine e_iload_n dL_stirred_36 rfl ?_
    refine e_bipush dL_stirred_37 (by decide) ?_
    refine e_ushr (t := 15) (by decide) (by omega) dL_stirred_39 (fun w4 _ _ => ?_)
    refine e_xor dL_stirred_40 (fun w3 => ?_)
    refine e_istore_n dL_stirred_41 rfl ?_
    refine e_iinc dL_stirred_42 rfl ?_
    refine e_goto (tgt := 11) dL_stirred_45 rfl ?_
    refine e_loc ((4, .int (iN ((i + 1 : Nat) : Int))) :: (3, .int (iN (N9 : Int))) :: (2, .ref (G.2.1.2 9 0)) :: (1, .int (iN w3)) :: []) ⟨rfl, rfl, rfl, rfl, trivial⟩ ?_
    exact st_loop2 hN h9 n (i + 1) w3 [] (by omega)
set_option maxRecDepth 20000 in
theorem L_stirred {z : Option Nat} : Run G mL_stirred [.ref (G.2.1.2 9 0)] z h 0 0 (fun o z1 h1 => ∃ v : Int, o = .inl (some (.int (iN v))) ∧ z1 = z ∧ h1 = h) := by
  refine run_of rfl plL rfl ?_
  refine e_ldcI (c9 := 59467) wc_254 rfl dL_stirred_0 ?_
  refine e_istore_n dL_stirred_2 rfl ?_
  refine e_aload_n dL_stirred_3 rfl ?_
  refine e_astore_n dL_stirred_4 rfl ?_
  refine e_aload_n dL_stirred_5 rfl ?_
  refine e_scLen dL_stirred_6 (fun N9 h8 h9 => ?_)
  refine e_istore_n dL_stirred_7 rfl ?_
  refine e_iconst dL_stirred_8 ?_
  refine e_istore dL_stirred_9 rfl ?_
  exact st_loop2 h8 h9 N9 0 59467 _ (Nat.zero_add _)
set_option maxRecDepth 20000 in
theorem ha_loop (hP : okP P) (hl : P.length ≤ 40) (hp : pt = P.length) {a : Int} (ra : r32 a) (hh : ∀ i, i < P.length → pM P i = a → 0 ≤ wI F 1 (pX P i) (pY P i)) : ∀ (n i k : Nat) (h : g_hp), lwW G x pt sd cr (pM P) (pX P) (pY P) GX GY FX FY P E S b P2 E2 S2 F l h → i + n = P.length → k + n ≤ 40 → Ev (g_B G mL_holdsAll 40 (6 * 40) (zQ (fun v h1 => v = .int (iN 1) ∧ lwW G x pt sd cr (pM P) (pX P) (pY P) GX GY FX FY P E S b P2 E2 S2 F l h1))) k (6 * k) none h 2 [(2, .int (iN (i : Int))), (1, .int (iN a)), (0, .ref l)] []
  | 0, i, k, h, W, e, hk => by
    subst hp
    refine e_iload_n dL_holdsAll_2 rfl ?_
    refine e_aload_n dL_holdsAll_3 rfl ?_
    refine e_getf fL_57 W.obj rfl dL_holdsAll_4 ?_
    refine e_icmp_ge (tgt := 50) ⟨by omega, by omega⟩ ⟨by omega, by omega⟩ dL_holdsAll_7 rfl (fun c_9 => ?_) (fun c_9 => absurd (by omega) c_9)
    refine e_iconst dL_holdsAll_50 ?_
    refine e_zret rfl (Or.inr rfl) dL_holdsAll_51 (by omega) (by omega) ?_
    exact ⟨rfl, _, rfl, rfl, W⟩
  | n + 1, i, k, h, W, e, hk => by
    have hi := hP i (by omega)
    have hq := hh i (by omega)
    have hb := wI_b F 1 (pX P i) (pY P i)
    have ih := ha_loop hP hl hp ra hh n (i + 1)
    subst hp
    refine e_iload_n dL_holdsAll_2 rfl ?_
    refine e_aload_n dL_holdsAll_3 rfl ?_
    refine e_getf fL_57 W.obj rfl dL_holdsAll_4 ?_
    refine e_icmp_ge (tgt := 50) ⟨by omega, by omega⟩ ⟨by omega, by omega⟩ dL_holdsAll_7 rfl (fun c_9 => absurd c_9 (by omega)) (fun c_9 => ?_)
    refine e_aload_n dL_holdsAll_10 rfl ?_
    refine e_getf fL_16 W.obj rfl dL_holdsAll_11 ?_
    refine e_iload_n dL_holdsAll_14 rfl ?_
    refine e_iaN W.hp (by omega) rfl dL_holdsAll_15 ?_
    refine e_iload_n dL_holdsAll_16 rfl ?_
    refine e_icmp_ne (tgt := 44) ⟨by omega, by omega⟩ ⟨by omega, by omega⟩ dL_holdsAll_17 rfl (fun c_17 => ?_) (fun c_17 => ?_)
    · refine e_iinc dL_holdsAll_44 rfl ?_
      refine e_goto (tgt := 2) dL_holdsAll_47 rfl ?_
      refine e_loc [(2, .int (iN ((i + 1 : Nat) : Int))), (1, .int (iN a)), (0, .ref l)] ⟨rfl, rfl, rfl, trivial⟩ ?_
      exact ih _ h W (by omega) (by omega)
    · refine e_aload_n dL_holdsAll_20 rfl ?_
      refine e_getf fL_10 W.obj rfl dL_holdsAll_21 ?_
      refine e_aload_n dL_holdsAll_24 rfl ?_
      refine e_getf fL_20 W.obj rfl dL_holdsAll_25 ?_
      refine e_iload_n dL_holdsAll_28 rfl ?_
      refine e_iaN W.xs (by omega) rfl dL_holdsAll_29 ?_
      refine e_aload_n dL_holdsAll_30 rfl ?_
      refine e_getf fL_23 W.obj rfl dL_holdsAll_31 ?_
      refine e_iload_n dL_holdsAll_34 rfl ?_
      refine e_iaN W.ys (by omega) rfl dL_holdsAll_35 ?_
      refine e_hs W qcL_85 rfl (fun _ _ _ _ _ _ _ _ _ X => D_lies X ⟨by omega, by omega⟩ ⟨by omega, by omega⟩) rfl rfl rfl rfl (by omega) dL_holdsAll_36 (fun h W => ?_)
      refine e_if_ge (tgt := 44) ⟨by omega, by omega⟩ dL_holdsAll_39 rfl (fun c_39 => ?_) (fun c_39 => absurd (hq (Classical.not_not.mp c_17)) c_39)
      refine e_iinc dL_holdsAll_44 rfl ?_
      refine e_goto (tgt := 2) dL_holdsAll_47 rfl ?_
      refine e_loc [(2, .int (iN ((i + 1 : Nat) : Int))), (1, .int (iN a)), (0, .ref l)] ⟨rfl, rfl, rfl, trivial⟩ ?_
      exact ih _ h W (by omega) (by omega)
set_option maxRecDepth 20000 in
theorem L_holdsAll (W : lwW G x pt sd cr (pM P) (pX P) (pY P) GX GY FX FY P E S b P2 E2 S2 F l h) (hP : okP P) (hl : P.length ≤ 40) (hp : pt = P.length) {a : Int} (ra : r32 a) (hh : ∀ i, i < P.length → pM P i = a → 0 ≤ wI F 1 (pX P i) (pY P i)) : Run G mL_holdsAll [.ref l, .int (iN a)] none h 40 (6 * 40) (zQ (fun v h1 => v = .int (iN 1) ∧ lwW G x pt sd cr (pM P) (pX P) (pY P) GX GY FX FY P E S b P2 E2 S2 F l h1)) := by
  refine run_L rfl plL rfl ?_
  refine e_iconst dL_holdsAll_0 ?_
  refine e_istore_n dL_holdsAll_1 rfl ?_
  refine e_loc [(2, .int (iN ((0 : Nat) : Int))), (1, .int (iN a)), (0, .ref l)] ⟨rfl, rfl, rfl, trivial⟩ ?_
  exact ha_loop hP hl hp ra hh P.length 0 0 h W (Nat.zero_add _) (by omega)
end LAW2
