/-! The law: hulls, their sums -/
abbrev W1 (P : PL) (a : Int) : PL := wrapN 61 (putN P a [] P.length)
abbrev J2 (P : PL) (a b1 : Int) : PL := wrapN 61 (jnL P a b1)
def holP (P F : PL) (a : Int) : Prop := ∀ i, i < P.length → pM P i = a → 0 ≤ wI F 1 (pX P i) (pY P i)
def ptsP (P F : PL) (a b1 : Int) : Prop := ∀ k, k < F.length → opU P a b1 (pX F k) (pY F k) P.length
def hfA (P : PL) (a : Int) : Prop := figP (W1 P a) ∧ holP P (W1 P a) a ∧ ptsP P (W1 P a) a a
def hfJ (P : PL) (a b1 : Int) : Prop := figP (J2 P a b1) ∧ holP P (J2 P a b1) a ∧ holP P (J2 P a b1) b1 ∧ ptsP P (J2 P a b1) a b1
def hfS (P : PL) (a b1 : Int) : Prop := figP (smL P a b1) ∧ ∀ i j, i < P.length → j < P.length → pM P i = a → pM P j = b1 → 0 ≤ wI (smL P a b1) 1 (pX P i + pX P j) (pY P i + pY P j)
def hfD (P : PL) (a : Int) : Prop := (smL P a a).length = (W1 P a).length ∧ da (smL P a a) = 4 * da (W1 P a)
def sumH (P : PL) : Prop := ∀ v, cntN P v P.length ≠ 0 → okH (wrapN 61 (putN P v [] P.length)) ∧ 0 < (wrapN 61 (putN P v [] P.length)).length
/-- what the law's points are -/
def goodP (P : PL) : Prop := (5 ≤ P.length ∧ P.length ≤ 26) ∧ (∀ i, i < P.length → (-100 ≤ pX P i ∧ pX P i ≤ 100) ∧ (-100 ≤ pY P i ∧ pY P i ≤ 100) ∧ 0 ≤ pM P i ∧ pM P i ≤ 2)
theorem goodP.ok {P : PL} (h : goodP P) : okP P := fun i hi => by
  have := h.2 i hi
  omega
theorem goodP.r {P : PL} (h : goodP P) : ∀ i, i < P.length → r32 (pM P i) := fun i hi => by
  have := h.2 i hi
  exact ⟨by omega, by omega⟩
theorem goodP.hp {P : PL} (h : goodP P) {i : Nat} (hi : i < P.length) : hpOK (pM P i) := by
  have := h.2 i hi
  exact ⟨by omega, by omega⟩
theorem cnt_at {P : PL} {a : Int} : ∀ {n i : Nat}, i < n → pM P i = a → cntN P a n ≠ 0
  | n + 1, i, hi, h => by
    show cntN P a n + (if pM P n = a then 1 else 0) ≠ 0
    by_cases c : i = n
    · subst c
      rw [if_pos h]
      omega
    · have := cnt_at (n := n) (show i < n by omega) h
      omega
theorem lyL_0 (P : PL) (a : Int) : lyL P a 0 = putN P a [] P.length := by
  show lyR (min (0 : Int) 60).toNat _ = _
  rw [show (min (0 : Int) 60).toNat = 0 from rfl]
  rfl
section LAW6
variable {G : g_X} {x pt sd cr : Int} {HP XS YS GX GY FX FY : Nat → Int} {P E : PL} {S : Nat → PL} {b : Int} {P2 E2 : PL} {S2 : Nat → PL} {F : PL} {l : Nat} {h : g_hp}
set_option maxRecDepth 20000 in
theorem ah_inner (hg : goodP P) (hp : pt = P.length) {a b1 : Int} (ha : hpOK a) (hb : hpOK b1) (hs : hfS P a b1) {i9 k0 : Nat} (hi : i9 < P.length) (hk0 : k0 ≤ 1900) (kk : ∀ (k : Nat) (h : g_hp), lwW G x pt sd cr (pM P) (pX P) (pY P) GX GY FX FY P E S b P2 E2 S2 (smL P a b1) l h → k ≤ k0 + P.length → Ev (g_B G mL_areHulls 2000 (6 * 2000) (zQ (fun v h1 => v = .int (iN 1) ∧ ∃ x cr FX FY F, lwW G x pt sd cr (pM P) (pX P) (pY P) GX GY FX FY P E S b P2 E2 S2 F l h1))) k (6 * k) none h 351 [(6, .int (iN ((i9 : Nat) : Int))), (2, .int (iN b1)), (1, .int (iN a)), (0, .ref l)] []) : ∀ (n j9 k : Nat) (h : g_hp), lwW G x pt sd cr (pM P) (pX P) (pY P) GX GY FX FY P E S b P2 E2 S2 (smL P a b1) l h → j9 + n = P.length → k ≤ k0 + j9 → Ev (g_B G mL_areHulls 2000 (6 * 2000) (zQ (fun v h1 => v = .int (iN 1) ∧ ∃ x cr FX FY F, lwW G x pt sd cr (pM P) (pX P) (pY P) GX GY FX FY P E S b P2 E2 S2 F l h1))) k (6 * k) none h 272 [(7, .int (iN ((j9 : Nat) : Int))), (6, .int (iN (i9 : Int))), (2, .int (iN b1)), (1, .int (iN a)), (0, .ref l)] []
  | 0, j9, k, h, W, e, hk => by
    have hl := hg.1
    subst hp
    refine e_iload dL_areHulls_272 rfl ?_
    refine e_aload_n dL_areHulls_274 rfl ?_
    refine e_getf fL_57 W.obj rfl dL_areHulls_275 ?_
    refine e_icmp_ge (tgt := 351) ⟨by omega, by omega⟩ ⟨by omega, by omega⟩ dL_areHulls_278 rfl (fun c_9 => ?_) (fun c_9 => absurd (by omega) c_9)
    exact e_loc [(6, .int (iN ((i9 : Nat) : Int))), (2, .int (iN b1)), (1, .int (iN a)), (0, .ref l)] ⟨rfl, rfl, rfl, rfl, trivial⟩ (kk k h W (by omega))
  | n + 1, j9, k, h, W, e, hk => by
    have ih := ah_inner hg hp ha hb hs hi hk0 kk n (j9 + 1)
    have hl := hg.1
    have hj : j9 < P.length := by omega
    have h1 := hg.2 i9 hi
    have h2 := hg.2 j9 hj
    have hq := hs.2 i9 j9 hi hj
    have hw := wI_b (smL P a b1) 1 (pX P i9 + pX P j9) (pY P i9 + pY P j9)
    subst hp
    refine e_iload dL_areHulls_272 rfl ?_
    refine e_aload_n dL_areHulls_274 rfl ?_
    refine e_getf fL_57 W.obj rfl dL_areHulls_275 ?_
    refine e_icmp_ge (tgt := 351) ⟨by omega, by omega⟩ ⟨by omega, by omega⟩ dL_areHulls_278 rfl (fun c_9 => absurd c_9 (by omega)) (fun c_9 => ?_)
    refine e_aload_n dL_areHulls_281 rfl ?_
    refine e_getf fL_16 W.obj rfl dL_areHulls_282 ?_
    refine e_iload dL_areHulls_285 rfl ?_
    refine e_iaN W.hp (by omega) rfl dL_areHulls_287 ?_
    refine e_iload_n dL_areHulls_288 rfl ?_
    refine e_icmp_ne (tgt := 345) ⟨by omega, by omega⟩ ⟨by omega, by omega⟩ dL_areHulls_289 rfl (fun c_289 => ?_) (fun c_289 => ?_)
    · refine e_iinc dL_areHulls_345 rfl ?_
      refine e_goto (tgt := 272) dL_areHulls_348 rfl ?_
      exact e_loc [(7, .int (iN ((j9 + 1 : Nat) : Int))), (6, .int (iN (i9 : Int))), (2, .int (iN b1)), (1, .int (iN a)), (0, .ref l)] ⟨rfl, rfl, rfl, rfl, rfl, trivial⟩ (ih _ h W (by omega) (by omega))
    · refine e_aload_n dL_areHulls_292 rfl ?_
      refine e_getf fL_16 W.obj rfl dL_areHulls_293 ?_
      refine e_iload dL_areHulls_296 rfl ?_
      refine e_iaN W.hp (by omega) rfl dL_areHulls_298 ?_
      refine e_iload_n dL_areHulls_299 rfl ?_
      refine e_icmp_ne (tgt := 345) ⟨by omega, by omega⟩ ⟨by omega, by omega⟩ dL_areHulls_300 rfl (fun c_300 => ?_) (fun c_300 => ?_)
      · refine e_iinc dL_areHulls_345 rfl ?_
        refine e_goto (tgt := 272) dL_areHulls_348 rfl ?_
        exact e_loc [(7, .int (iN ((j9 + 1 : Nat) : Int))), (6, .int (iN (i9 : Int))), (2, .int (iN b1)), (1, .int (iN a)), (0, .ref l)] ⟨rfl, rfl, rfl, rfl, rfl, trivial⟩ (ih _ h W (by omega) (by omega))
      · refine e_aload_n dL_areHulls_303 rfl ?_
        refine e_getf fL_10 W.obj rfl dL_areHulls_304 ?_
        refine e_aload_n dL_areHulls_307 rfl ?_
        refine e_getf fL_20 W.obj rfl dL_areHulls_308 ?_
        refine e_iload dL_areHulls_311 rfl ?_
        refine e_iaN W.xs (by omega) rfl dL_areHulls_313 ?_
        refine e_aload_n dL_areHulls_314 rfl ?_
        refine e_getf fL_20 W.obj rfl dL_areHulls_315 ?_
        refine e_iload dL_areHulls_318 rfl ?_
        refine e_iaN W.xs (by omega) rfl dL_areHulls_320 ?_
        refine e_iadd dL_areHulls_321 ?_
        refine e_aload_n dL_areHulls_322 rfl ?_
        refine e_getf fL_23 W.obj rfl dL_areHulls_323 ?_
        refine e_iload dL_areHulls_326 rfl ?_
        refine e_iaN W.ys (by omega) rfl dL_areHulls_328 ?_
        refine e_aload_n dL_areHulls_329 rfl ?_
        refine e_getf fL_23 W.obj rfl dL_areHulls_330 ?_
        refine e_iload dL_areHulls_333 rfl ?_
        refine e_iaN W.ys (by omega) rfl dL_areHulls_335 ?_
        refine e_iadd dL_areHulls_336 ?_
        refine e_hs W qcL_85 rfl (fun _ _ _ _ _ _ _ _ _ X => D_lies X ⟨by omega, by omega⟩ ⟨by omega, by omega⟩) rfl rfl rfl rfl (by omega) dL_areHulls_337 (fun h W => ?_)
        refine e_if_ge (tgt := 345) ⟨by omega, by omega⟩ dL_areHulls_340 rfl (fun _ => ?_) (fun c => absurd (hq (Classical.not_not.mp c_289) (Classical.not_not.mp c_300)) c)
        refine e_iinc dL_areHulls_345 rfl ?_
        refine e_goto (tgt := 272) dL_areHulls_348 rfl ?_
        exact e_loc [(7, .int (iN ((j9 + 1 : Nat) : Int))), (6, .int (iN (i9 : Int))), (2, .int (iN b1)), (1, .int (iN a)), (0, .ref l)] ⟨rfl, rfl, rfl, rfl, rfl, trivial⟩ (ih _ h W (by omega) (by omega))
set_option maxRecDepth 20000 in
theorem ah_outer (hg : goodP P) (hp : pt = P.length) {a b1 : Int} (ha : hpOK a) (hb : hpOK b1) (hs : hfS P a b1) {k0 : Nat} (hk0 : k0 ≤ 1200) (kk : ∀ (k : Nat) (h : g_hp), lwW G x pt sd cr (pM P) (pX P) (pY P) GX GY FX FY P E S b P2 E2 S2 (smL P a b1) l h → k ≤ k0 + 26 * 26 → Ev (g_B G mL_areHulls 2000 (6 * 2000) (zQ (fun v h1 => v = .int (iN 1) ∧ ∃ x cr FX FY F, lwW G x pt sd cr (pM P) (pX P) (pY P) GX GY FX FY P E S b P2 E2 S2 F l h1))) k (6 * k) none h 357 [(2, .int (iN b1)), (1, .int (iN a)), (0, .ref l)] []) : ∀ (n i9 k : Nat) (h : g_hp), lwW G x pt sd cr (pM P) (pX P) (pY P) GX GY FX FY P E S b P2 E2 S2 (smL P a b1) l h → i9 + n = P.length → k ≤ k0 + 26 * i9 → Ev (g_B G mL_areHulls 2000 (6 * 2000) (zQ (fun v h1 => v = .int (iN 1) ∧ ∃ x cr FX FY F, lwW G x pt sd cr (pM P) (pX P) (pY P) GX GY FX FY P E S b P2 E2 S2 F l h1))) k (6 * k) none h 260 [(6, .int (iN ((i9 : Nat) : Int))), (2, .int (iN b1)), (1, .int (iN a)), (0, .ref l)] []
  | 0, i9, k, h, W, e, hk => by
    have hl := hg.1
    subst hp
    refine e_iload dL_areHulls_260 rfl ?_
    refine e_aload_n dL_areHulls_262 rfl ?_
    refine e_getf fL_57 W.obj rfl dL_areHulls_263 ?_
    refine e_icmp_ge (tgt := 357) ⟨by omega, by omega⟩ ⟨by omega, by omega⟩ dL_areHulls_266 rfl (fun c_9 => ?_) (fun c_9 => absurd (by omega) c_9)
    exact e_loc [(2, .int (iN b1)), (1, .int (iN a)), (0, .ref l)] ⟨rfl, rfl, rfl, trivial⟩ (kk k h W (by omega))
  | n + 1, i9, k, h, W, e, hk => by
    have ih := ah_outer hg hp ha hb hs hk0 kk n (i9 + 1)
    have hl := hg.1
    have hi : i9 < P.length := by omega
    have inn := fun q => ah_inner hg hp ha hb hs (k0 := k) hi (by omega) q P.length 0 k h W (Nat.zero_add _) (by omega)
    subst hp
    refine e_iload dL_areHulls_260 rfl ?_
    refine e_aload_n dL_areHulls_262 rfl ?_
    refine e_getf fL_57 W.obj rfl dL_areHulls_263 ?_
    refine e_icmp_ge (tgt := 357) ⟨by omega, by omega⟩ ⟨by omega, by omega⟩ dL_areHulls_266 rfl (fun c_9 => absurd c_9 (by omega)) (fun c_9 => ?_)
    refine e_iconst dL_areHulls_269 ?_
    refine e_istore dL_areHulls_270 rfl ?_
    refine e_loc [(7, .int (iN ((0 : Nat) : Int))), (6, .int (iN (i9 : Int))), (2, .int (iN b1)), (1, .int (iN a)), (0, .ref l)] ⟨rfl, rfl, rfl, rfl, rfl, trivial⟩ ?_
    refine inn (fun k h W hk => ?_)
    refine e_iinc dL_areHulls_351 rfl ?_
    refine e_goto (tgt := 260) dL_areHulls_354 rfl ?_
    exact e_loc [(6, .int (iN ((i9 + 1 : Nat) : Int))), (2, .int (iN b1)), (1, .int (iN a)), (0, .ref l)] ⟨rfl, rfl, rfl, rfl, trivial⟩ (ih k h W (by omega) (by omega))
set_option maxRecDepth 20000 in
theorem L_areHulls (W : lwW G x pt sd cr (pM P) (pX P) (pY P) GX GY FX FY P E S b P2 E2 S2 F l h) (hg : goodP P) (hp : pt = P.length) (hsum : sumH P) (hA : hfA P (pM P 0)) (hD : hfD P (pM P 0)) (hS0 : hfS P (pM P 0) (pM P 0)) (hJ : ∀ r, r < P.length → hfJ P (pM P 0) (pM P r)) (hS : ∀ r, r < P.length → hfS P (pM P 0) (pM P r)) (hW : ∀ r, r < P.length → smL P (pM P r) (pM P 0) = smL P (pM P 0) (pM P r)) : Run G mL_areHulls [.ref l] none h 2000 (6 * 2000) (zQ (fun v h1 => v = .int (iN 1) ∧ ∃ x cr FX FY F, lwW G x pt sd cr (pM P) (pX P) (pY P) GX GY FX FY P E S b P2 E2 S2 F l h1)) := by
  have hl := hg.1
  have ha := hg.hp (show 0 < P.length by omega)
  have ca : cntN P (pM P 0) P.length ≠ 0 := cnt_at (show 0 < P.length by omega) rfl
  have ra := hg.r 0 (by omega)
  have lA := hA.1.1
  have rA : ∀ i, i < (W1 P (pM P 0)).length → b1k (pX (W1 P (pM P 0)) i) ∧ b1k (pY (W1 P (pM P 0)) i) := fun i hi => okb hA.1.2.1 hi
  refine run_L rfl plL rfl ?_
  refine e_aload_n dL_areHulls_0 rfl ?_
  refine e_getf fL_16 W.obj rfl dL_areHulls_1 ?_
  refine e_iconst dL_areHulls_4 ?_
  refine e_iaN (j := 0) W.hp (by omega) rfl dL_areHulls_5 ?_
  refine e_istore_n dL_areHulls_6 rfl ?_
  refine e_aload_n dL_areHulls_7 rfl ?_
  refine e_getf fL_16 W.obj rfl dL_areHulls_8 ?_
  refine e_aload_n dL_areHulls_11 rfl ?_
  refine e_aload_n dL_areHulls_12 rfl ?_
  refine e_getf fL_57 W.obj rfl dL_areHulls_13 ?_
  refine e_ow W qcL_54 rfl (L_next W (by omega) (by omega)) rfl rfl rfl rfl (by omega) dL_areHulls_16 (fun h v9 q9 => ?_)
  obtain ⟨r, x2, rfl, r0, r1, W⟩ := q9
  obtain ⟨r, rfl⟩ := Int.eq_ofNat_of_zero_le r0
  have hr : r < P.length := by omega
  have hb := hg.hp hr
  have cb : cntN P (pM P r) P.length ≠ 0 := cnt_at hr rfl
  have rb := hg.r r hr
  replace hJ := hJ r hr
  replace hS := hS r hr
  replace hW := hW r hr
  have lJ := hJ.1.1
  have lS := hS.1.1
  have lS0 := hS0.1.1
  refine e_iaN W.hp (by omega) rfl dL_areHulls_19 ?_
  refine e_istore_n dL_areHulls_20 rfl ?_
  refine e_aload_n dL_areHulls_21 rfl ?_
  refine e_getf fL_10 W.obj rfl dL_areHulls_22 ?_
  refine e_iload_n dL_areHulls_25 rfl ?_
  refine e_hs W qcL_116 rfl (fun _ _ _ _ _ _ _ _ _ X => D_hull X ha ca) rfl rfl rfl rfl (by omega) dL_areHulls_26 (fun h W => ?_)
  refine e_aload_n dL_areHulls_29 rfl ?_
  refine e_getf fL_10 W.obj rfl dL_areHulls_30 ?_
  refine e_hs W qcL_68 rfl (fun _ _ _ _ _ _ _ _ _ X => D_corners X) rfl rfl rfl rfl (by omega) dL_areHulls_33 (fun h W => ?_)
  refine e_same_ne (tgt := 63) dL_areHulls_36 rfl ?_
  refine e_aload_n dL_areHulls_39 rfl ?_
  refine e_ow W qcL_119 rfl (L_isFigure W hA.1) rfl rfl rfl rfl (by omega) dL_areHulls_40 (fun h v9 q9 => ?_)
  obtain ⟨rfl, FX, FY, W, hx⟩ := q9
  refine e_if_eq (tgt := 63) ⟨by omega, by omega⟩ dL_areHulls_43 rfl (fun c => absurd c (by decide)) (fun _ => ?_)
  refine e_aload_n dL_areHulls_46 rfl ?_
  refine e_iload_n dL_areHulls_47 rfl ?_
  refine e_ow W qcL_123 rfl (L_holdsAll W hg.ok (by omega) hp ra hA.2.1) rfl rfl rfl rfl (by omega) dL_areHulls_48 (fun h v9 q9 => ?_)
  obtain ⟨rfl, W⟩ := q9
  refine e_if_eq (tgt := 63) ⟨by omega, by omega⟩ dL_areHulls_51 rfl (fun c => absurd c (by decide)) (fun _ => ?_)
  refine e_aload_n dL_areHulls_54 rfl ?_
  refine e_iload_n dL_areHulls_55 rfl ?_
  refine e_iload_n dL_areHulls_56 rfl ?_
  refine e_ow W qcL_126 rfl (L_isOfPoints W hg.ok (by omega) hp rfl (show (W1 P (pM P 0)).length ≤ 80 by omega) (fun i hi => by rw [(hx i hi).1, (hx i hi).2]; exact okb hA.1.2.1 hi) ra ra (fun i hi => by rw [(hx i hi).1, (hx i hi).2]; exact hA.2.2 i hi)) rfl rfl rfl rfl (by omega) dL_areHulls_57 (fun h v9 q9 => ?_)
  obtain ⟨rfl, W⟩ := q9
  refine e_if_ne (tgt := 65) ⟨by omega, by omega⟩ dL_areHulls_60 rfl (fun _ => ?_) (fun c => absurd (show ¬ (1 : Int) = 0 by decide) c)
  refine e_aload_n dL_areHulls_65 rfl ?_
  refine e_getf fL_10 W.obj rfl dL_areHulls_66 ?_
  refine e_hs W qcL_88 rfl (fun _ _ _ _ _ _ _ _ _ X => D_area X) rfl rfl rfl rfl (by omega) dL_areHulls_69 (fun h W => ?_)
  refine e_istore_n dL_areHulls_72 rfl ?_
  refine e_aload_n dL_areHulls_73 rfl ?_
  refine e_getf fL_10 W.obj rfl dL_areHulls_74 ?_
  refine e_hs W qcL_94 rfl (fun _ _ _ _ _ _ _ _ _ X => D_checksum X) rfl rfl rfl rfl (by omega) dL_areHulls_77 (fun h W => ?_)
  refine e_istore dL_areHulls_80 rfl ?_
  refine e_aload_n dL_areHulls_82 rfl ?_
  refine e_getf fL_10 W.obj rfl dL_areHulls_83 ?_
  refine e_iload_n dL_areHulls_86 rfl ?_
  refine e_iload_n dL_areHulls_87 rfl ?_
  refine e_hs W qcL_130 rfl (fun _ _ _ _ _ _ _ _ _ X => D_join X ⟨ha, ha⟩ ⟨ca, ca⟩) rfl rfl rfl rfl (by omega) dL_areHulls_88 (fun h W => ?_)
  rw [show jnL P (pM P 0) (pM P 0) = putN P (pM P 0) [] P.length from if_pos rfl] at W ⊢
  refine e_aload_n dL_areHulls_91 rfl ?_
  refine e_getf fL_71 W.obj rfl dL_areHulls_92 ?_
  refine e_same_ne (tgt := 138) dL_areHulls_95 rfl ?_
  refine e_aload_n dL_areHulls_98 rfl ?_
  refine e_getf fL_10 W.obj rfl dL_areHulls_99 ?_
  refine e_hs W qcL_94 rfl (fun _ _ _ _ _ _ _ _ _ X => D_checksum X) rfl rfl rfl rfl (by omega) dL_areHulls_102 (fun h W => ?_)
  refine e_iload dL_areHulls_105 rfl ?_
  refine e_same_ne (tgt := 138) dL_areHulls_107 rfl ?_
  refine e_aload_n dL_areHulls_110 rfl ?_
  refine e_getf fL_10 W.obj rfl dL_areHulls_111 ?_
  refine e_iload_n dL_areHulls_114 rfl ?_
  refine e_iconst dL_areHulls_115 ?_
  refine e_hs W qcL_133 rfl (fun _ _ _ _ _ _ _ _ _ X => D_layer X ha ⟨by omega, by omega⟩ ⟨by omega, by rw [lyL_0, ord_len]; exact ca⟩) rfl rfl rfl rfl (by omega) dL_areHulls_116 (fun h W => ?_)
  rw [lyL_0] at W ⊢
  refine e_aload_n dL_areHulls_119 rfl ?_
  refine e_getf fL_71 W.obj rfl dL_areHulls_120 ?_
  refine e_same_ne (tgt := 138) dL_areHulls_123 rfl ?_
  refine e_aload_n dL_areHulls_126 rfl ?_
  refine e_getf fL_10 W.obj rfl dL_areHulls_127 ?_
  refine e_hs W qcL_94 rfl (fun _ _ _ _ _ _ _ _ _ X => D_checksum X) rfl rfl rfl rfl (by omega) dL_areHulls_130 (fun h W => ?_)
  refine e_iload dL_areHulls_133 rfl ?_
  refine e_same_eq (tgt := 140) dL_areHulls_135 rfl ?_
  refine e_aload_n dL_areHulls_140 rfl ?_
  refine e_getf fL_10 W.obj rfl dL_areHulls_141 ?_
  refine e_iload_n dL_areHulls_144 rfl ?_
  refine e_iload_n dL_areHulls_145 rfl ?_
  refine e_hs W qcL_136 rfl (fun _ _ _ _ _ _ _ _ _ X => D_sum X ⟨ha, ha⟩ ⟨ca, ca⟩ hsum) rfl rfl rfl rfl (by omega) dL_areHulls_146 (fun h W => ?_)
  rw [hD.1]
  refine e_istore dL_areHulls_149 rfl ?_
  refine e_iload dL_areHulls_151 rfl ?_
  refine e_aload_n dL_areHulls_153 rfl ?_
  refine e_getf fL_71 W.obj rfl dL_areHulls_154 ?_
  refine e_same_ne (tgt := 180) dL_areHulls_157 rfl ?_
  refine e_aload_n dL_areHulls_160 rfl ?_
  refine e_getf fL_10 W.obj rfl dL_areHulls_161 ?_
  refine e_hs W qcL_88 rfl (fun _ _ _ _ _ _ _ _ _ X => D_area X) rfl rfl rfl rfl (by omega) dL_areHulls_164 (fun h W => ?_)
  rw [hD.2]
  refine e_iconst dL_areHulls_167 ?_
  refine e_iload_n dL_areHulls_168 rfl ?_
  refine e_imul dL_areHulls_169 ?_
  refine e_same_ne (tgt := 180) dL_areHulls_170 rfl ?_
  refine e_aload_n dL_areHulls_173 rfl ?_
  refine e_ow W qcL_119 rfl (L_isFigure W hS0.1) rfl rfl rfl rfl (by omega) dL_areHulls_174 (fun h v9 q9 => ?_)
  obtain ⟨rfl, FX, FY, W, hx⟩ := q9
  refine e_if_ne (tgt := 182) ⟨by omega, by omega⟩ dL_areHulls_177 rfl (fun _ => ?_) (fun c => absurd (show ¬ (1 : Int) = 0 by decide) c)
  refine e_aload_n dL_areHulls_182 rfl ?_
  refine e_getf fL_10 W.obj rfl dL_areHulls_183 ?_
  refine e_iload_n dL_areHulls_186 rfl ?_
  refine e_iload_n dL_areHulls_187 rfl ?_
  refine e_hs W qcL_130 rfl (fun _ _ _ _ _ _ _ _ _ X => D_join X ⟨ha, hb⟩ ⟨ca, cb⟩) rfl rfl rfl rfl (by omega) dL_areHulls_188 (fun h W => ?_)
  refine e_aload_n dL_areHulls_191 rfl ?_
  refine e_getf fL_10 W.obj rfl dL_areHulls_192 ?_
  refine e_hs W qcL_68 rfl (fun _ _ _ _ _ _ _ _ _ X => D_corners X) rfl rfl rfl rfl (by omega) dL_areHulls_195 (fun h W => ?_)
  refine e_same_ne (tgt := 233) dL_areHulls_198 rfl ?_
  refine e_aload_n dL_areHulls_201 rfl ?_
  refine e_ow W qcL_119 rfl (L_isFigure W hJ.1) rfl rfl rfl rfl (by omega) dL_areHulls_202 (fun h v9 q9 => ?_)
  obtain ⟨rfl, FX, FY, W, hx⟩ := q9
  refine e_if_eq (tgt := 233) ⟨by omega, by omega⟩ dL_areHulls_205 rfl (fun c => absurd c (by decide)) (fun _ => ?_)
  refine e_aload_n dL_areHulls_208 rfl ?_
  refine e_iload_n dL_areHulls_209 rfl ?_
  refine e_ow W qcL_123 rfl (L_holdsAll W hg.ok (by omega) hp ra hJ.2.1) rfl rfl rfl rfl (by omega) dL_areHulls_210 (fun h v9 q9 => ?_)
  obtain ⟨rfl, W⟩ := q9
  refine e_if_eq (tgt := 233) ⟨by omega, by omega⟩ dL_areHulls_213 rfl (fun c => absurd c (by decide)) (fun _ => ?_)
  refine e_aload_n dL_areHulls_216 rfl ?_
  refine e_iload_n dL_areHulls_217 rfl ?_
  refine e_ow W qcL_123 rfl (L_holdsAll W hg.ok (by omega) hp rb hJ.2.2.1) rfl rfl rfl rfl (by omega) dL_areHulls_218 (fun h v9 q9 => ?_)
  obtain ⟨rfl, W⟩ := q9
  refine e_if_eq (tgt := 233) ⟨by omega, by omega⟩ dL_areHulls_221 rfl (fun c => absurd c (by decide)) (fun _ => ?_)
  refine e_aload_n dL_areHulls_224 rfl ?_
  refine e_iload_n dL_areHulls_225 rfl ?_
  refine e_iload_n dL_areHulls_226 rfl ?_
  refine e_ow W qcL_126 rfl (L_isOfPoints W hg.ok (by omega) hp rfl (show (J2 P (pM P 0) (pM P r)).length ≤ 80 by omega) (fun i hi => by rw [(hx i hi).1, (hx i hi).2]; exact okb hJ.1.2.1 hi) ra rb (fun i hi => by rw [(hx i hi).1, (hx i hi).2]; exact hJ.2.2.2 i hi)) rfl rfl rfl rfl (by omega) dL_areHulls_227 (fun h v9 q9 => ?_)
  obtain ⟨rfl, W⟩ := q9
  refine e_if_ne (tgt := 235) ⟨by omega, by omega⟩ dL_areHulls_230 rfl (fun _ => ?_) (fun c => absurd (show ¬ (1 : Int) = 0 by decide) c)
  refine e_aload_n dL_areHulls_235 rfl ?_
  refine e_getf fL_10 W.obj rfl dL_areHulls_236 ?_
  refine e_iload_n dL_areHulls_239 rfl ?_
  refine e_iload_n dL_areHulls_240 rfl ?_
  refine e_hs W qcL_136 rfl (fun _ _ _ _ _ _ _ _ _ X => D_sum X ⟨ha, hb⟩ ⟨ca, cb⟩ hsum) rfl rfl rfl rfl (by omega) dL_areHulls_241 (fun h W => ?_)
  refine e_iconst dL_areHulls_244 ?_
  refine e_icmp_lt (tgt := 255) ⟨by omega, by omega⟩ ⟨by omega, by omega⟩ dL_areHulls_245 rfl (fun c => absurd c (by omega)) (fun _ => ?_)
  refine e_aload_n dL_areHulls_248 rfl ?_
  refine e_ow W qcL_119 rfl (L_isFigure W hS.1) rfl rfl rfl rfl (by omega) dL_areHulls_249 (fun h v9 q9 => ?_)
  obtain ⟨rfl, FX, FY, W, hx⟩ := q9
  refine e_if_ne (tgt := 257) ⟨by omega, by omega⟩ dL_areHulls_252 rfl (fun _ => ?_) (fun c => absurd (show ¬ (1 : Int) = 0 by decide) c)
  refine e_iconst dL_areHulls_257 ?_
  refine e_istore dL_areHulls_258 rfl ?_
  refine e_loc [(6, .int (iN ((0 : Nat) : Int))), (2, .int (iN (pM P r))), (1, .int (iN (pM P 0))), (0, .ref l)] ⟨rfl, rfl, rfl, rfl, trivial⟩ ?_
  refine ah_outer hg hp ha hb hS (k0 := 1100) (by omega) (fun k h W hk => ?_) P.length 0 _ h W (Nat.zero_add _) (by omega)
  refine e_aload_n dL_areHulls_357 rfl ?_
  refine e_getf fL_10 W.obj rfl dL_areHulls_358 ?_
  refine e_hs W qcL_94 rfl (fun _ _ _ _ _ _ _ _ _ X => D_checksum X) rfl rfl rfl rfl (by omega) dL_areHulls_361 (fun h W => ?_)
  refine e_istore dL_areHulls_364 rfl ?_
  refine e_aload_n dL_areHulls_366 rfl ?_
  refine e_getf fL_10 W.obj rfl dL_areHulls_367 ?_
  refine e_iload_n dL_areHulls_370 rfl ?_
  refine e_iload_n dL_areHulls_371 rfl ?_
  refine e_hs W qcL_136 rfl (fun _ _ _ _ _ _ _ _ _ X => D_sum X ⟨hb, ha⟩ ⟨cb, ca⟩ hsum) rfl rfl rfl rfl (by omega) dL_areHulls_372 (fun h W => ?_)
  rw [hW] at W ⊢
  refine e_aload_n dL_areHulls_375 rfl ?_
  refine e_getf fL_71 W.obj rfl dL_areHulls_376 ?_
  refine e_same_ne (tgt := 398) dL_areHulls_379 rfl ?_
  refine e_aload_n dL_areHulls_382 rfl ?_
  refine e_getf fL_10 W.obj rfl dL_areHulls_383 ?_
  refine e_hs W qcL_94 rfl (fun _ _ _ _ _ _ _ _ _ X => D_checksum X) rfl rfl rfl rfl (by omega) dL_areHulls_386 (fun h W => ?_)
  refine e_iload dL_areHulls_389 rfl ?_
  refine e_same_ne (tgt := 398) dL_areHulls_391 rfl ?_
  refine e_iconst dL_areHulls_394 ?_
  refine e_goto (tgt := 399) dL_areHulls_395 rfl ?_
  refine e_zret rfl (Or.inr rfl) dL_areHulls_399 (by omega) (by omega) ?_
  exact ⟨rfl, _, rfl, rfl, _, _, _, _, _, W⟩
end LAW6
