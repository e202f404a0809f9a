/-! The law: a polygon -/
abbrev hO (L : PL) : PL := wrapN 61 (hoL L)
def polG (L : PL) : Prop := figP (hO L) ∧ (∀ i, i < L.length → 0 ≤ wI (hO L) 1 (pX L i) (pY L i)) ∧ (touP L ↔ ¬ closes L) ∧ (closes L → ((da L).natAbs : Int) = 2 * pin L + srd L - 2 ∧ ((da L).natAbs : Int) ≤ da (hO L) ∧ parG L ∧ seeG L)
theorem inG.s {L : PL} (h : inG L) : okS L := fun i hi => by
  have := h i hi
  omega
section LAW14
variable {G : g_X} {x pt sd cr : Int} {HP XS YS GX GY FX FY : Nat → Int} {P E : PL} {S : Nat → PL} {b : Int} {P2 E2 : PL} {S2 : Nat → PL} {F : PL} {l : Nat} {h : g_hp} {L : PL} {g9 : Nat}
set_option maxRecDepth 20000 in
theorem pg_sum (hL : polP L) (hx : gxy L GX GY) (hg9 : g9 < 3) (hS : S g9 = L) (W : lwW G x pt (L.length : Int) cr (pM P) (pX P) (pY P) GX GY FX FY P E S b P2 E2 S2 F l h) (kk : Ev (g_B G mL_isPolygon 1100 (6 * 1100) (zQ (fun v h1 => v = .int (iN 1) ∧ ∃ cr FX FY E F, lwW G x pt (L.length : Int) cr (pM P) (pX P) (pY P) GX GY FX FY P E S b P2 E2 S2 F l h1))) 0 (6 * 0) none h 103 [(3, .int (iN (srd L))), (2, .int (iN (da L))), (1, .int (iN (g9 : Int))), (0, .ref l)] []) : ∀ (n k9 : Nat), k9 + n = L.length → Ev (g_B G mL_isPolygon 1100 (6 * 1100) (zQ (fun v h1 => v = .int (iN 1) ∧ ∃ cr FX FY E F, lwW G x pt (L.length : Int) cr (pM P) (pX P) (pY P) GX GY FX FY P E S b P2 E2 S2 F l h1))) 0 (6 * 0) none h 7 [(4, .int (iN ((k9 : Nat) : Int))), (3, .int (iN (sumN (fun i => (gsE L i : Int)) (k9)))), (2, .int (iN (sumN (daT L) (k9)))), (1, .int (iN (g9 : Int))), (0, .ref l)] []
  | 0, k9, e => by
    have hl := hL.1
    have e9 : k9 = L.length := by omega
    subst e9
    refine e_iload dL_isPolygon_7 rfl ?_
    refine e_aload_n dL_isPolygon_9 rfl ?_
    refine e_getf fL_174 W.obj rfl dL_isPolygon_10 ?_
    refine e_icmp_ge (tgt := 103) ⟨by omega, by omega⟩ ⟨by omega, by omega⟩ dL_isPolygon_13 rfl (fun c_9 => ?_) (fun c_9 => absurd (by omega) c_9)
    exact e_loc [(3, .int (iN (srd L))), (2, .int (iN (da L))), (1, .int (iN (g9 : Int))), (0, .ref l)] ⟨rfl, rfl, rfl, rfl, trivial⟩ kk
  | n + 1, k9, e => by
    have ih := pg_sum hL hx hg9 hS W kk n (k9 + 1) (by omega)
    have hl := hL.1
    have hk9 : k9 < L.length := by omega
    have hn := nxt_lt hk9
    have ek := hx k9 hk9
    have ea := hx _ hn
    have gk := hL.2 k9 hk9
    have ga := hL.2 _ hn
    have et := tm_nxt hk9
    refine e_iload dL_isPolygon_7 rfl ?_
    refine e_aload_n dL_isPolygon_9 rfl ?_
    refine e_getf fL_174 W.obj rfl dL_isPolygon_10 ?_
    refine e_icmp_ge (tgt := 103) ⟨by omega, by omega⟩ ⟨by omega, by omega⟩ dL_isPolygon_13 rfl (fun c_9 => absurd c_9 (by omega)) (fun c_9 => ?_)
    refine e_iload dL_isPolygon_16 rfl ?_
    refine e_iconst dL_isPolygon_18 ?_
    refine e_iadd dL_isPolygon_19 ?_
    refine e_aload_n dL_isPolygon_20 rfl ?_
    refine e_getf fL_174 W.obj rfl dL_isPolygon_21 ?_
    refine e_irem ⟨by omega, by omega⟩ ⟨by omega, by omega⟩ (by omega) dL_isPolygon_24 ?_
    rw [et]
    refine e_istore dL_isPolygon_25 rfl ?_
    refine e_iload_n dL_isPolygon_27 rfl ?_
    refine e_aload_n dL_isPolygon_28 rfl ?_
    refine e_getf fL_26 W.obj rfl dL_isPolygon_29 ?_
    refine e_iload dL_isPolygon_32 rfl ?_
    refine e_iaE W.gx (by omega) rfl ek.1 dL_isPolygon_34 ?_
    refine e_aload_n dL_isPolygon_35 rfl ?_
    refine e_getf fL_29 W.obj rfl dL_isPolygon_36 ?_
    refine e_iload dL_isPolygon_39 rfl ?_
    refine e_iaE W.gy (by omega) rfl ea.2 dL_isPolygon_41 ?_
    refine e_imul dL_isPolygon_42 ?_
    refine e_aload_n dL_isPolygon_43 rfl ?_
    refine e_getf fL_29 W.obj rfl dL_isPolygon_44 ?_
    refine e_iload dL_isPolygon_47 rfl ?_
    refine e_iaE W.gy (by omega) rfl ek.2 dL_isPolygon_49 ?_
    refine e_aload_n dL_isPolygon_50 rfl ?_
    refine e_getf fL_26 W.obj rfl dL_isPolygon_51 ?_
    refine e_iload dL_isPolygon_54 rfl ?_
    refine e_iaE W.gx (by omega) rfl ea.1 dL_isPolygon_56 ?_
    refine e_imul dL_isPolygon_57 ?_
    refine e_isub dL_isPolygon_58 ?_
    refine e_iadd dL_isPolygon_59 ?_
    refine e_istore_n dL_isPolygon_60 rfl ?_
    refine e_iload_n dL_isPolygon_61 rfl ?_
    refine e_aload_n dL_isPolygon_62 rfl ?_
    refine e_getf fL_26 W.obj rfl dL_isPolygon_63 ?_
    refine e_iload dL_isPolygon_66 rfl ?_
    refine e_iaE W.gx (by omega) rfl ea.1 dL_isPolygon_68 ?_
    refine e_aload_n dL_isPolygon_69 rfl ?_
    refine e_getf fL_26 W.obj rfl dL_isPolygon_70 ?_
    refine e_iload dL_isPolygon_73 rfl ?_
    refine e_iaE W.gx (by omega) rfl ek.1 dL_isPolygon_75 ?_
    refine e_isub dL_isPolygon_76 ?_
    refine e_aload_n dL_isPolygon_77 rfl ?_
    refine e_getf fL_29 W.obj rfl dL_isPolygon_78 ?_
    refine e_iload dL_isPolygon_81 rfl ?_
    refine e_iaE W.gy (by omega) rfl ea.2 dL_isPolygon_83 ?_
    refine e_aload_n dL_isPolygon_84 rfl ?_
    refine e_getf fL_29 W.obj rfl dL_isPolygon_85 ?_
    refine e_iload dL_isPolygon_88 rfl ?_
    refine e_iaE W.gy (by omega) rfl ek.2 dL_isPolygon_90 ?_
    refine e_isub dL_isPolygon_91 ?_
    refine e_pS qcL_81 (L_common ⟨by omega, by omega⟩ ⟨by omega, by omega⟩) rfl rfl rfl rfl (by omega) dL_isPolygon_92 ?_
    refine e_iadd dL_isPolygon_95 ?_
    refine e_istore_n dL_isPolygon_96 rfl ?_
    refine e_iinc dL_isPolygon_97 rfl ?_
    refine e_goto (tgt := 7) dL_isPolygon_100 rfl ?_
    exact e_loc [(4, .int (iN ((k9 + 1 : Nat) : Int))), (3, .int (iN (sumN (fun i => (gsE L i : Int)) (k9 + 1)))), (2, .int (iN (sumN (daT L) (k9 + 1)))), (1, .int (iN (g9 : Int))), (0, .ref l)] ⟨rfl, rfl, rfl, rfl, rfl, trivial⟩ ih
set_option maxRecDepth 20000 in
theorem pg_lies (hL : polP L) (hx : gxy L GX GY) (hg9 : g9 < 3) (hS : S g9 = L) (hP : polG L) (kk : ∀ (k : Nat) (h : g_hp), lwW G x pt (L.length : Int) cr (pM P) (pX P) (pY P) GX GY FX FY P E S b P2 E2 S2 (hO L) l h → k ≤ 220 → Ev (g_B G mL_isPolygon 1100 (6 * 1100) (zQ (fun v h1 => v = .int (iN 1) ∧ ∃ cr FX FY E F, lwW G x pt (L.length : Int) cr (pM P) (pX P) (pY P) GX GY FX FY P E S b P2 E2 S2 F l h1))) k (6 * k) none h 186 [(3, .int (iN (srd L))), (2, .int (iN (da L))), (1, .int (iN (g9 : Int))), (0, .ref l)] []) : ∀ (n i9 k : Nat) (h : g_hp), lwW G x pt (L.length : Int) cr (pM P) (pX P) (pY P) GX GY FX FY P E S b P2 E2 S2 (hO L) l h → i9 + n = L.length → k ≤ 205 + i9 → Ev (g_B G mL_isPolygon 1100 (6 * 1100) (zQ (fun v h1 => v = .int (iN 1) ∧ ∃ cr FX FY E F, lwW G x pt (L.length : Int) cr (pM P) (pX P) (pY P) GX GY FX FY P E S b P2 E2 S2 F l h1))) k (6 * k) none h 145 [(4, .int (iN (i9 : Int))), (3, .int (iN (srd L))), (2, .int (iN (da L))), (1, .int (iN (g9 : Int))), (0, .ref l)] []
  | 0, i9, k, h, W, e, hk => by
    have hl := hL.1
    refine e_iload dL_isPolygon_145 rfl ?_
    refine e_aload_n dL_isPolygon_147 rfl ?_
    refine e_getf fL_174 W.obj rfl dL_isPolygon_148 ?_
    refine e_icmp_ge (tgt := 186) ⟨by omega, by omega⟩ ⟨by omega, by omega⟩ dL_isPolygon_151 rfl (fun c_9 => ?_) (fun c_9 => absurd (by omega) c_9)
    exact e_loc [(3, .int (iN (srd L))), (2, .int (iN (da L))), (1, .int (iN (g9 : Int))), (0, .ref l)] ⟨rfl, rfl, rfl, rfl, trivial⟩ (kk k h W (by omega))
  | n + 1, i9, k, h, W, e, hk => by
    have ih := pg_lies hL hx hg9 hS hP kk n (i9 + 1)
    have hl := hL.1
    have hi9 : i9 < L.length := by omega
    have ei := hx i9 hi9
    have gi := hL.2 i9 hi9
    have hq := hP.2.1 i9 hi9
    have hw := wI_b (hO L) 1 (pX L i9) (pY L i9)
    refine e_iload dL_isPolygon_145 rfl ?_
    refine e_aload_n dL_isPolygon_147 rfl ?_
    refine e_getf fL_174 W.obj rfl dL_isPolygon_148 ?_
    refine e_icmp_ge (tgt := 186) ⟨by omega, by omega⟩ ⟨by omega, by omega⟩ dL_isPolygon_151 rfl (fun c_9 => absurd c_9 (by omega)) (fun c_9 => ?_)
    refine e_aload_n dL_isPolygon_154 rfl ?_
    refine e_getf fL_10 W.obj rfl dL_isPolygon_155 ?_
    refine e_aload_n dL_isPolygon_158 rfl ?_
    refine e_getf fL_26 W.obj rfl dL_isPolygon_159 ?_
    refine e_iload dL_isPolygon_162 rfl ?_
    refine e_iaE W.gx (by omega) rfl ei.1 dL_isPolygon_164 ?_
    refine e_aload_n dL_isPolygon_165 rfl ?_
    refine e_getf fL_29 W.obj rfl dL_isPolygon_166 ?_
    refine e_iload dL_isPolygon_169 rfl ?_
    refine e_iaE W.gy (by omega) rfl ei.2 dL_isPolygon_171 ?_
    refine e_hs W qcL_85 rfl (fun _ _ _ _ _ _ _ _ _ X => D_lies X ⟨by omega, by omega⟩ ⟨by omega, by omega⟩) rfl rfl rfl rfl (by omega) dL_isPolygon_172 (fun h W => ?_)
    refine e_if_ge (tgt := 180) ⟨by omega, by omega⟩ dL_isPolygon_175 rfl (fun _ => ?_) (fun c => absurd hq c)
    refine e_iinc dL_isPolygon_180 rfl ?_
    refine e_goto (tgt := 145) dL_isPolygon_183 rfl ?_
    exact e_loc [(4, .int (iN ((i9 + 1 : Nat) : Int))), (3, .int (iN (srd L))), (2, .int (iN (da L))), (1, .int (iN (g9 : Int))), (0, .ref l)] ⟨rfl, rfl, rfl, rfl, rfl, trivial⟩ (ih _ h W (by omega) (by omega))
set_option maxRecDepth 20000 in
theorem pg_hold (hL : polP L) (hx : gxy L GX GY) (hg9 : g9 < 3) (hS : S g9 = L) (hg : goodP P) (hp : pt = P.length) (cl : closes L) (kk : ∀ (k : Nat) (h : g_hp), lwW G x pt (L.length : Int) cr (pM P) (pX P) (pY P) GX GY FX FY P (leA L) S b P2 E2 S2 (hO L) l h → k ≤ 400 → Ev (g_B G mL_isPolygon 1100 (6 * 1100) (zQ (fun v h1 => v = .int (iN 1) ∧ ∃ cr FX FY E F, lwW G x pt (L.length : Int) cr (pM P) (pX P) (pY P) GX GY FX FY P E S b P2 E2 S2 F l h1))) k (6 * k) none h 328 [(5, .int (iN (hdN P L 0 P.length : Int))), (2, .int (iN (da L))), (1, .int (iN (g9 : Int))), (0, .ref l)] []) : ∀ (n i9 k : Nat) (h : g_hp), lwW G x pt (L.length : Int) cr (pM P) (pX P) (pY P) GX GY FX FY P (leA L) S b P2 E2 S2 (hO L) l h → i9 + n = P.length → k ≤ 370 + i9 → Ev (g_B G mL_isPolygon 1100 (6 * 1100) (zQ (fun v h1 => v = .int (iN 1) ∧ ∃ cr FX FY E F, lwW G x pt (L.length : Int) cr (pM P) (pX P) (pY P) GX GY FX FY P E S b P2 E2 S2 F l h1))) k (6 * k) none h 268 [(6, .int (iN ((i9 : Nat) : Int))), (5, .int (iN (hdN P L 0 (i9) : Int))), (2, .int (iN (da L))), (1, .int (iN (g9 : Int))), (0, .ref l)] []
  | 0, i9, k, h, W, e, hk => by
    have hl := hg.1
    have e9 : i9 = P.length := by omega
    subst e9
    subst hp
    refine e_iload dL_isPolygon_268 rfl ?_
    refine e_aload_n dL_isPolygon_270 rfl ?_
    refine e_getf fL_57 W.obj rfl dL_isPolygon_271 ?_
    refine e_icmp_ge (tgt := 328) ⟨by omega, by omega⟩ ⟨by omega, by omega⟩ dL_isPolygon_274 rfl (fun c_9 => ?_) (fun c_9 => absurd (by omega) c_9)
    exact e_loc [(5, .int (iN (hdN P L 0 P.length : Int))), (2, .int (iN (da L))), (1, .int (iN (g9 : Int))), (0, .ref l)] ⟨rfl, rfl, rfl, rfl, trivial⟩ (kk k h W (by omega))
  | n + 1, i9, k, h, W, e, hk => by
    have ih := pg_hold hL hx hg9 hS hg hp cl kk n (i9 + 1)
    have hl := hg.1
    have gi := hg.2 i9 (by omega)
    have hw := wI_b L 1 (pX P i9) (pY P i9)
    have hS9 : S ((g9 : Int)).toNat = L := hS
    have cl9 : closes (S ((g9 : Int)).toNat) := by
      rw [hS9]
      exact cl
    have et : hdC P L 0 i9 → hdN P L 0 (i9 + 1) = hdN P L 0 i9 + 1 := fun w => if_pos w
    have ef : ¬ hdC P L 0 i9 → hdN P L 0 (i9 + 1) = hdN P L 0 i9 := fun w => if_neg w
    subst hp
    refine e_iload dL_isPolygon_268 rfl ?_
    refine e_aload_n dL_isPolygon_270 rfl ?_
    refine e_getf fL_57 W.obj rfl dL_isPolygon_271 ?_
    refine e_icmp_ge (tgt := 328) ⟨by omega, by omega⟩ ⟨by omega, by omega⟩ dL_isPolygon_274 rfl (fun c_9 => absurd c_9 (by omega)) (fun c_9 => ?_)
    refine e_iload dL_isPolygon_277 rfl ?_
    refine e_aload_n dL_isPolygon_279 rfl ?_
    refine e_getf fL_16 W.obj rfl dL_isPolygon_280 ?_
    refine e_iload dL_isPolygon_283 rfl ?_
    refine e_iaN W.hp (by omega) rfl dL_isPolygon_285 ?_
    refine e_if_ne (tgt := 318) ⟨by omega, by omega⟩ dL_isPolygon_286 rfl (fun c_286 => ?_) (fun c_286 => ?_)
    · refine e_iconst dL_isPolygon_318 ?_
      have e5 := ef (fun w => c_286 w.1)
      refine e_iadd dL_isPolygon_319 ?_
      refine e_istore dL_isPolygon_320 rfl ?_
      refine e_iinc dL_isPolygon_322 rfl ?_
      refine e_goto (tgt := 268) dL_isPolygon_325 rfl ?_
      refine e_loc [(6, .int (iN ((i9 + 1 : Nat) : Int))), (5, .int (iN (hdN P L 0 (i9 + 1) : Int))), (2, .int (iN (da L))), (1, .int (iN (g9 : Int))), (0, .ref l)] ⟨rfl, ?_, rfl, rfl, rfl, trivial⟩ (ih _ h W (by omega) (by omega))
      rw [e5]
      rfl
    · refine e_aload_n dL_isPolygon_289 rfl ?_
      refine e_getf fL_10 W.obj rfl dL_isPolygon_290 ?_
      refine e_iload_n dL_isPolygon_293 rfl ?_
      refine e_aload_n dL_isPolygon_294 rfl ?_
      refine e_getf fL_20 W.obj rfl dL_isPolygon_295 ?_
      refine e_iload dL_isPolygon_298 rfl ?_
      refine e_iaN W.xs (by omega) rfl dL_isPolygon_300 ?_
      refine e_aload_n dL_isPolygon_301 rfl ?_
      refine e_getf fL_23 W.obj rfl dL_isPolygon_302 ?_
      refine e_iload dL_isPolygon_305 rfl ?_
      refine e_iaN W.ys (by omega) rfl dL_isPolygon_307 ?_
      refine e_hs W qcL_201 rfl (fun _ _ _ _ _ _ _ _ _ X => D_polygonLies X ⟨by omega, by omega⟩ cl9 ⟨by omega, by omega⟩ ⟨by omega, by omega⟩) rfl rfl rfl rfl (by omega) dL_isPolygon_308 (fun h W => ?_)
      rw [hS9]
      refine e_if_lt (tgt := 318) ⟨by omega, by omega⟩ dL_isPolygon_311 rfl (fun c_311 => ?_) (fun c_311 => ?_)
      · refine e_iconst dL_isPolygon_318 ?_
        have e5 := ef (fun w => absurd w.2 (by omega))
        refine e_iadd dL_isPolygon_319 ?_
        refine e_istore dL_isPolygon_320 rfl ?_
        refine e_iinc dL_isPolygon_322 rfl ?_
        refine e_goto (tgt := 268) dL_isPolygon_325 rfl ?_
        refine e_loc [(6, .int (iN ((i9 + 1 : Nat) : Int))), (5, .int (iN (hdN P L 0 (i9 + 1) : Int))), (2, .int (iN (da L))), (1, .int (iN (g9 : Int))), (0, .ref l)] ⟨rfl, ?_, rfl, rfl, rfl, trivial⟩ (ih _ h W (by omega) (by omega))
        rw [e5]
        rfl
      · refine e_iconst dL_isPolygon_314 ?_
        refine e_goto (tgt := 319) dL_isPolygon_315 rfl ?_
        have e5 := et (⟨by omega, by omega⟩)
        refine e_iadd dL_isPolygon_319 ?_
        refine e_istore dL_isPolygon_320 rfl ?_
        refine e_iinc dL_isPolygon_322 rfl ?_
        refine e_goto (tgt := 268) dL_isPolygon_325 rfl ?_
        refine e_loc [(6, .int (iN ((i9 + 1 : Nat) : Int))), (5, .int (iN (hdN P L 0 (i9 + 1) : Int))), (2, .int (iN (da L))), (1, .int (iN (g9 : Int))), (0, .ref l)] ⟨rfl, ?_, rfl, rfl, rfl, trivial⟩ (ih _ h W (by omega) (by omega))
        rw [e5]
        rfl
set_option maxRecDepth 20000 in
theorem pg_simple (hL : polP L) (hx : gxy L GX GY) (hg9 : g9 < 3) (hS : S g9 = L) (hg : goodP P) (hp : pt = P.length) (hP : polG L) (cl : closes L) (k : Nat) (h : g_hp) (W : lwW G x pt (L.length : Int) cr (pM P) (pX P) (pY P) GX GY FX FY P E S b P2 E2 S2 (hO L) l h) (hk : k ≤ 222) : Ev (g_B G mL_isPolygon 1100 (6 * 1100) (zQ (fun v h1 => v = .int (iN 1) ∧ ∃ cr FX FY E F, lwW G x pt (L.length : Int) cr (pM P) (pX P) (pY P) GX GY FX FY P E S b P2 E2 S2 F l h1))) k (6 * k) none h 202 [(3, .int (iN (srd L))), (2, .int (iN (da L))), (1, .int (iN (g9 : Int))), (0, .ref l)] [] := by
  have hl := hL.1
  have hS9 : S ((g9 : Int)).toNat = L := hS
  have cl9 : closes (S ((g9 : Int)).toNat) := by
    rw [hS9]
    exact cl
  obtain ⟨p1, p2, p3, p4⟩ := hP.2.2.2 cl
  have db := da_bdS hL.2.s (by omega)
  have dh := da_bdS hP.1.2.1 hP.1.1.2
  have dl : -100000 ≤ da L ∧ da L ≤ 100000 := by
    have h1 := sumN_bd (f := daT L) (B := 8192) (n := L.length) (fun i hi => by
      have b1 := hL.2 i hi
      have b2 := hL.2 _ (nxt_lt hi)
      have m1 := mul_bd (A := 64) (B := 64) b1.1 b2.2.1
      have m2 := mul_bd (A := 64) (B := 64) b1.2.1 b2.1
      exact ⟨by show _ ≤ pX L i * pY L (nxt L.length i) - pY L i * pX L (nxt L.length i); omega, by show pX L i * pY L (nxt L.length i) - pY L i * pX L (nxt L.length i) ≤ _; omega⟩)
    have h2 : (L.length : Int) * 8192 ≤ 100000 := by omega
    show _ ≤ sumN (daT L) L.length ∧ sumN (daT L) L.length ≤ _
    omega
  have dn : -100000 ≤ ((da L).natAbs : Int) ∧ ((da L).natAbs : Int) ≤ 100000 := by omega
  have rda : r32 (da L) := ⟨by omega, by omega⟩
  have rdh : r32 (da (hO L)) := ⟨by omega, by omega⟩
  have rdn : r32 ((da L).natAbs : Int) := ⟨by omega, by omega⟩
  refine e_aload_n dL_isPolygon_202 rfl ?_
  refine e_getf fL_10 W.obj rfl dL_isPolygon_203 ?_
  refine e_iload_n dL_isPolygon_206 rfl ?_
  refine e_hs W qcL_195 rfl (fun _ _ _ _ _ _ _ _ _ X => D_polygonInner X ⟨by omega, by omega⟩ cl9) rfl rfl rfl rfl (by omega) dL_isPolygon_207 (fun h W => ?_)
  rw [hS9]
  refine e_istore dL_isPolygon_210 rfl ?_
  refine e_aload_n dL_isPolygon_212 rfl ?_
  refine e_ow W qcL_192 rfl (L_isTouched hL hx W) rfl rfl rfl rfl (by omega) dL_isPolygon_213 (fun h v9 q9 => ?_)
  obtain ⟨rfl, W⟩ := q9
  rw [bC_f (fun w => hP.2.2.1.mp w cl)]
  refine e_if_ne (tgt := 260) r32_0 dL_isPolygon_216 rfl (fun c => absurd rfl c) (fun _ => ?_)
  refine e_iload_n dL_isPolygon_219 rfl ?_
  refine e_mabs rda qcL_43 (g_rM_of rfl (by show _ ≤ 1100; omega) (by show _ ≤ 6 * 1100; omega)) dL_isPolygon_220 ?_
  refine e_iconst dL_isPolygon_223 ?_
  refine e_iload dL_isPolygon_224 rfl ?_
  refine e_imul dL_isPolygon_226 ?_
  refine e_iload_n dL_isPolygon_227 rfl ?_
  refine e_iadd dL_isPolygon_228 ?_
  refine e_iconst dL_isPolygon_229 ?_
  refine e_isub dL_isPolygon_230 ?_
  rw [← p1]
  refine e_same_ne (tgt := 260) dL_isPolygon_231 rfl ?_
  refine e_aload_n dL_isPolygon_234 rfl ?_
  refine e_getf fL_10 W.obj rfl dL_isPolygon_235 ?_
  refine e_iload_n dL_isPolygon_238 rfl ?_
  refine e_hs W qcL_198 rfl (fun _ _ _ _ _ _ _ _ _ X => D_polygonEdge X ⟨by omega, by omega⟩ cl9) rfl rfl rfl rfl (by omega) dL_isPolygon_239 (fun h W => ?_)
  rw [hS9]
  refine e_iload_n dL_isPolygon_242 rfl ?_
  refine e_same_ne (tgt := 260) dL_isPolygon_243 rfl ?_
  refine e_aload_n dL_isPolygon_246 rfl ?_
  refine e_getf fL_10 W.obj rfl dL_isPolygon_247 ?_
  refine e_hs W qcL_88 rfl (fun _ _ _ _ _ _ _ _ _ X => D_area X) rfl rfl rfl rfl (by omega) dL_isPolygon_250 (fun h W => ?_)
  refine e_iload_n dL_isPolygon_253 rfl ?_
  refine e_mabs rda qcL_43 (g_rM_of rfl (by show _ ≤ 1100; omega) (by show _ ≤ 6 * 1100; omega)) dL_isPolygon_254 ?_
  refine e_icmp_ge (tgt := 262) rdh rdn dL_isPolygon_257 rfl (fun _ => ?_) (fun c => absurd p2 c)
  refine e_iconst dL_isPolygon_262 ?_
  refine e_istore dL_isPolygon_263 rfl ?_
  refine e_iconst dL_isPolygon_265 ?_
  refine e_istore dL_isPolygon_266 rfl ?_
  refine e_loc [(6, .int (iN ((0 : Nat) : Int))), (5, .int (iN (hdN P L 0 (0) : Int))), (2, .int (iN (da L))), (1, .int (iN (g9 : Int))), (0, .ref l)] ⟨rfl, rfl, rfl, rfl, rfl, trivial⟩ ?_
  refine pg_hold hL hx hg9 hS hg hp cl (fun k h W hk => ?_) P.length 0 _ h W (Nat.zero_add _) (by omega)
  refine e_aload_n dL_isPolygon_328 rfl ?_
  refine e_getf fL_10 W.obj rfl dL_isPolygon_329 ?_
  refine e_iload_n dL_isPolygon_332 rfl ?_
  refine e_iconst dL_isPolygon_333 ?_
  refine e_hs W qcL_204 rfl (fun _ _ _ _ _ _ _ _ _ X => D_holds X (a := 0) ⟨by omega, by omega⟩ ⟨by decide, by decide⟩ cl9) rfl rfl rfl rfl (by omega) dL_isPolygon_334 (fun h W => ?_)
  rw [hS9]
  refine e_iload dL_isPolygon_337 rfl ?_
  refine e_same_ne (tgt := 366) dL_isPolygon_339 rfl ?_
  refine e_aload_n dL_isPolygon_342 rfl ?_
  refine e_iload_n dL_isPolygon_343 rfl ?_
  refine e_iload_n dL_isPolygon_344 rfl ?_
  refine e_mabs rda qcL_43 (g_rM_of rfl (by show _ ≤ 1100; omega) (by show _ ≤ 6 * 1100; omega)) dL_isPolygon_345 ?_
  refine e_ow W qcL_207 rfl (L_isParted hL hx hg9 hS cl p3 dn W) rfl rfl rfl rfl (by omega) dL_isPolygon_348 (fun h v9 q9 => ?_)
  obtain ⟨rfl, W⟩ := q9
  refine e_if_eq (tgt := 366) ⟨by omega, by omega⟩ dL_isPolygon_351 rfl (fun c => absurd c (by decide)) (fun _ => ?_)
  refine e_aload_n dL_isPolygon_354 rfl ?_
  refine e_iload_n dL_isPolygon_355 rfl ?_
  refine e_ow W qcL_210 rfl (L_isSeen hL hx hg9 hS cl p4 W) rfl rfl rfl rfl (by omega) dL_isPolygon_356 (fun h v9 q9 => ?_)
  obtain ⟨rfl, W⟩ := q9
  refine e_if_eq (tgt := 366) ⟨by omega, by omega⟩ dL_isPolygon_359 rfl (fun c => absurd c (by decide)) (fun _ => ?_)
  refine e_iconst dL_isPolygon_362 ?_
  refine e_goto (tgt := 367) dL_isPolygon_363 rfl ?_
  refine e_zret rfl (Or.inr rfl) dL_isPolygon_367 (by omega) (by omega) ?_
  exact ⟨rfl, _, rfl, rfl, _, _, _, _, _, W⟩
set_option maxRecDepth 20000 in
theorem L_isPolygon (hL : polP L) (hx : gxy L GX GY) (hg9 : g9 < 3) (hS : S g9 = L) (hg : goodP P) (hp : pt = P.length) (hP : polG L) (W : lwW G x pt (L.length : Int) cr (pM P) (pX P) (pY P) GX GY FX FY P E S b P2 E2 S2 F l h) : Run G mL_isPolygon [.ref l, .int (iN (g9 : Int))] none h 1100 (6 * 1100) (zQ (fun v h1 => v = .int (iN 1) ∧ ∃ cr FX FY E F, lwW G x pt (L.length : Int) cr (pM P) (pX P) (pY P) GX GY FX FY P E S b P2 E2 S2 F l h1)) := by
  have hl := hL.1
  have hS9 : S ((g9 : Int)).toNat = L := hS
  refine run_L rfl plL rfl ?_
  refine e_iconst dL_isPolygon_0 ?_
  refine e_istore_n dL_isPolygon_1 rfl ?_
  refine e_iconst dL_isPolygon_2 ?_
  refine e_istore_n dL_isPolygon_3 rfl ?_
  refine e_iconst dL_isPolygon_4 ?_
  refine e_istore dL_isPolygon_5 rfl ?_
  refine e_loc [(4, .int (iN ((0 : Nat) : Int))), (3, .int (iN (sumN (fun i => (gsE L i : Int)) (0)))), (2, .int (iN (sumN (daT L) (0)))), (1, .int (iN (g9 : Int))), (0, .ref l)] ⟨rfl, rfl, rfl, rfl, rfl, trivial⟩ ?_
  refine pg_sum hL hx hg9 hS W ?_ L.length 0 (Nat.zero_add _)
  refine e_aload_n dL_isPolygon_103 rfl ?_
  refine e_getf fL_10 W.obj rfl dL_isPolygon_104 ?_
  refine e_iload_n dL_isPolygon_107 rfl ?_
  refine e_hs W qcL_183 rfl (fun _ _ _ _ _ _ _ _ _ X => D_polygonArea X (j := (g9 : Int)) ⟨by omega, by omega⟩) rfl rfl rfl rfl (by omega) dL_isPolygon_108 (fun h W => ?_)
  rw [hS9]
  refine e_iload_n dL_isPolygon_111 rfl ?_
  refine e_same_ne (tgt := 140) dL_isPolygon_112 rfl ?_
  refine e_aload_n dL_isPolygon_115 rfl ?_
  refine e_getf fL_10 W.obj rfl dL_isPolygon_116 ?_
  refine e_iload_n dL_isPolygon_119 rfl ?_
  refine e_hs W qcL_186 rfl (fun _ _ _ _ _ _ _ _ _ X => D_hullOf X (j := (g9 : Int)) ⟨by omega, by omega⟩ (by rw [hS9]; omega)) rfl rfl rfl rfl (by omega) dL_isPolygon_120 (fun h W => ?_)
  rw [hS9] at W ⊢
  refine e_aload_n dL_isPolygon_123 rfl ?_
  refine e_getf fL_10 W.obj rfl dL_isPolygon_124 ?_
  refine e_hs W qcL_68 rfl (fun _ _ _ _ _ _ _ _ _ X => D_corners X) rfl rfl rfl rfl (by omega) dL_isPolygon_127 (fun h W => ?_)
  refine e_same_ne (tgt := 140) dL_isPolygon_130 rfl ?_
  refine e_aload_n dL_isPolygon_133 rfl ?_
  refine e_ow W qcL_119 rfl (L_isFigure W hP.1) rfl rfl rfl rfl (by omega) dL_isPolygon_134 (fun h v9 q9 => ?_)
  obtain ⟨rfl, FX, FY, W, hxx⟩ := q9
  refine e_if_ne (tgt := 142) ⟨by omega, by omega⟩ dL_isPolygon_137 rfl (fun _ => ?_) (fun c => absurd (show ¬ (1 : Int) = 0 by decide) c)
  refine e_iconst dL_isPolygon_142 ?_
  refine e_istore dL_isPolygon_143 rfl ?_
  refine e_loc [(4, .int (iN ((0 : Nat) : Int))), (3, .int (iN (srd L))), (2, .int (iN (da L))), (1, .int (iN (g9 : Int))), (0, .ref l)] ⟨rfl, rfl, rfl, rfl, rfl, trivial⟩ ?_
  refine pg_lies hL hx hg9 hS hP (fun k h W hk => ?_) L.length 0 _ h W (Nat.zero_add _) (by omega)
  refine e_aload_n dL_isPolygon_186 rfl ?_
  refine e_getf fL_10 W.obj rfl dL_isPolygon_187 ?_
  refine e_iload_n dL_isPolygon_190 rfl ?_
  refine e_hs W qcL_189 rfl (fun _ _ _ _ _ _ _ _ _ X => D_isSimple X (j := (g9 : Int)) ⟨by omega, by omega⟩) rfl rfl rfl rfl (by omega) dL_isPolygon_191 (fun h W => ?_)
  rw [hS9]
  refine e_ifC_ne (tgt := 202) dL_isPolygon_194 rfl (fun cl => ?_) (fun cl => ?_)
  · exact pg_simple hL hx hg9 hS hg hp hP cl _ h W (by omega)
  · refine e_aload_n dL_isPolygon_197 rfl ?_
    refine e_ow W qcL_192 rfl (L_isTouched hL hx W) rfl rfl rfl rfl (by omega) dL_isPolygon_198 (fun h v9 q9 => ?_)
    obtain ⟨rfl, W⟩ := q9
    rw [bC_t (hP.2.2.1.mpr cl)]
    refine e_zret rfl (Or.inr rfl) dL_isPolygon_201 (by omega) (by omega) ?_
    exact ⟨rfl, _, rfl, rfl, _, _, _, _, _, W⟩
end LAW14
