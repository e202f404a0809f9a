/-! The law: a polygon is drawn -/
theorem uS_at {S : Nat → PL} {j : Nat} {L : PL} : uS S j L j = L := if_pos rfl
theorem uS_uS {S : Nat → PL} {j : Nat} {L M : PL} : uS (uS S j L) j M = uS S j M := funext fun i => by
  unfold uS
  by_cases c : i = j
  · rw [if_pos c, if_pos c]
  · rw [if_neg c, if_neg c, if_neg c]
/-- what the law's polygons are -/
def inG (L : PL) : Prop := ∀ i, i < L.length → (-64 ≤ pX L i ∧ pX L i ≤ 64) ∧ (-64 ≤ pY L i ∧ pY L i ≤ 64) ∧ pM L i = (i : Int)
def polP (L : PL) : Prop := (3 ≤ L.length ∧ L.length ≤ 10) ∧ inG L
def gxy (L : PL) (GX GY : Nat → Int) : Prop := ∀ i, i < L.length → GX i = pX L i ∧ GY i = pY L i
theorem inG_app {L : PL} {x y : Int} (h : inG L) (hx : -64 ≤ x ∧ x ≤ 64) (hy : -64 ≤ y ∧ y ≤ 64) : inG (L ++ [(x, y, (L.length : Int))]) := fun i hi => by
  rw [List.length_append, List.length_singleton] at hi
  rw [← app_X, ← app_Y, ← app_M]
  by_cases c : i = L.length
  · subst c
    rw [uI_s, uI_s, uI_s]
    exact ⟨hx, hy, rfl⟩
  · rw [uI_n _ _ c, uI_n _ _ c, uI_n _ _ c]
    exact h i (by omega)
theorem gxy_app {L : PL} {GX GY : Nat → Int} {x y m : Int} (h : gxy L GX GY) : gxy (L ++ [(x, y, m)]) (uI GX L.length x) (uI GY L.length y) := fun i hi => by
  rw [List.length_append, List.length_singleton] at hi
  rw [← app_X, ← app_Y]
  by_cases c : i = L.length
  · subst c
    rw [uI_s, uI_s, uI_s, uI_s]
    exact ⟨rfl, rfl⟩
  · rw [uI_n _ _ c, uI_n _ _ c, uI_n _ _ c, uI_n _ _ c]
    exact h i (by omega)
theorem pr_bd {d f : Int} (hd : -2 ≤ d ∧ d ≤ 2) (hf : 1 ≤ f ∧ f ≤ 32) : -64 ≤ d * f ∧ d * f ≤ 64 := by
  have := mul_bd (a := d) (b := f) (A := 2) (B := 32) (by omega) (by omega)
  omega
section LAW11
variable {G : g_X} {x pt sd cr : Int} {HP XS YS GX GY FX FY : Nat → Int} {P E : PL} {S : Nat → PL} {b : Int} {P2 E2 : PL} {S2 : Nat → PL} {F : PL} {l : Nat} {h : g_hp}
variable {g9 s9 : Nat} {ws wd ia : Int}
set_option maxRecDepth 20000 in
theorem dr_y2 (hg9 : g9 < 3) (hs9 : 3 ≤ s9 ∧ s9 ≤ 10) (hws : 0 ≤ ws ∧ ws ≤ 16) (hwd : 2 ≤ wd ∧ wd ≤ 32) (hia : ia = 0 ∨ ia = 1) {n9 : Nat} (ih : ∀ (x : Int) (L : PL) (GX GY : Nat → Int) (k : Nat) (h : g_hp), lwW G x pt (s9 : Int) cr HP XS YS GX GY FX FY P E (uS S g9 L) b P2 E2 S2 F l h → L.length + n9 = s9 → inG L → gxy L GX GY → k + n9 ≤ 20 → Ev (g_B G mL_isDrawn 20 (6 * 20) (zQ (fun v h1 => v = .int (iN 1) ∧ ∃ (x : Int) (GX GY : Nat → Int) (L : PL), polP L ∧ gxy L GX GY ∧ lwW G x pt (L.length : Int) cr HP XS YS GX GY FX FY P E (uS S g9 L) b P2 E2 S2 F l h1))) k (6 * k) none h 48 [(5, .int (iN (L.length : Int))), (4, .int (iN ws)), (3, .int (iN wd)), (2, .int (iN ia)), (1, .int (iN (g9 : Int))), (0, .ref l)] []) {x : Int} {L : PL} {GX GY : Nat → Int} {k : Nat} {h : g_hp} {xv yv : Int} (b_xv : -64 ≤ xv ∧ xv ≤ 64) (b_yv : -64 ≤ yv ∧ yv ≤ 64) (W : lwW G x pt (s9 : Int) cr HP XS YS (uI GX L.length xv) GY FX FY P E (uS S g9 L) b P2 E2 S2 F l h) (e : L.length + (n9 + 1) = s9) (hi : inG L) (hx : gxy L GX GY) (hk : k + (n9 + 1) ≤ 20) : Ev (g_B G mL_isDrawn 20 (6 * 20) (zQ (fun v h1 => v = .int (iN 1) ∧ ∃ (x : Int) (GX GY : Nat → Int) (L : PL), polP L ∧ gxy L GX GY ∧ lwW G x pt (L.length : Int) cr HP XS YS GX GY FX FY P E (uS S g9 L) b P2 E2 S2 F l h1))) k (6 * k) none h 276 [(5, .int (iN (L.length : Int))), (4, .int (iN ws)), (3, .int (iN wd)), (2, .int (iN ia)), (1, .int (iN (g9 : Int))), (0, .ref l)] [.int (iN yv), .int (iN (L.length : Int)), .ref (l + 101)] := by
  refine e_iasN W.gy (by omega) rfl dL_isDrawn_276 ?_
  refine (show Ev _ _ _ _ (g_up h (l + 101) (aI G 16 (uI GY L.length (yv)))) _ _ _ from ?_)
  replace W := W.w_gy L.length (yv)
  generalize g_up h (l + 101) _ = h at W ⊢
  refine e_aload_n dL_isDrawn_277 rfl ?_
  refine e_getf fL_10 W.obj rfl dL_isDrawn_278 ?_
  refine e_iload_n dL_isDrawn_281 rfl ?_
  refine e_aload_n dL_isDrawn_282 rfl ?_
  refine e_getf fL_26 W.obj rfl dL_isDrawn_283 ?_
  refine e_iload dL_isDrawn_286 rfl ?_
  refine e_iaE W.gx (by omega) rfl (uI_s _ _ _) dL_isDrawn_288 ?_
  refine e_aload_n dL_isDrawn_289 rfl ?_
  refine e_getf fL_29 W.obj rfl dL_isDrawn_290 ?_
  refine e_iload dL_isDrawn_293 rfl ?_
  refine e_iaE W.gy (by omega) rfl (uI_s _ _ _) dL_isDrawn_295 ?_
  refine e_hs W qcL_180 rfl (fun _ _ _ _ _ _ _ _ _ X => D_add X (j := (g9 : Int)) ⟨⟨by omega, by omega⟩, ⟨by omega, by omega, by omega, by omega⟩, by show (uS S g9 L g9).length < 16; rw [uS_at]; omega⟩) rfl rfl rfl rfl (by omega) dL_isDrawn_296 (fun h W => ?_)
  have ej : ((g9 : Int)).toNat = g9 := rfl
  rw [ej, uS_at, uS_uS] at W
  rw [ej, uS_at]
  refine e_iload dL_isDrawn_299 rfl ?_
  refine e_iconst dL_isDrawn_301 ?_
  refine e_iadd dL_isDrawn_302 ?_
  refine e_same_eq (tgt := 308) dL_isDrawn_303 rfl ?_
  have i9 := ih x (L ++ [(xv, yv, (L.length : Int))]) (uI GX L.length xv) (uI GY L.length yv) (k + 1) h W (by rw [List.length_append, List.length_singleton]; omega) (inG_app hi b_xv b_yv) (gxy_app hx) (by omega)
  rw [List.length_append, List.length_singleton] at i9
  refine e_iinc dL_isDrawn_308 rfl ?_
  refine e_goto (tgt := 48) dL_isDrawn_311 rfl ?_
  exact e_loc [(5, .int (iN ((L.length + 1 : Nat) : Int))), (4, .int (iN ws)), (3, .int (iN wd)), (2, .int (iN ia)), (1, .int (iN (g9 : Int))), (0, .ref l)] ⟨rfl, rfl, rfl, rfl, rfl, rfl, trivial⟩ i9
set_option maxRecDepth 20000 in
theorem dr_x (hg9 : g9 < 3) (hs9 : 3 ≤ s9 ∧ s9 ≤ 10) (hws : 0 ≤ ws ∧ ws ≤ 16) (hwd : 2 ≤ wd ∧ wd ≤ 32) (hia : ia = 0 ∨ ia = 1) {n9 : Nat} (ih : ∀ (x : Int) (L : PL) (GX GY : Nat → Int) (k : Nat) (h : g_hp), lwW G x pt (s9 : Int) cr HP XS YS GX GY FX FY P E (uS S g9 L) b P2 E2 S2 F l h → L.length + n9 = s9 → inG L → gxy L GX GY → k + n9 ≤ 20 → Ev (g_B G mL_isDrawn 20 (6 * 20) (zQ (fun v h1 => v = .int (iN 1) ∧ ∃ (x : Int) (GX GY : Nat → Int) (L : PL), polP L ∧ gxy L GX GY ∧ lwW G x pt (L.length : Int) cr HP XS YS GX GY FX FY P E (uS S g9 L) b P2 E2 S2 F l h1))) k (6 * k) none h 48 [(5, .int (iN (L.length : Int))), (4, .int (iN ws)), (3, .int (iN wd)), (2, .int (iN ia)), (1, .int (iN (g9 : Int))), (0, .ref l)] []) {x : Int} {L : PL} {GX GY : Nat → Int} {k : Nat} {h : g_hp} {xv dx dy fr : Int} (b_xv : -64 ≤ xv ∧ xv ≤ 64) (hdx : -2 ≤ dx ∧ dx ≤ 2) (hdy : -2 ≤ dy ∧ dy ≤ 2) (hfr : 1 ≤ fr ∧ fr ≤ 32) (W : lwW G x pt (s9 : Int) cr HP XS YS GX GY FX FY P E (uS S g9 L) b P2 E2 S2 F l h) (e : L.length + (n9 + 1) = s9) (hi : inG L) (hx : gxy L GX GY) (hk : k + (n9 + 1) ≤ 20) : Ev (g_B G mL_isDrawn 20 (6 * 20) (zQ (fun v h1 => v = .int (iN 1) ∧ ∃ (x : Int) (GX GY : Nat → Int) (L : PL), polP L ∧ gxy L GX GY ∧ lwW G x pt (L.length : Int) cr HP XS YS GX GY FX FY P E (uS S g9 L) b P2 E2 S2 F l h1))) k (6 * k) none h 246 [(9, .int (iN dy)), (8, .int (iN dx)), (7, .int (iN fr)), (5, .int (iN (L.length : Int))), (4, .int (iN ws)), (3, .int (iN wd)), (2, .int (iN ia)), (1, .int (iN (g9 : Int))), (0, .ref l)] [.int (iN xv), .int (iN (L.length : Int)), .ref (l + 100)] := by
  refine e_iasN W.gx (by omega) rfl dL_isDrawn_246 ?_
  refine (show Ev _ _ _ _ (g_up h (l + 100) (aI G 16 (uI GX L.length (xv)))) _ _ _ from ?_)
  replace W := W.w_gx L.length (xv)
  generalize g_up h (l + 100) _ = h at W ⊢
  refine e_aload_n dL_isDrawn_247 rfl ?_
  refine e_getf fL_29 W.obj rfl dL_isDrawn_248 ?_
  refine e_iload dL_isDrawn_251 rfl ?_
  refine e_iload_n dL_isDrawn_253 rfl ?_
  refine e_if_eq (tgt := 271) ⟨by omega, by omega⟩ dL_isDrawn_254 rfl (fun c_254 => ?_) (fun c_254 => ?_)
  · refine e_iload dL_isDrawn_271 rfl ?_
    refine e_iload dL_isDrawn_273 rfl ?_
    refine e_imul dL_isDrawn_275 ?_
    exact e_loc [(5, .int (iN (L.length : Int))), (4, .int (iN ws)), (3, .int (iN wd)), (2, .int (iN ia)), (1, .int (iN (g9 : Int))), (0, .ref l)] ⟨rfl, rfl, rfl, rfl, rfl, rfl, trivial⟩ (dr_y2 hg9 hs9 hws hwd hia ih b_xv (pr_bd hdy hfr) W e hi hx (by omega))
  · refine e_aload_n dL_isDrawn_257 rfl ?_
    refine e_iconst dL_isDrawn_258 ?_
    refine e_iload_n dL_isDrawn_259 rfl ?_
    refine e_imul dL_isDrawn_260 ?_
    refine e_iconst dL_isDrawn_261 ?_
    refine e_iadd dL_isDrawn_262 ?_
    refine e_ow W qcL_54 rfl (L_next W (by omega) (by omega)) rfl rfl rfl rfl (by omega) dL_isDrawn_263 (fun h v9 q9 => ?_)
    obtain ⟨r, x2, rfl, r0, r1, W⟩ := q9
    refine e_iload_n dL_isDrawn_266 rfl ?_
    refine e_isub dL_isDrawn_267 ?_
    refine e_goto (tgt := 276) dL_isDrawn_268 rfl ?_
    exact e_loc [(5, .int (iN (L.length : Int))), (4, .int (iN ws)), (3, .int (iN wd)), (2, .int (iN ia)), (1, .int (iN (g9 : Int))), (0, .ref l)] ⟨rfl, rfl, rfl, rfl, rfl, rfl, trivial⟩ (dr_y2 hg9 hs9 hws hwd hia ih b_xv ⟨by omega, by omega⟩ W e hi hx (by omega))
set_option maxRecDepth 20000 in
theorem dr_dy (hg9 : g9 < 3) (hs9 : 3 ≤ s9 ∧ s9 ≤ 10) (hws : 0 ≤ ws ∧ ws ≤ 16) (hwd : 2 ≤ wd ∧ wd ≤ 32) (hia : ia = 0 ∨ ia = 1) {n9 : Nat} (ih : ∀ (x : Int) (L : PL) (GX GY : Nat → Int) (k : Nat) (h : g_hp), lwW G x pt (s9 : Int) cr HP XS YS GX GY FX FY P E (uS S g9 L) b P2 E2 S2 F l h → L.length + n9 = s9 → inG L → gxy L GX GY → k + n9 ≤ 20 → Ev (g_B G mL_isDrawn 20 (6 * 20) (zQ (fun v h1 => v = .int (iN 1) ∧ ∃ (x : Int) (GX GY : Nat → Int) (L : PL), polP L ∧ gxy L GX GY ∧ lwW G x pt (L.length : Int) cr HP XS YS GX GY FX FY P E (uS S g9 L) b P2 E2 S2 F l h1))) k (6 * k) none h 48 [(5, .int (iN (L.length : Int))), (4, .int (iN ws)), (3, .int (iN wd)), (2, .int (iN ia)), (1, .int (iN (g9 : Int))), (0, .ref l)] []) {x : Int} {L : PL} {GX GY : Nat → Int} {k : Nat} {h : g_hp} {dx dy fr : Int} (hdx : -2 ≤ dx ∧ dx ≤ 2) (hdy : -2 ≤ dy ∧ dy ≤ 2) (hfr : 1 ≤ fr ∧ fr ≤ 32) (W : lwW G x pt (s9 : Int) cr HP XS YS GX GY FX FY P E (uS S g9 L) b P2 E2 S2 F l h) (e : L.length + (n9 + 1) = s9) (hi : inG L) (hx : gxy L GX GY) (hk : k + (n9 + 1) ≤ 20) : Ev (g_B G mL_isDrawn 20 (6 * 20) (zQ (fun v h1 => v = .int (iN 1) ∧ ∃ (x : Int) (GX GY : Nat → Int) (L : PL), polP L ∧ gxy L GX GY ∧ lwW G x pt (L.length : Int) cr HP XS YS GX GY FX FY P E (uS S g9 L) b P2 E2 S2 F l h1))) k (6 * k) none h 215 [(8, .int (iN dx)), (7, .int (iN fr)), (5, .int (iN (L.length : Int))), (4, .int (iN ws)), (3, .int (iN wd)), (2, .int (iN ia)), (1, .int (iN (g9 : Int))), (0, .ref l)] [.int (iN dy)] := by
  refine e_istore dL_isDrawn_215 rfl ?_
  refine e_aload_n dL_isDrawn_217 rfl ?_
  refine e_getf fL_26 W.obj rfl dL_isDrawn_218 ?_
  refine e_iload dL_isDrawn_221 rfl ?_
  refine e_iload_n dL_isDrawn_223 rfl ?_
  refine e_if_eq (tgt := 241) ⟨by omega, by omega⟩ dL_isDrawn_224 rfl (fun c_224 => ?_) (fun c_224 => ?_)
  · refine e_iload dL_isDrawn_241 rfl ?_
    refine e_iload dL_isDrawn_243 rfl ?_
    refine e_imul dL_isDrawn_245 ?_
    exact e_loc [(9, .int (iN dy)), (8, .int (iN dx)), (7, .int (iN fr)), (5, .int (iN (L.length : Int))), (4, .int (iN ws)), (3, .int (iN wd)), (2, .int (iN ia)), (1, .int (iN (g9 : Int))), (0, .ref l)] ⟨rfl, rfl, rfl, rfl, rfl, rfl, rfl, rfl, rfl, trivial⟩ (dr_x hg9 hs9 hws hwd hia ih (pr_bd hdx hfr) hdx hdy hfr W e hi hx (by omega))
  · refine e_aload_n dL_isDrawn_227 rfl ?_
    refine e_iconst dL_isDrawn_228 ?_
    refine e_iload_n dL_isDrawn_229 rfl ?_
    refine e_imul dL_isDrawn_230 ?_
    refine e_iconst dL_isDrawn_231 ?_
    refine e_iadd dL_isDrawn_232 ?_
    refine e_ow W qcL_54 rfl (L_next W (by omega) (by omega)) rfl rfl rfl rfl (by omega) dL_isDrawn_233 (fun h v9 q9 => ?_)
    obtain ⟨r, x2, rfl, r0, r1, W⟩ := q9
    refine e_iload_n dL_isDrawn_236 rfl ?_
    refine e_isub dL_isDrawn_237 ?_
    refine e_goto (tgt := 246) dL_isDrawn_238 rfl ?_
    exact e_loc [(9, .int (iN dy)), (8, .int (iN dx)), (7, .int (iN fr)), (5, .int (iN (L.length : Int))), (4, .int (iN ws)), (3, .int (iN wd)), (2, .int (iN ia)), (1, .int (iN (g9 : Int))), (0, .ref l)] ⟨rfl, rfl, rfl, rfl, rfl, rfl, rfl, rfl, rfl, trivial⟩ (dr_x hg9 hs9 hws hwd hia ih ⟨by omega, by omega⟩ hdx hdy hfr W e hi hx (by omega))
set_option maxRecDepth 20000 in
theorem dr_dx (hg9 : g9 < 3) (hs9 : 3 ≤ s9 ∧ s9 ≤ 10) (hws : 0 ≤ ws ∧ ws ≤ 16) (hwd : 2 ≤ wd ∧ wd ≤ 32) (hia : ia = 0 ∨ ia = 1) {n9 : Nat} (ih : ∀ (x : Int) (L : PL) (GX GY : Nat → Int) (k : Nat) (h : g_hp), lwW G x pt (s9 : Int) cr HP XS YS GX GY FX FY P E (uS S g9 L) b P2 E2 S2 F l h → L.length + n9 = s9 → inG L → gxy L GX GY → k + n9 ≤ 20 → Ev (g_B G mL_isDrawn 20 (6 * 20) (zQ (fun v h1 => v = .int (iN 1) ∧ ∃ (x : Int) (GX GY : Nat → Int) (L : PL), polP L ∧ gxy L GX GY ∧ lwW G x pt (L.length : Int) cr HP XS YS GX GY FX FY P E (uS S g9 L) b P2 E2 S2 F l h1))) k (6 * k) none h 48 [(5, .int (iN (L.length : Int))), (4, .int (iN ws)), (3, .int (iN wd)), (2, .int (iN ia)), (1, .int (iN (g9 : Int))), (0, .ref l)] []) {x : Int} {L : PL} {GX GY : Nat → Int} {k : Nat} {h : g_hp} {dx fr wy : Int} (hdx : -2 ≤ dx ∧ dx ≤ 2) (hfr : 1 ≤ fr ∧ fr ≤ 32) (hwy : 0 ≤ wy ∧ wy ≤ 160) (W : lwW G x pt (s9 : Int) cr HP XS YS GX GY FX FY P E (uS S g9 L) b P2 E2 S2 F l h) (e : L.length + (n9 + 1) = s9) (hi : inG L) (hx : gxy L GX GY) (hk : k + (n9 + 1) ≤ 20) : Ev (g_B G mL_isDrawn 20 (6 * 20) (zQ (fun v h1 => v = .int (iN 1) ∧ ∃ (x : Int) (GX GY : Nat → Int) (L : PL), polP L ∧ gxy L GX GY ∧ lwW G x pt (L.length : Int) cr HP XS YS GX GY FX FY P E (uS S g9 L) b P2 E2 S2 F l h1))) k (6 * k) none h 149 [(7, .int (iN fr)), (6, .int (iN wy)), (5, .int (iN (L.length : Int))), (4, .int (iN ws)), (3, .int (iN wd)), (2, .int (iN ia)), (1, .int (iN (g9 : Int))), (0, .ref l)] [.int (iN dx)] := by
  refine e_istore dL_isDrawn_149 rfl ?_
  refine e_iload dL_isDrawn_151 rfl ?_
  refine e_if_eq (tgt := 163) ⟨by omega, by omega⟩ dL_isDrawn_153 rfl (fun c_153 => ?_) (fun c_153 => ?_)
  · refine e_iconst dL_isDrawn_163 ?_
    refine e_goto (tgt := 215) dL_isDrawn_164 rfl ?_
    exact e_loc [(8, .int (iN dx)), (7, .int (iN fr)), (5, .int (iN (L.length : Int))), (4, .int (iN ws)), (3, .int (iN wd)), (2, .int (iN ia)), (1, .int (iN (g9 : Int))), (0, .ref l)] ⟨rfl, rfl, rfl, rfl, rfl, rfl, rfl, rfl, trivial⟩ (dr_dy hg9 hs9 hws hwd hia ih hdx ⟨by decide, by decide⟩ hfr W e hi hx (by omega))
  · refine e_iload dL_isDrawn_156 rfl ?_
    refine e_bipush dL_isDrawn_158 (by decide) ?_
    refine e_icmp_ne (tgt := 167) ⟨by omega, by omega⟩ ⟨by omega, by omega⟩ dL_isDrawn_160 rfl (fun c_160 => ?_) (fun c_160 => ?_)
    · refine e_iload dL_isDrawn_167 rfl ?_
      refine e_iconst dL_isDrawn_169 ?_
      refine e_icmp_lt (tgt := 180) ⟨by omega, by omega⟩ ⟨by omega, by omega⟩ dL_isDrawn_170 rfl (fun c_170 => ?_) (fun c_170 => ?_)
      · refine e_iconst dL_isDrawn_180 ?_
        refine e_goto (tgt := 215) dL_isDrawn_181 rfl ?_
        exact e_loc [(8, .int (iN dx)), (7, .int (iN fr)), (5, .int (iN (L.length : Int))), (4, .int (iN ws)), (3, .int (iN wd)), (2, .int (iN ia)), (1, .int (iN (g9 : Int))), (0, .ref l)] ⟨rfl, rfl, rfl, rfl, rfl, rfl, rfl, rfl, trivial⟩ (dr_dy hg9 hs9 hws hwd hia ih hdx ⟨by decide, by decide⟩ hfr W e hi hx (by omega))
      · refine e_iload dL_isDrawn_173 rfl ?_
        refine e_bipush dL_isDrawn_175 (by decide) ?_
        refine e_icmp_ne (tgt := 184) ⟨by omega, by omega⟩ ⟨by omega, by omega⟩ dL_isDrawn_177 rfl (fun c_177 => ?_) (fun c_177 => ?_)
        · refine e_iload dL_isDrawn_184 rfl ?_
          refine e_bipush dL_isDrawn_186 (by decide) ?_
          refine e_icmp_ge (tgt := 195) ⟨by omega, by omega⟩ ⟨by omega, by omega⟩ dL_isDrawn_188 rfl (fun c_188 => ?_) (fun c_188 => ?_)
          · refine e_iload dL_isDrawn_195 rfl ?_
            refine e_bipush dL_isDrawn_197 (by decide) ?_
            refine e_icmp_eq (tgt := 209) ⟨by omega, by omega⟩ ⟨by omega, by omega⟩ dL_isDrawn_199 rfl (fun c_199 => ?_) (fun c_199 => ?_)
            · refine e_iconst dL_isDrawn_209 ?_
              refine e_goto (tgt := 215) dL_isDrawn_210 rfl ?_
              exact e_loc [(8, .int (iN dx)), (7, .int (iN fr)), (5, .int (iN (L.length : Int))), (4, .int (iN ws)), (3, .int (iN wd)), (2, .int (iN ia)), (1, .int (iN (g9 : Int))), (0, .ref l)] ⟨rfl, rfl, rfl, rfl, rfl, rfl, rfl, rfl, trivial⟩ (dr_dy hg9 hs9 hws hwd hia ih hdx ⟨by decide, by decide⟩ hfr W e hi hx (by omega))
            · refine e_iload dL_isDrawn_202 rfl ?_
              refine e_bipush dL_isDrawn_204 (by decide) ?_
              refine e_icmp_ne (tgt := 213) ⟨by omega, by omega⟩ ⟨by omega, by omega⟩ dL_isDrawn_206 rfl (fun c_206 => ?_) (fun c_206 => ?_)
              · refine e_bipush dL_isDrawn_213 (by decide) ?_
                exact e_loc [(8, .int (iN dx)), (7, .int (iN fr)), (5, .int (iN (L.length : Int))), (4, .int (iN ws)), (3, .int (iN wd)), (2, .int (iN ia)), (1, .int (iN (g9 : Int))), (0, .ref l)] ⟨rfl, rfl, rfl, rfl, rfl, rfl, rfl, rfl, trivial⟩ (dr_dy hg9 hs9 hws hwd hia ih hdx ⟨by decide, by decide⟩ hfr W e hi hx (by omega))
              · refine e_iconst dL_isDrawn_209 ?_
                refine e_goto (tgt := 215) dL_isDrawn_210 rfl ?_
                exact e_loc [(8, .int (iN dx)), (7, .int (iN fr)), (5, .int (iN (L.length : Int))), (4, .int (iN ws)), (3, .int (iN wd)), (2, .int (iN ia)), (1, .int (iN (g9 : Int))), (0, .ref l)] ⟨rfl, rfl, rfl, rfl, rfl, rfl, rfl, rfl, trivial⟩ (dr_dy hg9 hs9 hws hwd hia ih hdx ⟨by decide, by decide⟩ hfr W e hi hx (by omega))
          · refine e_iconst dL_isDrawn_191 ?_
            refine e_goto (tgt := 215) dL_isDrawn_192 rfl ?_
            exact e_loc [(8, .int (iN dx)), (7, .int (iN fr)), (5, .int (iN (L.length : Int))), (4, .int (iN ws)), (3, .int (iN wd)), (2, .int (iN ia)), (1, .int (iN (g9 : Int))), (0, .ref l)] ⟨rfl, rfl, rfl, rfl, rfl, rfl, rfl, rfl, trivial⟩ (dr_dy hg9 hs9 hws hwd hia ih hdx ⟨by decide, by decide⟩ hfr W e hi hx (by omega))
        · refine e_iconst dL_isDrawn_180 ?_
          refine e_goto (tgt := 215) dL_isDrawn_181 rfl ?_
          exact e_loc [(8, .int (iN dx)), (7, .int (iN fr)), (5, .int (iN (L.length : Int))), (4, .int (iN ws)), (3, .int (iN wd)), (2, .int (iN ia)), (1, .int (iN (g9 : Int))), (0, .ref l)] ⟨rfl, rfl, rfl, rfl, rfl, rfl, rfl, rfl, trivial⟩ (dr_dy hg9 hs9 hws hwd hia ih hdx ⟨by decide, by decide⟩ hfr W e hi hx (by omega))
    · refine e_iconst dL_isDrawn_163 ?_
      refine e_goto (tgt := 215) dL_isDrawn_164 rfl ?_
      exact e_loc [(8, .int (iN dx)), (7, .int (iN fr)), (5, .int (iN (L.length : Int))), (4, .int (iN ws)), (3, .int (iN wd)), (2, .int (iN ia)), (1, .int (iN (g9 : Int))), (0, .ref l)] ⟨rfl, rfl, rfl, rfl, rfl, rfl, rfl, rfl, trivial⟩ (dr_dy hg9 hs9 hws hwd hia ih hdx ⟨by decide, by decide⟩ hfr W e hi hx (by omega))
set_option maxRecDepth 20000 in
theorem dr_loop (hg9 : g9 < 3) (hs9 : 3 ≤ s9 ∧ s9 ≤ 10) (hws : 0 ≤ ws ∧ ws ≤ 16) (hwd : 2 ≤ wd ∧ wd ≤ 32) (hia : ia = 0 ∨ ia = 1) : ∀ (n9 : Nat) (x : Int) (L : PL) (GX GY : Nat → Int) (k : Nat) (h : g_hp), lwW G x pt (s9 : Int) cr HP XS YS GX GY FX FY P E (uS S g9 L) b P2 E2 S2 F l h → L.length + n9 = s9 → inG L → gxy L GX GY → k + n9 ≤ 20 → Ev (g_B G mL_isDrawn 20 (6 * 20) (zQ (fun v h1 => v = .int (iN 1) ∧ ∃ (x : Int) (GX GY : Nat → Int) (L : PL), polP L ∧ gxy L GX GY ∧ lwW G x pt (L.length : Int) cr HP XS YS GX GY FX FY P E (uS S g9 L) b P2 E2 S2 F l h1))) k (6 * k) none h 48 [(5, .int (iN (L.length : Int))), (4, .int (iN ws)), (3, .int (iN wd)), (2, .int (iN ia)), (1, .int (iN (g9 : Int))), (0, .ref l)] []
  | 0, x, L, GX, GY, k, h, W, e, hi, hx, hk => by
    have e9 : s9 = L.length := by omega
    subst e9
    refine e_iload dL_isDrawn_48 rfl ?_
    refine e_aload_n dL_isDrawn_50 rfl ?_
    refine e_getf fL_174 W.obj rfl dL_isDrawn_51 ?_
    refine e_icmp_ge (tgt := 314) ⟨by omega, by omega⟩ ⟨by omega, by omega⟩ dL_isDrawn_54 rfl (fun c_9 => ?_) (fun c_9 => absurd (by omega) c_9)
    refine e_iload dL_isDrawn_314 rfl ?_
    refine e_if_lt (tgt := 323) ⟨by omega, by omega⟩ dL_isDrawn_316 rfl (fun c => absurd c (by omega)) (fun _ => ?_)
    refine e_iconst dL_isDrawn_319 ?_
    refine e_goto (tgt := 324) dL_isDrawn_320 rfl ?_
    refine e_zret rfl (Or.inr rfl) dL_isDrawn_324 (by omega) (by omega) ?_
    exact ⟨rfl, _, rfl, rfl, _, GX, GY, L, ⟨hs9, hi⟩, hx, W⟩
  | n9 + 1, x, L, GX, GY, k, h, W, e, hi, hx, hk => by
    have ih := dr_loop hg9 hs9 hws hwd hia n9
    have ew : (16 * (L.length : Int)).tdiv (s9 : Int) = ((16 * L.length / s9 : Nat) : Int) := rfl
    have dw : 16 * L.length / s9 ≤ 16 * L.length := Nat.div_le_self _ _
    refine e_iload dL_isDrawn_48 rfl ?_
    refine e_aload_n dL_isDrawn_50 rfl ?_
    refine e_getf fL_174 W.obj rfl dL_isDrawn_51 ?_
    refine e_icmp_ge (tgt := 314) ⟨by omega, by omega⟩ ⟨by omega, by omega⟩ dL_isDrawn_54 rfl (fun c_9 => absurd c_9 (by omega)) (fun c_9 => ?_)
    refine e_bipush dL_isDrawn_57 (by decide) ?_
    refine e_iload dL_isDrawn_59 rfl ?_
    refine e_imul dL_isDrawn_61 ?_
    refine e_aload_n dL_isDrawn_62 rfl ?_
    refine e_getf fL_174 W.obj rfl dL_isDrawn_63 ?_
    refine e_idiv ⟨by omega, by omega⟩ ⟨by omega, by omega⟩ (by omega) dL_isDrawn_66 ?_
    rw [ew]
    generalize 16 * L.length / s9 = wy9 at dw ⊢
    refine e_istore dL_isDrawn_67 rfl ?_
    refine e_iconst dL_isDrawn_69 ?_
    refine e_aload_n dL_isDrawn_70 rfl ?_
    refine e_iload_n dL_isDrawn_71 rfl ?_
    refine e_ow W qcL_54 rfl (L_next W (by omega) (by omega)) rfl rfl rfl rfl (by omega) dL_isDrawn_72 (fun h v9 q9 => ?_)
    obtain ⟨r, x2, rfl, r0, r1, W⟩ := q9
    refine e_iadd dL_isDrawn_75 ?_
    refine e_istore dL_isDrawn_76 rfl ?_
    refine e_iload dL_isDrawn_78 rfl ?_
    refine e_iconst dL_isDrawn_80 ?_
    refine e_icmp_lt (tgt := 91) ⟨by omega, by omega⟩ ⟨by omega, by omega⟩ dL_isDrawn_81 rfl (fun c_81 => ?_) (fun c_81 => ?_)
    · refine e_iconst dL_isDrawn_91 ?_
      refine e_goto (tgt := 149) dL_isDrawn_92 rfl ?_
      exact e_loc [(7, .int (iN (1 + r))), (6, .int (iN (wy9 : Int))), (5, .int (iN (L.length : Int))), (4, .int (iN ws)), (3, .int (iN wd)), (2, .int (iN ia)), (1, .int (iN (g9 : Int))), (0, .ref l)] ⟨rfl, rfl, rfl, rfl, rfl, rfl, rfl, rfl, trivial⟩ (dr_dx hg9 hs9 hws hwd hia ih ⟨by decide, by decide⟩ ⟨by omega, by omega⟩ ⟨by omega, by omega⟩ W (by omega) hi hx (by omega))
    · refine e_iload dL_isDrawn_84 rfl ?_
      refine e_bipush dL_isDrawn_86 (by decide) ?_
      refine e_icmp_le (tgt := 95) ⟨by omega, by omega⟩ ⟨by omega, by omega⟩ dL_isDrawn_88 rfl (fun c_88 => ?_) (fun c_88 => ?_)
      · refine e_iload dL_isDrawn_95 rfl ?_
        refine e_iconst dL_isDrawn_97 ?_
        refine e_icmp_lt (tgt := 108) ⟨by omega, by omega⟩ ⟨by omega, by omega⟩ dL_isDrawn_98 rfl (fun c_98 => ?_) (fun c_98 => ?_)
        · refine e_iconst dL_isDrawn_108 ?_
          refine e_goto (tgt := 149) dL_isDrawn_109 rfl ?_
          exact e_loc [(7, .int (iN (1 + r))), (6, .int (iN (wy9 : Int))), (5, .int (iN (L.length : Int))), (4, .int (iN ws)), (3, .int (iN wd)), (2, .int (iN ia)), (1, .int (iN (g9 : Int))), (0, .ref l)] ⟨rfl, rfl, rfl, rfl, rfl, rfl, rfl, rfl, trivial⟩ (dr_dx hg9 hs9 hws hwd hia ih ⟨by decide, by decide⟩ ⟨by omega, by omega⟩ ⟨by omega, by omega⟩ W (by omega) hi hx (by omega))
        · refine e_iload dL_isDrawn_101 rfl ?_
          refine e_bipush dL_isDrawn_103 (by decide) ?_
          refine e_icmp_le (tgt := 112) ⟨by omega, by omega⟩ ⟨by omega, by omega⟩ dL_isDrawn_105 rfl (fun c_105 => ?_) (fun c_105 => ?_)
          · refine e_iload dL_isDrawn_112 rfl ?_
            refine e_iconst dL_isDrawn_114 ?_
            refine e_icmp_eq (tgt := 125) ⟨by omega, by omega⟩ ⟨by omega, by omega⟩ dL_isDrawn_115 rfl (fun c_115 => ?_) (fun c_115 => ?_)
            · refine e_iconst dL_isDrawn_125 ?_
              refine e_goto (tgt := 149) dL_isDrawn_126 rfl ?_
              exact e_loc [(7, .int (iN (1 + r))), (6, .int (iN (wy9 : Int))), (5, .int (iN (L.length : Int))), (4, .int (iN ws)), (3, .int (iN wd)), (2, .int (iN ia)), (1, .int (iN (g9 : Int))), (0, .ref l)] ⟨rfl, rfl, rfl, rfl, rfl, rfl, rfl, rfl, trivial⟩ (dr_dx hg9 hs9 hws hwd hia ih ⟨by decide, by decide⟩ ⟨by omega, by omega⟩ ⟨by omega, by omega⟩ W (by omega) hi hx (by omega))
            · refine e_iload dL_isDrawn_118 rfl ?_
              refine e_bipush dL_isDrawn_120 (by decide) ?_
              refine e_icmp_ne (tgt := 129) ⟨by omega, by omega⟩ ⟨by omega, by omega⟩ dL_isDrawn_122 rfl (fun c_122 => ?_) (fun c_122 => ?_)
              · refine e_iload dL_isDrawn_129 rfl ?_
                refine e_bipush dL_isDrawn_131 (by decide) ?_
                refine e_icmp_lt (tgt := 143) ⟨by omega, by omega⟩ ⟨by omega, by omega⟩ dL_isDrawn_133 rfl (fun c_133 => ?_) (fun c_133 => ?_)
                · refine e_iconst dL_isDrawn_143 ?_
                  refine e_goto (tgt := 149) dL_isDrawn_144 rfl ?_
                  exact e_loc [(7, .int (iN (1 + r))), (6, .int (iN (wy9 : Int))), (5, .int (iN (L.length : Int))), (4, .int (iN ws)), (3, .int (iN wd)), (2, .int (iN ia)), (1, .int (iN (g9 : Int))), (0, .ref l)] ⟨rfl, rfl, rfl, rfl, rfl, rfl, rfl, rfl, trivial⟩ (dr_dx hg9 hs9 hws hwd hia ih ⟨by decide, by decide⟩ ⟨by omega, by omega⟩ ⟨by omega, by omega⟩ W (by omega) hi hx (by omega))
                · refine e_iload dL_isDrawn_136 rfl ?_
                  refine e_bipush dL_isDrawn_138 (by decide) ?_
                  refine e_icmp_le (tgt := 147) ⟨by omega, by omega⟩ ⟨by omega, by omega⟩ dL_isDrawn_140 rfl (fun c_140 => ?_) (fun c_140 => ?_)
                  · refine e_bipush dL_isDrawn_147 (by decide) ?_
                    exact e_loc [(7, .int (iN (1 + r))), (6, .int (iN (wy9 : Int))), (5, .int (iN (L.length : Int))), (4, .int (iN ws)), (3, .int (iN wd)), (2, .int (iN ia)), (1, .int (iN (g9 : Int))), (0, .ref l)] ⟨rfl, rfl, rfl, rfl, rfl, rfl, rfl, rfl, trivial⟩ (dr_dx hg9 hs9 hws hwd hia ih ⟨by decide, by decide⟩ ⟨by omega, by omega⟩ ⟨by omega, by omega⟩ W (by omega) hi hx (by omega))
                  · refine e_iconst dL_isDrawn_143 ?_
                    refine e_goto (tgt := 149) dL_isDrawn_144 rfl ?_
                    exact e_loc [(7, .int (iN (1 + r))), (6, .int (iN (wy9 : Int))), (5, .int (iN (L.length : Int))), (4, .int (iN ws)), (3, .int (iN wd)), (2, .int (iN ia)), (1, .int (iN (g9 : Int))), (0, .ref l)] ⟨rfl, rfl, rfl, rfl, rfl, rfl, rfl, rfl, trivial⟩ (dr_dx hg9 hs9 hws hwd hia ih ⟨by decide, by decide⟩ ⟨by omega, by omega⟩ ⟨by omega, by omega⟩ W (by omega) hi hx (by omega))
              · refine e_iconst dL_isDrawn_125 ?_
                refine e_goto (tgt := 149) dL_isDrawn_126 rfl ?_
                exact e_loc [(7, .int (iN (1 + r))), (6, .int (iN (wy9 : Int))), (5, .int (iN (L.length : Int))), (4, .int (iN ws)), (3, .int (iN wd)), (2, .int (iN ia)), (1, .int (iN (g9 : Int))), (0, .ref l)] ⟨rfl, rfl, rfl, rfl, rfl, rfl, rfl, rfl, trivial⟩ (dr_dx hg9 hs9 hws hwd hia ih ⟨by decide, by decide⟩ ⟨by omega, by omega⟩ ⟨by omega, by omega⟩ W (by omega) hi hx (by omega))
          · refine e_iconst dL_isDrawn_108 ?_
            refine e_goto (tgt := 149) dL_isDrawn_109 rfl ?_
            exact e_loc [(7, .int (iN (1 + r))), (6, .int (iN (wy9 : Int))), (5, .int (iN (L.length : Int))), (4, .int (iN ws)), (3, .int (iN wd)), (2, .int (iN ia)), (1, .int (iN (g9 : Int))), (0, .ref l)] ⟨rfl, rfl, rfl, rfl, rfl, rfl, rfl, rfl, trivial⟩ (dr_dx hg9 hs9 hws hwd hia ih ⟨by decide, by decide⟩ ⟨by omega, by omega⟩ ⟨by omega, by omega⟩ W (by omega) hi hx (by omega))
      · refine e_iconst dL_isDrawn_91 ?_
        refine e_goto (tgt := 149) dL_isDrawn_92 rfl ?_
        exact e_loc [(7, .int (iN (1 + r))), (6, .int (iN (wy9 : Int))), (5, .int (iN (L.length : Int))), (4, .int (iN ws)), (3, .int (iN wd)), (2, .int (iN ia)), (1, .int (iN (g9 : Int))), (0, .ref l)] ⟨rfl, rfl, rfl, rfl, rfl, rfl, rfl, rfl, trivial⟩ (dr_dx hg9 hs9 hws hwd hia ih ⟨by decide, by decide⟩ ⟨by omega, by omega⟩ ⟨by omega, by omega⟩ W (by omega) hi hx (by omega))
set_option maxRecDepth 20000 in
theorem L_isDrawn (W : lwW G x pt sd cr HP XS YS GX GY FX FY P E S b P2 E2 S2 F l h) (hg9 : g9 < 3) (hS : (S g9).length ≤ 16) : Run G mL_isDrawn [.ref l, .int (iN (g9 : Int))] none h 20 (6 * 20) (zQ (fun v h1 => v = .int (iN 1) ∧ ∃ (x : Int) (GX GY : Nat → Int) (L : PL), polP L ∧ gxy L GX GY ∧ lwW G x pt (L.length : Int) cr HP XS YS GX GY FX FY P E (uS S g9 L) b P2 E2 S2 F l h1)) := by
  refine run_L rfl plL rfl ?_
  refine e_aload_n dL_isDrawn_0 rfl ?_
  refine e_iconst dL_isDrawn_1 ?_
  refine e_aload_n dL_isDrawn_2 rfl ?_
  refine e_bipush dL_isDrawn_3 (by decide) ?_
  refine e_ow W qcL_54 rfl (L_next W (by omega) (by omega)) rfl rfl rfl rfl (by omega) dL_isDrawn_5 (fun h v9 q9 => ?_)
  obtain ⟨r, x2, rfl, r0, r1, W⟩ := q9
  refine e_iadd dL_isDrawn_8 ?_
  obtain ⟨s9, hs9⟩ : ∃ s9 : Nat, 3 + r = (s9 : Int) := ⟨(3 + r).toNat, by omega⟩
  rw [hs9]
  have hs0 : 3 ≤ s9 ∧ s9 ≤ 10 := by omega
  refine e_putf pfL_174 W.obj rfl rfl rfl dL_isDrawn_9 ?_
  refine (show Ev _ _ _ _ (g_up h l (.inr (5, [.int (iN x2), .ref (l + 1), .ref (l + 97), .ref (l + 98), .ref (l + 99), .ref (l + 100), .ref (l + 101), .ref (l + 102), .ref (l + 103), .int (iN pt), .int (iN (s9 : Int)), .int (iN cr)]))) _ _ _ from ?_)
  replace W := W.w_sd (s9 : Int)
  generalize g_up h l _ = h at W ⊢
  refine e_aload_n dL_isDrawn_12 rfl ?_
  refine e_iconst dL_isDrawn_13 ?_
  refine e_ow W qcL_54 rfl (L_next W (by omega) (by omega)) rfl rfl rfl rfl (by omega) dL_isDrawn_14 (fun h v9 q9 => ?_)
  obtain ⟨r3, x3, rfl, q0, q1, W⟩ := q9
  refine e_if_ne (tgt := 24) ⟨by omega, by omega⟩ dL_isDrawn_17 rfl (fun c_17 => ?_) (fun c_17 => ?_)
  · refine e_iconst dL_isDrawn_24 ?_
    refine e_istore_n dL_isDrawn_25 rfl ?_
    refine e_iconst dL_isDrawn_26 ?_
    refine e_aload_n dL_isDrawn_27 rfl ?_
    refine e_ow W qcL_60 rfl (L_spread W) rfl rfl rfl rfl (by omega) dL_isDrawn_28 (fun h v9 q9 => ?_)
    obtain ⟨w9, x4, rfl, w0, W⟩ := q9
    refine e_iconst dL_isDrawn_31 ?_
    refine e_idiv ⟨by omega, by omega⟩ ⟨by omega, by omega⟩ (by omega) dL_isDrawn_32 ?_
    have hw9 : 2 ≤ 2 + w9.tdiv 2 ∧ 2 + w9.tdiv 2 ≤ 32 := by
      rcases w0 with rfl | rfl | rfl | rfl <;> decide
    refine e_iadd dL_isDrawn_33 ?_
    refine e_istore_n dL_isDrawn_34 rfl ?_
    refine e_aload_n dL_isDrawn_35 rfl ?_
    refine e_getf fL_10 W.obj rfl dL_isDrawn_36 ?_
    refine e_iload_n dL_isDrawn_39 rfl ?_
    refine e_hs W qcL_177 rfl (fun _ _ _ _ _ _ _ _ _ X => D_clear X (j := (g9 : Int)) ⟨by omega, by omega⟩) rfl rfl rfl rfl (by omega) dL_isDrawn_40 (fun h W => ?_)
    refine e_istore dL_isDrawn_43 rfl ?_
    refine e_iconst dL_isDrawn_45 ?_
    refine e_istore dL_isDrawn_46 rfl ?_
    refine e_loc [(5, .int (iN (([] : PL).length : Int))), (4, .int (iN ((S ((g9 : Int)).toNat).length : Int))), (3, .int (iN (2 + w9.tdiv 2))), (2, .int (iN 0)), (1, .int (iN (g9 : Int))), (0, .ref l)] ⟨rfl, rfl, rfl, rfl, rfl, rfl, trivial⟩ ?_
    exact dr_loop hg9 hs0 ⟨by omega, by show ((S g9).length : Int) ≤ 16; omega⟩ hw9 (Or.inl rfl) s9 x4 [] GX GY _ h W (Nat.zero_add _) (fun i hi => absurd hi (Nat.not_lt_zero _)) (fun i hi => absurd hi (Nat.not_lt_zero _)) (by omega)
  · refine e_iconst dL_isDrawn_20 ?_
    refine e_goto (tgt := 25) dL_isDrawn_21 rfl ?_
    refine e_istore_n dL_isDrawn_25 rfl ?_
    refine e_iconst dL_isDrawn_26 ?_
    refine e_aload_n dL_isDrawn_27 rfl ?_
    refine e_ow W qcL_60 rfl (L_spread W) rfl rfl rfl rfl (by omega) dL_isDrawn_28 (fun h v9 q9 => ?_)
    obtain ⟨w9, x4, rfl, w0, W⟩ := q9
    refine e_iconst dL_isDrawn_31 ?_
    refine e_idiv ⟨by omega, by omega⟩ ⟨by omega, by omega⟩ (by omega) dL_isDrawn_32 ?_
    have hw9 : 2 ≤ 2 + w9.tdiv 2 ∧ 2 + w9.tdiv 2 ≤ 32 := by
      rcases w0 with rfl | rfl | rfl | rfl <;> decide
    refine e_iadd dL_isDrawn_33 ?_
    refine e_istore_n dL_isDrawn_34 rfl ?_
    refine e_aload_n dL_isDrawn_35 rfl ?_
    refine e_getf fL_10 W.obj rfl dL_isDrawn_36 ?_
    refine e_iload_n dL_isDrawn_39 rfl ?_
    refine e_hs W qcL_177 rfl (fun _ _ _ _ _ _ _ _ _ X => D_clear X (j := (g9 : Int)) ⟨by omega, by omega⟩) rfl rfl rfl rfl (by omega) dL_isDrawn_40 (fun h W => ?_)
    refine e_istore dL_isDrawn_43 rfl ?_
    refine e_iconst dL_isDrawn_45 ?_
    refine e_istore dL_isDrawn_46 rfl ?_
    refine e_loc [(5, .int (iN (([] : PL).length : Int))), (4, .int (iN ((S ((g9 : Int)).toNat).length : Int))), (3, .int (iN (2 + w9.tdiv 2))), (2, .int (iN 1)), (1, .int (iN (g9 : Int))), (0, .ref l)] ⟨rfl, rfl, rfl, rfl, rfl, rfl, trivial⟩ ?_
    exact dr_loop hg9 hs0 ⟨by omega, by show ((S g9).length : Int) ≤ 16; omega⟩ hw9 (Or.inr rfl) s9 x4 [] GX GY _ h W (Nat.zero_add _) (fun i hi => absurd hi (Nat.not_lt_zero _)) (fun i hi => absurd hi (Nat.not_lt_zero _)) (by omega)
end LAW11
