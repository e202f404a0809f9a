/-! The law: whether a polygon touches itself, by lines -/
def leN (L : PL) : Nat → PL
  | 0 => []
  | n + 1 => (leN L n ++ [(pX L n, pY L n, 0)]) ++ [(pX L (nxt L.length n), pY L (nxt L.length n), 0)]
theorem leN_len (L : PL) : ∀ n, (leN L n).length = 2 * n
  | 0 => rfl
  | n + 1 => by
    show ((leN L n ++ _) ++ _).length = _
    rw [List.length_append, List.length_append, leN_len L n, List.length_singleton, List.length_singleton]
    omega
abbrev leA (L : PL) : PL := leN L L.length
def tcA (L : PL) (k i : Nat) : Prop := pX L k = pX L i ∧ pY L k = pY L i
def besP (n k i : Nat) : Prop := i = k + 1 ∨ (k = 0 ∧ i + 1 = n)
def dotP (L : PL) (a : Nat) : Int := (pX L a - pX L (nxt L.length a)) * (pX L (nxt L.length (nxt L.length a)) - pX L (nxt L.length a)) + (pY L a - pY L (nxt L.length a)) * (pY L (nxt L.length (nxt L.length a)) - pY L (nxt L.length a))
def fdP (L : PL) (a : Nat) : Prop := tw3 L a (nxt L.length a) L (nxt L.length (nxt L.length a)) = 0 ∧ 0 < dotP L a
def tcP (L : PL) (k i : Nat) : Prop := tcA L k i ∨ (¬ besP L.length k i ∧ lmE (leA L) k i) ∨ (besP L.length k i ∧ fdP L (if i = k + 1 then k else i))
def touP (L : PL) : Prop := ∃ k i, k < i ∧ i < L.length ∧ tcP L k i
/-- no pair up to here touches -/
def noT (L : PL) (k i : Nat) : Prop := ∀ k' i', (k' < k ∨ (k' = k ∧ i' < i)) → k' < i' → i' < L.length → ¬ tcP L k' i'
theorem noT_st {L : PL} {k i : Nat} (h : noT L k i) (t : ¬ tcP L k i) : noT L k (i + 1) := fun k' i' a b c => by
  by_cases e : k' = k ∧ i' = i
  · obtain ⟨rfl, rfl⟩ := e
    exact t
  · exact h k' i' (by omega) b c
theorem noT_nx {L : PL} {k i : Nat} (h : noT L k i) (hi : L.length ≤ i) : noT L (k + 1) (k + 1 + 1) := fun k' i' a b c => h k' i' (by omega) b c
theorem noT_end {L : PL} {k i : Nat} (h : noT L k i) (hk : L.length ≤ k) : ¬ touP L := fun ⟨k', i', a, b, t⟩ => h k' i' (by omega) a b t
theorem inG.b {L : PL} (h : inG L) {i : Nat} (hi : i < L.length) : b1k (pX L i) ∧ b1k (pY L i) := by
  have := h i hi
  exact ⟨⟨by omega, by omega⟩, ⟨by omega, by omega⟩⟩
theorem sg_r (z : Int) : -1 ≤ sg z ∧ sg z ≤ 1 := by
  unfold sg
  split
  · omega
  · split <;> omega
theorem sg_z {z : Int} : sg z = 0 ↔ z = 0 := by
  unfold sg
  split
  · omega
  · split <;> omega
section LAW12
variable {G : g_X} {x pt sd cr : Int} {HP XS YS GX GY FX FY : Nat → Int} {P E : PL} {S : Nat → PL} {b : Int} {P2 E2 : PL} {S2 : Nat → PL} {F : PL} {l : Nat} {h : g_hp} {L : PL}
set_option maxRecDepth 20000 in
theorem it_lines (hL : polP L) (hx : gxy L GX GY) {z1 : Int} (kk : ∀ (k : Nat) (h : g_hp), lwW G x pt (L.length : Int) cr HP XS YS GX GY FX FY P (leA L) S b P2 E2 S2 F l h → k ≤ 12 → Ev (g_B G mL_isTouched 140 (6 * 140) (zQ (fun v h1 => v = .int (iN (bC (touP L))) ∧ lwW G x pt (L.length : Int) cr HP XS YS GX GY FX FY P (leA L) S b P2 E2 S2 F l h1))) k (6 * k) none h 83 [(0, .ref l)] []) : ∀ (n k9 k : Nat) (h : g_hp), lwW G x pt (L.length : Int) cr HP XS YS GX GY FX FY P (leN L k9) S b P2 E2 S2 F l h → k9 + n = L.length → k ≤ 1 + k9 → Ev (g_B G mL_isTouched 140 (6 * 140) (zQ (fun v h1 => v = .int (iN (bC (touP L))) ∧ lwW G x pt (L.length : Int) cr HP XS YS GX GY FX FY P (leA L) S b P2 E2 S2 F l h1))) k (6 * k) none h 10 [(2, .int (iN (k9 : Int))), (1, .int (iN z1)), (0, .ref l)] []
  | 0, k9, k, h, W, e, hk => by
    have hl := hL.1
    have e9 : k9 = L.length := by omega
    subst e9
    refine e_iload_n dL_isTouched_10 rfl ?_
    refine e_aload_n dL_isTouched_11 rfl ?_
    refine e_getf fL_174 W.obj rfl dL_isTouched_12 ?_
    refine e_icmp_ge (tgt := 83) ⟨by omega, by omega⟩ ⟨by omega, by omega⟩ dL_isTouched_15 rfl (fun c_9 => ?_) (fun c_9 => absurd (by omega) c_9)
    exact e_loc [(0, .ref l)] ⟨rfl, trivial⟩ (kk k h W (by omega))
  | n + 1, k9, k, h, W, e, hk => by
    have ih := it_lines hL hx (z1 := z1) kk n (k9 + 1)
    have hl := hL.1
    have hk9 : k9 < L.length := by omega
    have hn := nxt_lt hk9
    have ek := hx k9 hk9
    have ea := hx _ hn
    have gk := hL.2 k9 hk9
    have ga := hL.2 _ hn
    have et := tm_nxt hk9
    have ll := leN_len L k9
    have eh : (leN L k9).length / 2 = k9 := by omega
    refine e_iload_n dL_isTouched_10 rfl ?_
    refine e_aload_n dL_isTouched_11 rfl ?_
    refine e_getf fL_174 W.obj rfl dL_isTouched_12 ?_
    refine e_icmp_ge (tgt := 83) ⟨by omega, by omega⟩ ⟨by omega, by omega⟩ dL_isTouched_15 rfl (fun c_9 => absurd c_9 (by omega)) (fun c_9 => ?_)
    refine e_aload_n dL_isTouched_18 rfl ?_
    refine e_getf fL_10 W.obj rfl dL_isTouched_19 ?_
    refine e_aload_n dL_isTouched_22 rfl ?_
    refine e_getf fL_26 W.obj rfl dL_isTouched_23 ?_
    refine e_iload_n dL_isTouched_26 rfl ?_
    refine e_iaE W.gx (by omega) rfl ek.1 dL_isTouched_27 ?_
    refine e_aload_n dL_isTouched_28 rfl ?_
    refine e_getf fL_29 W.obj rfl dL_isTouched_29 ?_
    refine e_iload_n dL_isTouched_32 rfl ?_
    refine e_iaE W.gy (by omega) rfl ek.2 dL_isTouched_33 ?_
    refine e_aload_n dL_isTouched_34 rfl ?_
    refine e_getf fL_26 W.obj rfl dL_isTouched_35 ?_
    refine e_iload_n dL_isTouched_38 rfl ?_
    refine e_iconst dL_isTouched_39 ?_
    refine e_iadd dL_isTouched_40 ?_
    refine e_aload_n dL_isTouched_41 rfl ?_
    refine e_getf fL_174 W.obj rfl dL_isTouched_42 ?_
    refine e_irem ⟨by omega, by omega⟩ ⟨by omega, by omega⟩ (by omega) dL_isTouched_45 ?_
    rw [et]
    refine e_iaE W.gx (by omega) rfl ea.1 dL_isTouched_46 ?_
    refine e_aload_n dL_isTouched_47 rfl ?_
    refine e_getf fL_29 W.obj rfl dL_isTouched_48 ?_
    refine e_iload_n dL_isTouched_51 rfl ?_
    refine e_iconst dL_isTouched_52 ?_
    refine e_iadd dL_isTouched_53 ?_
    refine e_aload_n dL_isTouched_54 rfl ?_
    refine e_getf fL_174 W.obj rfl dL_isTouched_55 ?_
    refine e_irem ⟨by omega, by omega⟩ ⟨by omega, by omega⟩ (by omega) dL_isTouched_58 ?_
    rw [et]
    refine e_iaE W.gy (by omega) rfl ea.2 dL_isTouched_59 ?_
    refine e_hs W qcL_216 rfl (fun _ _ _ _ _ _ _ _ _ X => D_line X ⟨⟨by omega, by omega, by omega, by omega⟩, ⟨by omega, by omega, by omega, by omega⟩, by omega⟩ (by omega)) rfl rfl rfl rfl (by omega) dL_isTouched_60 (fun h W => ?_)
    rw [eh]
    refine e_iload_n dL_isTouched_63 rfl ?_
    refine e_same_eq (tgt := 77) dL_isTouched_64 rfl ?_
    refine e_iinc dL_isTouched_77 rfl ?_
    refine e_goto (tgt := 10) dL_isTouched_80 rfl ?_
    exact e_loc [(2, .int (iN ((k9 + 1 : Nat) : Int))), (1, .int (iN z1)), (0, .ref l)] ⟨rfl, rfl, rfl, trivial⟩ (ih _ h W (by omega) (by omega))
set_option maxRecDepth 20000 in
theorem it_three (hL : polP L) (hx : gxy L GX GY) {k9 i9 : Nat} (hk9 : k9 < i9) (hi9 : i9 < L.length) (hno : noT L k9 i9) (ih : ∀ (k : Nat) (h : g_hp), lwW G x pt (L.length : Int) cr HP XS YS GX GY FX FY P (leA L) S b P2 E2 S2 F l h → noT L k9 (i9 + 1) → k ≤ 12 + 10 * k9 + (i9 + 1) → Ev (g_B G mL_isTouched 140 (6 * 140) (zQ (fun v h1 => v = .int (iN (bC (touP L))) ∧ lwW G x pt (L.length : Int) cr HP XS YS GX GY FX FY P (leA L) S b P2 E2 S2 F l h1))) k (6 * k) none h 97 [(3, .int (iN (((i9 + 1) : Nat) : Int))), (2, .int (iN (k9 : Int))), (0, .ref l)] []) {bs : Int} (hbs : (bs = 1 ∧ besP L.length k9 i9) ∨ (bs = 0 ∧ ¬ besP L.length k9 i9)) (hA : ¬ tcA L k9 i9) (hC : ¬ (¬ besP L.length k9 i9 ∧ lmE (leA L) k9 i9)) {a9 : Nat} (ha9 : a9 < L.length) (ea9 : (if i9 = k9 + 1 then k9 else i9) = a9) {k : Nat} {h : g_hp} (W : lwW G x pt (L.length : Int) cr HP XS YS GX GY FX FY P (leA L) S b P2 E2 S2 F l h) (hk : k ≤ 12 + 10 * k9 + (i9 + 1)) : Ev (g_B G mL_isTouched 140 (6 * 140) (zQ (fun v h1 => v = .int (iN (bC (touP L))) ∧ lwW G x pt (L.length : Int) cr HP XS YS GX GY FX FY P (leA L) S b P2 E2 S2 F l h1))) k (6 * k) none h 196 [(4, .int (iN bs)), (3, .int (iN ((i9 : Nat) : Int))), (2, .int (iN (k9 : Int))), (0, .ref l)] [.int (iN (a9 : Int))] := by
  have hl := hL.1
  have hk0 : k9 < L.length := by omega
  have ek := hx k9 hk0
  have ei := hx i9 hi9
  have gk := hL.2 k9 hk0
  have gi := hL.2 i9 hi9
  have hn := nxt_lt ha9
  have hn2 := nxt_lt hn
  have fa := hx a9 ha9
  have fb := hx _ hn
  have fc := hx _ hn2
  have ba := hL.2.b ha9
  have bb := hL.2.b hn
  have bc := hL.2.b hn2
  have et := tm_nxt ha9
  have et2 := tm_nxt2 ha9
  have sr := sg_r (tw3 L a9 (nxt L.length a9) L (nxt L.length (nxt L.length a9)))
  have dr : -8000000 ≤ dotP L a9 ∧ dotP L a9 ≤ 8000000 := by
    have m1 := mul_bd (a := pX L a9 - pX L (nxt L.length a9)) (b := pX L (nxt L.length (nxt L.length a9)) - pX L (nxt L.length a9)) (A := 2000) (B := 2000) (by omega) (by omega)
    have m2 := mul_bd (a := pY L a9 - pY L (nxt L.length a9)) (b := pY L (nxt L.length (nxt L.length a9)) - pY L (nxt L.length a9)) (A := 2000) (B := 2000) (by omega) (by omega)
    unfold dotP
    omega
  have go : ∀ (Lo : List (Nat × Value)), g_sub Lo [(3, .int (iN ((i9 : Nat) : Int))), (2, .int (iN (k9 : Int))), (0, .ref l)] → ¬ (besP L.length k9 i9 ∧ fdP L a9) → Ev (g_B G mL_isTouched 140 (6 * 140) (zQ (fun v h1 => v = .int (iN (bC (touP L))) ∧ lwW G x pt (L.length : Int) cr HP XS YS GX GY FX FY P (leA L) S b P2 E2 S2 F l h1))) k (6 * k) none h 353 Lo [] := fun Lo hs hF => by
    refine e_loc [(3, .int (iN ((i9 : Nat) : Int))), (2, .int (iN (k9 : Int))), (0, .ref l)] hs ?_
    refine e_iinc dL_isTouched_353 rfl ?_
    refine e_goto (tgt := 97) dL_isTouched_356 rfl ?_
    refine e_loc [(3, .int (iN (((i9 + 1) : Nat) : Int))), (2, .int (iN (k9 : Int))), (0, .ref l)] ⟨rfl, rfl, rfl, trivial⟩ (ih k h W (noT_st hno ?_) (by omega))
    rintro (w | w | w)
    · exact hA w
    · exact hC w
    · rw [ea9] at w
      exact hF w
  refine e_istore dL_isTouched_196 rfl ?_
  refine e_iload dL_isTouched_198 rfl ?_
  refine e_iconst dL_isTouched_200 ?_
  refine e_iadd dL_isTouched_201 ?_
  refine e_aload_n dL_isTouched_202 rfl ?_
  refine e_getf fL_174 W.obj rfl dL_isTouched_203 ?_
  refine e_irem ⟨by omega, by omega⟩ ⟨by omega, by omega⟩ (by omega) dL_isTouched_206 ?_
  rw [et]
  refine e_istore dL_isTouched_207 rfl ?_
  refine e_iload dL_isTouched_209 rfl ?_
  refine e_iconst dL_isTouched_211 ?_
  refine e_iadd dL_isTouched_212 ?_
  refine e_aload_n dL_isTouched_213 rfl ?_
  refine e_getf fL_174 W.obj rfl dL_isTouched_214 ?_
  refine e_irem ⟨by omega, by omega⟩ ⟨by omega, by omega⟩ (by omega) dL_isTouched_217 ?_
  rw [et2]
  refine e_istore dL_isTouched_218 rfl ?_
  refine e_iload dL_isTouched_220 rfl ?_
  refine e_if_eq (tgt := 343) ⟨by omega, by omega⟩ dL_isTouched_222 rfl (fun c_222 => ?_) (fun c_222 => ?_)
  · refine e_iconst dL_isTouched_343 ?_
    refine e_istore dL_isTouched_344 rfl ?_
    refine e_iload dL_isTouched_346 rfl ?_
    refine e_if_eq (tgt := 353) r32_0 dL_isTouched_348 rfl (fun _ => ?_) (fun c => absurd rfl c)
    exact go _ ⟨rfl, rfl, rfl, trivial⟩ (fun w => (hbs.elim (fun q => absurd q.1 (by omega)) (fun q => q.2 w.1)))
  · refine e_aload_n dL_isTouched_225 rfl ?_
    refine e_getf fL_26 W.obj rfl dL_isTouched_226 ?_
    refine e_iload dL_isTouched_229 rfl ?_
    refine e_iaE W.gx (by omega) rfl fa.1 dL_isTouched_231 ?_
    refine e_aload_n dL_isTouched_232 rfl ?_
    refine e_getf fL_29 W.obj rfl dL_isTouched_233 ?_
    refine e_iload dL_isTouched_236 rfl ?_
    refine e_iaE W.gy (by omega) rfl fa.2 dL_isTouched_238 ?_
    refine e_aload_n dL_isTouched_239 rfl ?_
    refine e_getf fL_26 W.obj rfl dL_isTouched_240 ?_
    refine e_iload dL_isTouched_243 rfl ?_
    refine e_iaE W.gx (by omega) rfl fb.1 dL_isTouched_245 ?_
    refine e_aload_n dL_isTouched_246 rfl ?_
    refine e_getf fL_29 W.obj rfl dL_isTouched_247 ?_
    refine e_iload dL_isTouched_250 rfl ?_
    refine e_iaE W.gy (by omega) rfl fb.2 dL_isTouched_252 ?_
    refine e_aload_n dL_isTouched_253 rfl ?_
    refine e_getf fL_26 W.obj rfl dL_isTouched_254 ?_
    refine e_iload dL_isTouched_257 rfl ?_
    refine e_iaE W.gx (by omega) rfl fc.1 dL_isTouched_259 ?_
    refine e_aload_n dL_isTouched_260 rfl ?_
    refine e_getf fL_29 W.obj rfl dL_isTouched_261 ?_
    refine e_iload dL_isTouched_264 rfl ?_
    refine e_iaE W.gy (by omega) rfl fc.2 dL_isTouched_266 ?_
    refine e_pS qcL_77 (L_turn ba.1 ba.2 bb.1 bb.2 bc.1 bc.2) rfl rfl rfl rfl (by omega) dL_isTouched_267 ?_
    refine (show Ev _ _ _ _ h _ _ (.int (iN (sg (tw3 L a9 (nxt L.length a9) L (nxt L.length (nxt L.length a9))))) :: []) from ?_)
    refine e_if_ne (tgt := 343) ⟨by omega, by omega⟩ dL_isTouched_270 rfl (fun c_270 => ?_) (fun c_270 => ?_)
    · refine e_iconst dL_isTouched_343 ?_
      refine e_istore dL_isTouched_344 rfl ?_
      refine e_iload dL_isTouched_346 rfl ?_
      refine e_if_eq (tgt := 353) r32_0 dL_isTouched_348 rfl (fun _ => ?_) (fun c => absurd rfl c)
      exact go _ ⟨rfl, rfl, rfl, trivial⟩ (fun w => c_270 (sg_z.mpr w.2.1))
    · refine e_aload_n dL_isTouched_273 rfl ?_
      refine e_getf fL_26 W.obj rfl dL_isTouched_274 ?_
      refine e_iload dL_isTouched_277 rfl ?_
      refine e_iaE W.gx (by omega) rfl fa.1 dL_isTouched_279 ?_
      refine e_aload_n dL_isTouched_280 rfl ?_
      refine e_getf fL_26 W.obj rfl dL_isTouched_281 ?_
      refine e_iload dL_isTouched_284 rfl ?_
      refine e_iaE W.gx (by omega) rfl fb.1 dL_isTouched_286 ?_
      refine e_isub dL_isTouched_287 ?_
      refine e_aload_n dL_isTouched_288 rfl ?_
      refine e_getf fL_26 W.obj rfl dL_isTouched_289 ?_
      refine e_iload dL_isTouched_292 rfl ?_
      refine e_iaE W.gx (by omega) rfl fc.1 dL_isTouched_294 ?_
      refine e_aload_n dL_isTouched_295 rfl ?_
      refine e_getf fL_26 W.obj rfl dL_isTouched_296 ?_
      refine e_iload dL_isTouched_299 rfl ?_
      refine e_iaE W.gx (by omega) rfl fb.1 dL_isTouched_301 ?_
      refine e_isub dL_isTouched_302 ?_
      refine e_imul dL_isTouched_303 ?_
      refine e_aload_n dL_isTouched_304 rfl ?_
      refine e_getf fL_29 W.obj rfl dL_isTouched_305 ?_
      refine e_iload dL_isTouched_308 rfl ?_
      refine e_iaE W.gy (by omega) rfl fa.2 dL_isTouched_310 ?_
      refine e_aload_n dL_isTouched_311 rfl ?_
      refine e_getf fL_29 W.obj rfl dL_isTouched_312 ?_
      refine e_iload dL_isTouched_315 rfl ?_
      refine e_iaE W.gy (by omega) rfl fb.2 dL_isTouched_317 ?_
      refine e_isub dL_isTouched_318 ?_
      refine e_aload_n dL_isTouched_319 rfl ?_
      refine e_getf fL_29 W.obj rfl dL_isTouched_320 ?_
      refine e_iload dL_isTouched_323 rfl ?_
      refine e_iaE W.gy (by omega) rfl fc.2 dL_isTouched_325 ?_
      refine e_aload_n dL_isTouched_326 rfl ?_
      refine e_getf fL_29 W.obj rfl dL_isTouched_327 ?_
      refine e_iload dL_isTouched_330 rfl ?_
      refine e_iaE W.gy (by omega) rfl fb.2 dL_isTouched_332 ?_
      refine e_isub dL_isTouched_333 ?_
      refine e_imul dL_isTouched_334 ?_
      refine e_iadd dL_isTouched_335 ?_
      refine (show Ev _ _ _ _ h _ _ (.int (iN (dotP L a9)) :: []) from ?_)
      refine e_if_le (tgt := 343) ⟨by omega, by omega⟩ dL_isTouched_336 rfl (fun c_336 => ?_) (fun c_336 => ?_)
      · refine e_iconst dL_isTouched_343 ?_
        refine e_istore dL_isTouched_344 rfl ?_
        refine e_iload dL_isTouched_346 rfl ?_
        refine e_if_eq (tgt := 353) r32_0 dL_isTouched_348 rfl (fun _ => ?_) (fun c => absurd rfl c)
        exact go _ ⟨rfl, rfl, rfl, trivial⟩ (fun w => absurd w.2.2 (by omega))
      · refine e_iconst dL_isTouched_339 ?_
        refine e_goto (tgt := 344) dL_isTouched_340 rfl ?_
        refine e_istore dL_isTouched_344 rfl ?_
        refine e_iload dL_isTouched_346 rfl ?_
        refine e_if_eq (tgt := 353) ⟨by decide, by decide⟩ dL_isTouched_348 rfl (fun c => absurd c (by decide)) (fun _ => ?_)
        refine e_iconst dL_isTouched_351 ?_
        refine e_zret rfl (Or.inr rfl) dL_isTouched_352 (by omega) (by omega) ?_
        refine ⟨rfl, _, rfl, ?_, W⟩
        rw [bC_t (show touP L from ⟨k9, i9, hk9, hi9, Or.inr (Or.inr ⟨hbs.elim (fun q => q.2) (fun q => absurd q.1 c_222), by rw [ea9]; exact ⟨sg_z.mp (by omega), by omega⟩⟩)⟩)]
set_option maxRecDepth 20000 in
theorem it_two (hL : polP L) (hx : gxy L GX GY) {k9 i9 : Nat} (hk9 : k9 < i9) (hi9 : i9 < L.length) (hno : noT L k9 i9) (ih : ∀ (k : Nat) (h : g_hp), lwW G x pt (L.length : Int) cr HP XS YS GX GY FX FY P (leA L) S b P2 E2 S2 F l h → noT L k9 (i9 + 1) → k ≤ 12 + 10 * k9 + (i9 + 1) → Ev (g_B G mL_isTouched 140 (6 * 140) (zQ (fun v h1 => v = .int (iN (bC (touP L))) ∧ lwW G x pt (L.length : Int) cr HP XS YS GX GY FX FY P (leA L) S b P2 E2 S2 F l h1))) k (6 * k) none h 97 [(3, .int (iN (((i9 + 1) : Nat) : Int))), (2, .int (iN (k9 : Int))), (0, .ref l)] []) {bs : Int} (hbs : (bs = 1 ∧ besP L.length k9 i9) ∨ (bs = 0 ∧ ¬ besP L.length k9 i9)) (hA : ¬ tcA L k9 i9) {k : Nat} {h : g_hp} (W : lwW G x pt (L.length : Int) cr HP XS YS GX GY FX FY P (leA L) S b P2 E2 S2 F l h) (hk : k ≤ 12 + 10 * k9 + i9) : Ev (g_B G mL_isTouched 140 (6 * 140) (zQ (fun v h1 => v = .int (iN (bC (touP L))) ∧ lwW G x pt (L.length : Int) cr HP XS YS GX GY FX FY P (leA L) S b P2 E2 S2 F l h1))) k (6 * k) none h 163 [(3, .int (iN ((i9 : Nat) : Int))), (2, .int (iN (k9 : Int))), (0, .ref l)] [.int (iN bs)] := by
  have hl := hL.1
  have hk0 : k9 < L.length := by omega
  have ek := hx k9 hk0
  have ei := hx i9 hi9
  have gk := hL.2 k9 hk0
  have gi := hL.2 i9 hi9
  have ll : (leA L).length = 2 * L.length := leN_len L L.length
  have hb9 : bs = 1 ∨ bs = 0 := hbs.elim (fun q => Or.inl q.1) (fun q => Or.inr q.1)
  refine e_istore dL_isTouched_163 rfl ?_
  refine e_iload dL_isTouched_165 rfl ?_
  refine e_if_ne (tgt := 184) ⟨by omega, by omega⟩ dL_isTouched_167 rfl (fun c_167 => ?_) (fun c_167 => ?_)
  · refine e_iload_n dL_isTouched_184 rfl ?_
    refine e_iload_n dL_isTouched_185 rfl ?_
    refine e_iconst dL_isTouched_186 ?_
    refine e_iadd dL_isTouched_187 ?_
    refine e_icmp_ne (tgt := 195) ⟨by omega, by omega⟩ ⟨by omega, by omega⟩ dL_isTouched_188 rfl (fun c_188 => ?_) (fun c_188 => ?_)
    · refine e_iload_n dL_isTouched_195 rfl ?_
      exact e_loc [(4, .int (iN bs)), (3, .int (iN ((i9 : Nat) : Int))), (2, .int (iN (k9 : Int))), (0, .ref l)] ⟨rfl, rfl, rfl, rfl, trivial⟩ (it_three hL hx hk9 hi9 hno ih hbs hA (fun w => hbs.elim (fun q => w.1 q.2) (fun q => absurd q.1 c_167)) (a9 := i9) (by omega) (if_neg (by omega)) W (by omega))
    · refine e_iload_n dL_isTouched_191 rfl ?_
      refine e_goto (tgt := 196) dL_isTouched_192 rfl ?_
      exact e_loc [(4, .int (iN bs)), (3, .int (iN ((i9 : Nat) : Int))), (2, .int (iN (k9 : Int))), (0, .ref l)] ⟨rfl, rfl, rfl, rfl, trivial⟩ (it_three hL hx hk9 hi9 hno ih hbs hA (fun w => hbs.elim (fun q => w.1 q.2) (fun q => absurd q.1 c_167)) (a9 := k9) (by omega) (if_pos (by omega)) W (by omega))
  · refine e_aload_n dL_isTouched_170 rfl ?_
    refine e_getf fL_10 W.obj rfl dL_isTouched_171 ?_
    refine e_iload_n dL_isTouched_174 rfl ?_
    refine e_iload_n dL_isTouched_175 rfl ?_
    refine e_hs W qcL_220 rfl (fun _ _ _ _ _ _ _ _ _ X => D_cross X (l := (k9 : Int)) (m := (i9 : Int)) ⟨by omega, by omega⟩ ⟨by omega, by omega⟩ ⟨by omega, by omega⟩ ⟨by omega, by omega⟩) rfl rfl rfl rfl (by omega) dL_isTouched_176 (fun h W => ?_)
    refine (show Ev _ _ _ _ h _ _ (.int (iN (bP (lmE (leA L) k9 i9))) :: []) from ?_)
    refine e_ifC_eq (tgt := 184) dL_isTouched_179 rfl (fun c_179 => ?_) (fun c_179 => ?_)
    · refine e_iload_n dL_isTouched_184 rfl ?_
      refine e_iload_n dL_isTouched_185 rfl ?_
      refine e_iconst dL_isTouched_186 ?_
      refine e_iadd dL_isTouched_187 ?_
      refine e_icmp_ne (tgt := 195) ⟨by omega, by omega⟩ ⟨by omega, by omega⟩ dL_isTouched_188 rfl (fun c_188 => ?_) (fun c_188 => ?_)
      · refine e_iload_n dL_isTouched_195 rfl ?_
        exact e_loc [(4, .int (iN bs)), (3, .int (iN ((i9 : Nat) : Int))), (2, .int (iN (k9 : Int))), (0, .ref l)] ⟨rfl, rfl, rfl, rfl, trivial⟩ (it_three hL hx hk9 hi9 hno ih hbs hA (fun w => c_179 w.2) (a9 := i9) (by omega) (if_neg (by omega)) W (by omega))
      · refine e_iload_n dL_isTouched_191 rfl ?_
        refine e_goto (tgt := 196) dL_isTouched_192 rfl ?_
        exact e_loc [(4, .int (iN bs)), (3, .int (iN ((i9 : Nat) : Int))), (2, .int (iN (k9 : Int))), (0, .ref l)] ⟨rfl, rfl, rfl, rfl, trivial⟩ (it_three hL hx hk9 hi9 hno ih hbs hA (fun w => c_179 w.2) (a9 := k9) (by omega) (if_pos (by omega)) W (by omega))
    · refine e_iconst dL_isTouched_182 ?_
      refine e_zret rfl (Or.inr rfl) dL_isTouched_183 (by omega) (by omega) ?_
      refine ⟨rfl, _, rfl, ?_, W⟩
      rw [bC_t (show touP L from ⟨k9, i9, hk9, hi9, Or.inr (Or.inl ⟨hbs.elim (fun q => absurd q.1 (by omega)) (fun q => q.2), c_179⟩)⟩)]
set_option maxRecDepth 20000 in
theorem it_one (hL : polP L) (hx : gxy L GX GY) {k9 i9 : Nat} (hk9 : k9 < i9) (hi9 : i9 < L.length) (hno : noT L k9 i9) (ih : ∀ (k : Nat) (h : g_hp), lwW G x pt (L.length : Int) cr HP XS YS GX GY FX FY P (leA L) S b P2 E2 S2 F l h → noT L k9 (i9 + 1) → k ≤ 12 + 10 * k9 + (i9 + 1) → Ev (g_B G mL_isTouched 140 (6 * 140) (zQ (fun v h1 => v = .int (iN (bC (touP L))) ∧ lwW G x pt (L.length : Int) cr HP XS YS GX GY FX FY P (leA L) S b P2 E2 S2 F l h1))) k (6 * k) none h 97 [(3, .int (iN (((i9 + 1) : Nat) : Int))), (2, .int (iN (k9 : Int))), (0, .ref l)] []) (hA : ¬ tcA L k9 i9) {k : Nat} {h : g_hp} (W : lwW G x pt (L.length : Int) cr HP XS YS GX GY FX FY P (leA L) S b P2 E2 S2 F l h) (hk : k ≤ 12 + 10 * k9 + i9) : Ev (g_B G mL_isTouched 140 (6 * 140) (zQ (fun v h1 => v = .int (iN (bC (touP L))) ∧ lwW G x pt (L.length : Int) cr HP XS YS GX GY FX FY P (leA L) S b P2 E2 S2 F l h1))) k (6 * k) none h 137 [(3, .int (iN ((i9 : Nat) : Int))), (2, .int (iN (k9 : Int))), (0, .ref l)] [] := by
  have hl := hL.1
  have hk0 : k9 < L.length := by omega
  have ek := hx k9 hk0
  have ei := hx i9 hi9
  have gk := hL.2 k9 hk0
  have gi := hL.2 i9 hi9
  refine e_iload_n dL_isTouched_137 rfl ?_
  refine e_iload_n dL_isTouched_138 rfl ?_
  refine e_iconst dL_isTouched_139 ?_
  refine e_iadd dL_isTouched_140 ?_
  refine e_icmp_eq (tgt := 158) ⟨by omega, by omega⟩ ⟨by omega, by omega⟩ dL_isTouched_141 rfl (fun c_141 => ?_) (fun c_141 => ?_)
  · refine e_iconst dL_isTouched_158 ?_
    refine e_goto (tgt := 163) dL_isTouched_159 rfl ?_
    exact it_two hL hx hk9 hi9 hno ih (Or.inl ⟨rfl, Or.inl (by omega)⟩) hA W hk
  · refine e_iload_n dL_isTouched_144 rfl ?_
    refine e_if_ne (tgt := 162) ⟨by omega, by omega⟩ dL_isTouched_145 rfl (fun c_145 => ?_) (fun c_145 => ?_)
    · refine e_iconst dL_isTouched_162 ?_
      exact it_two hL hx hk9 hi9 hno ih (Or.inr ⟨rfl, fun w => w.elim (fun w => absurd w (by omega)) (fun w => absurd w (by omega))⟩) hA W hk
    · refine e_iload_n dL_isTouched_148 rfl ?_
      refine e_aload_n dL_isTouched_149 rfl ?_
      refine e_getf fL_174 W.obj rfl dL_isTouched_150 ?_
      refine e_iconst dL_isTouched_153 ?_
      refine e_isub dL_isTouched_154 ?_
      refine e_icmp_ne (tgt := 162) ⟨by omega, by omega⟩ ⟨by omega, by omega⟩ dL_isTouched_155 rfl (fun c_155 => ?_) (fun c_155 => ?_)
      · refine e_iconst dL_isTouched_162 ?_
        exact it_two hL hx hk9 hi9 hno ih (Or.inr ⟨rfl, fun w => w.elim (fun w => absurd w (by omega)) (fun w => absurd w (by omega))⟩) hA W hk
      · refine e_iconst dL_isTouched_158 ?_
        refine e_goto (tgt := 163) dL_isTouched_159 rfl ?_
        exact it_two hL hx hk9 hi9 hno ih (Or.inl ⟨rfl, Or.inr ⟨by omega, by omega⟩⟩) hA W hk
set_option maxRecDepth 20000 in
theorem it_inner (hL : polP L) (hx : gxy L GX GY) {k9 : Nat} (hk9 : k9 < L.length) (kk : ∀ (k : Nat) (h : g_hp), lwW G x pt (L.length : Int) cr HP XS YS GX GY FX FY P (leA L) S b P2 E2 S2 F l h → noT L (k9 + 1) (k9 + 1 + 1) → k ≤ 12 + 10 * (k9 + 1) + (k9 + 1 + 1) → Ev (g_B G mL_isTouched 140 (6 * 140) (zQ (fun v h1 => v = .int (iN (bC (touP L))) ∧ lwW G x pt (L.length : Int) cr HP XS YS GX GY FX FY P (leA L) S b P2 E2 S2 F l h1))) k (6 * k) none h 359 [(2, .int (iN (k9 : Int))), (0, .ref l)] []) : ∀ (n i9 k : Nat) (h : g_hp), lwW G x pt (L.length : Int) cr HP XS YS GX GY FX FY P (leA L) S b P2 E2 S2 F l h → noT L k9 i9 → k9 < i9 → i9 + n = L.length → k ≤ 12 + 10 * k9 + i9 → Ev (g_B G mL_isTouched 140 (6 * 140) (zQ (fun v h1 => v = .int (iN (bC (touP L))) ∧ lwW G x pt (L.length : Int) cr HP XS YS GX GY FX FY P (leA L) S b P2 E2 S2 F l h1))) k (6 * k) none h 97 [(3, .int (iN ((i9 : Nat) : Int))), (2, .int (iN (k9 : Int))), (0, .ref l)] []
  | 0, i9, k, h, W, hno, hki, e, hk => by
    have hl := hL.1
    refine e_iload_n dL_isTouched_97 rfl ?_
    refine e_aload_n dL_isTouched_98 rfl ?_
    refine e_getf fL_174 W.obj rfl dL_isTouched_99 ?_
    refine e_icmp_ge (tgt := 359) ⟨by omega, by omega⟩ ⟨by omega, by omega⟩ dL_isTouched_102 rfl (fun c_9 => ?_) (fun c_9 => absurd (by omega) c_9)
    exact e_loc [(2, .int (iN (k9 : Int))), (0, .ref l)] ⟨rfl, rfl, trivial⟩ (kk k h W (noT_nx hno (by omega)) (by omega))
  | n + 1, i9, k, h, W, hno, hk9i, e, hk => by
    have ih : ∀ (k : Nat) (h : g_hp), lwW G x pt (L.length : Int) cr HP XS YS GX GY FX FY P (leA L) S b P2 E2 S2 F l h → noT L k9 (i9 + 1) → k ≤ 12 + 10 * k9 + (i9 + 1) → Ev (g_B G mL_isTouched 140 (6 * 140) (zQ (fun v h1 => v = .int (iN (bC (touP L))) ∧ lwW G x pt (L.length : Int) cr HP XS YS GX GY FX FY P (leA L) S b P2 E2 S2 F l h1))) k (6 * k) none h 97 [(3, .int (iN (((i9 + 1) : Nat) : Int))), (2, .int (iN (k9 : Int))), (0, .ref l)] [] := fun k h W hno hk => it_inner hL hx hk9 kk n (i9 + 1) k h W hno (by omega) (by omega) hk
    have hi9 : i9 < L.length := by omega
    have hk9 := hk9i
    have hl := hL.1
    have hk0 : k9 < L.length := by omega
    have ek := hx k9 hk0
    have ei := hx i9 hi9
    have gk := hL.2 k9 hk0
    have gi := hL.2 i9 hi9
    refine e_iload_n dL_isTouched_97 rfl ?_
    refine e_aload_n dL_isTouched_98 rfl ?_
    refine e_getf fL_174 W.obj rfl dL_isTouched_99 ?_
    refine e_icmp_ge (tgt := 359) ⟨by omega, by omega⟩ ⟨by omega, by omega⟩ dL_isTouched_102 rfl (fun c_9 => absurd c_9 (by omega)) (fun c_9 => ?_)
    refine e_aload_n dL_isTouched_105 rfl ?_
    refine e_getf fL_26 W.obj rfl dL_isTouched_106 ?_
    refine e_iload_n dL_isTouched_109 rfl ?_
    refine e_iaE W.gx (by omega) rfl ek.1 dL_isTouched_110 ?_
    refine e_aload_n dL_isTouched_111 rfl ?_
    refine e_getf fL_26 W.obj rfl dL_isTouched_112 ?_
    refine e_iload_n dL_isTouched_115 rfl ?_
    refine e_iaE W.gx (by omega) rfl ei.1 dL_isTouched_116 ?_
    refine e_icmp_ne (tgt := 137) ⟨by omega, by omega⟩ ⟨by omega, by omega⟩ dL_isTouched_117 rfl (fun c_117 => ?_) (fun c_117 => ?_)
    · exact it_one hL hx hk9 hi9 hno ih (fun w => c_117 w.1) W hk
    · refine e_aload_n dL_isTouched_120 rfl ?_
      refine e_getf fL_29 W.obj rfl dL_isTouched_121 ?_
      refine e_iload_n dL_isTouched_124 rfl ?_
      refine e_iaE W.gy (by omega) rfl ek.2 dL_isTouched_125 ?_
      refine e_aload_n dL_isTouched_126 rfl ?_
      refine e_getf fL_29 W.obj rfl dL_isTouched_127 ?_
      refine e_iload_n dL_isTouched_130 rfl ?_
      refine e_iaE W.gy (by omega) rfl ei.2 dL_isTouched_131 ?_
      refine e_icmp_ne (tgt := 137) ⟨by omega, by omega⟩ ⟨by omega, by omega⟩ dL_isTouched_132 rfl (fun c_132 => ?_) (fun c_132 => ?_)
      · exact it_one hL hx hk9 hi9 hno ih (fun w => c_132 w.2) W hk
      · refine e_iconst dL_isTouched_135 ?_
        refine e_zret rfl (Or.inr rfl) dL_isTouched_136 (by omega) (by omega) ?_
        refine ⟨rfl, _, rfl, ?_, W⟩
        rw [bC_t (show touP L from ⟨k9, i9, hk9, hi9, Or.inl ⟨by omega, by omega⟩⟩)]
set_option maxRecDepth 20000 in
theorem it_outer (hL : polP L) (hx : gxy L GX GY) : ∀ (n k9 k : Nat) (h : g_hp), lwW G x pt (L.length : Int) cr HP XS YS GX GY FX FY P (leA L) S b P2 E2 S2 F l h → noT L k9 (k9 + 1) → k9 + n = L.length → k ≤ 12 + 10 * k9 + (k9 + 1) → Ev (g_B G mL_isTouched 140 (6 * 140) (zQ (fun v h1 => v = .int (iN (bC (touP L))) ∧ lwW G x pt (L.length : Int) cr HP XS YS GX GY FX FY P (leA L) S b P2 E2 S2 F l h1))) k (6 * k) none h 85 [(2, .int (iN (k9 : Int))), (0, .ref l)] []
  | 0, k9, k, h, W, hno, e, hk => by
    have hl := hL.1
    refine e_iload_n dL_isTouched_85 rfl ?_
    refine e_aload_n dL_isTouched_86 rfl ?_
    refine e_getf fL_174 W.obj rfl dL_isTouched_87 ?_
    refine e_icmp_ge (tgt := 365) ⟨by omega, by omega⟩ ⟨by omega, by omega⟩ dL_isTouched_90 rfl (fun c_9 => ?_) (fun c_9 => absurd (by omega) c_9)
    refine e_iconst dL_isTouched_365 ?_
    refine e_zret rfl (Or.inl rfl) dL_isTouched_366 (by omega) (by omega) ?_
    refine ⟨rfl, _, rfl, ?_, W⟩
    rw [bC_f (noT_end hno (by omega))]
  | n + 1, k9, k, h, W, hno, e, hk => by
    have ih := it_outer hL hx n (k9 + 1)
    have hl := hL.1
    have hk9 : k9 < L.length := by omega
    refine e_iload_n dL_isTouched_85 rfl ?_
    refine e_aload_n dL_isTouched_86 rfl ?_
    refine e_getf fL_174 W.obj rfl dL_isTouched_87 ?_
    refine e_icmp_ge (tgt := 365) ⟨by omega, by omega⟩ ⟨by omega, by omega⟩ dL_isTouched_90 rfl (fun c_9 => absurd c_9 (by omega)) (fun c_9 => ?_)
    refine e_iload_n dL_isTouched_93 rfl ?_
    refine e_iconst dL_isTouched_94 ?_
    refine e_iadd dL_isTouched_95 ?_
    refine e_istore_n dL_isTouched_96 rfl ?_
    refine e_loc [(3, .int (iN (((k9 + 1) : Nat) : Int))), (2, .int (iN (k9 : Int))), (0, .ref l)] ⟨rfl, rfl, rfl, trivial⟩ ?_
    refine it_inner hL hx hk9 (fun k h W hno hk => ?_) n (k9 + 1) k h W hno (by omega) (by omega) (by omega)
    refine e_iinc dL_isTouched_359 rfl ?_
    refine e_goto (tgt := 85) dL_isTouched_362 rfl ?_
    exact e_loc [(2, .int (iN ((k9 + 1 : Nat) : Int))), (0, .ref l)] ⟨rfl, rfl, trivial⟩ (ih k h W hno (by omega) (by omega))
set_option maxRecDepth 20000 in
theorem L_isTouched (hL : polP L) (hx : gxy L GX GY) (W : lwW G x pt (L.length : Int) cr HP XS YS GX GY FX FY P E S b P2 E2 S2 F l h) : Run G mL_isTouched [.ref l] none h 140 (6 * 140) (zQ (fun v h1 => v = .int (iN (bC (touP L))) ∧ lwW G x pt (L.length : Int) cr HP XS YS GX GY FX FY P (leA L) S b P2 E2 S2 F l h1)) := by
  have hl := hL.1
  refine run_L rfl plL rfl ?_
  refine e_aload_n dL_isTouched_0 rfl ?_
  refine e_getf fL_10 W.obj rfl dL_isTouched_1 ?_
  refine e_hs W qcL_213 rfl (fun _ _ _ _ _ _ _ _ _ X => D_clearLines X) rfl rfl rfl rfl (by omega) dL_isTouched_4 (fun h W => ?_)
  refine e_istore_n dL_isTouched_7 rfl ?_
  refine e_iconst dL_isTouched_8 ?_
  refine e_istore_n dL_isTouched_9 rfl ?_
  refine e_loc [(2, .int (iN ((0 : Nat) : Int))), (1, .int (iN ((E.length / 2 : Nat) : Int))), (0, .ref l)] ⟨rfl, rfl, rfl, trivial⟩ ?_
  refine it_lines hL hx (fun k h W hk => ?_) L.length 0 _ h W (Nat.zero_add _) (by omega)
  refine e_iconst dL_isTouched_83 ?_
  refine e_istore_n dL_isTouched_84 rfl ?_
  refine e_loc [(2, .int (iN ((0 : Nat) : Int))), (0, .ref l)] ⟨rfl, rfl, trivial⟩ ?_
  exact it_outer hL hx L.length 0 k h W (fun k' i' a b c => absurd a (by omega)) (Nat.zero_add _) (by omega)
end LAW12
