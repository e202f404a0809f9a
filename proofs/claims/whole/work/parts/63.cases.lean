/-! The law: its cases -/
theorem r64_w32 (v : Int) : r64 (w32 v) := by
  have h := r32_of (iN v)
  unfold w32
  exact ⟨by omega, by omega⟩
section LCASE
variable {G : g_X} {P E : PL} {S : Nat → PL} {b : Int} {P2 E2 : PL} {S2 : Nat → PL} {F : PL} {o m ao ad bs L : Nat} {xs : Nat → Int32} {ZZ : g_Q} {k n : Nat} {h : g_hp} {i : Int}
set_option maxRecDepth 20000 in
theorem lc_0 (W9 : lwW G P E S b P2 E2 S2 F o m ao ad h) (hi : 0 ≤ i) (hi5 : i + 5 ≤ L) (hL : L ≤ 2560) (hk : k + 1 ≤ 601024) (hn : n + 6 ≤ 7293034)  (kk : ∀ h1, lwW G (s_point P (sv xs (i + 1)) (sv xs (i + 2)) (sv xs (i + 3))) E S b P2 E2 S2 F o m ao ad h1 → Ev (lwE G bs L xs ZZ) (k + 1) (n + 6) none h1 2957 [(5, .int (iN i)), (4, .ref ad), (3, .ref ao), (2, .ref m), (1, .ref o), (0, .ref bs)] []) : Ev (lwE G bs L xs ZZ) k n none h 252 [(5, .int (iN i)), (4, .ref ad), (3, .ref ao), (2, .ref m), (1, .ref o), (0, .ref bs)] [] := by
  obtain ⟨D, ⟨x1, x2, x3, x4, x5, x6, x7, x8, x9, X⟩, ⟨sc, ar, Y, hR⟩, ⟨ag, fa⟩, ⟨gd, fd⟩⟩ := W9
  have kc9 : ((k_point P (sv xs (i + 1)) (sv xs (i + 2)) (sv xs (i + 3)))).1 ≤ 2 := by first | exact kc_point | exact kc_point _ | exact kc_point _ _ | exact kc_point _ _ _ | exact kc_point _ _ _ _ | exact kc_point _ _ _ _ _
  have rk : r32 ((((k_point P (sv xs (i + 1)) (sv xs (i + 2)) (sv xs (i + 3)))).1 : Nat) : Int) := ⟨by omega, by omega⟩
  refine e_aload_n dL_law_252 rfl ?_
  refine e_aload_n dL_law_253 rfl ?_
  refine e_iload dL_law_254 rfl ?_
  refine e_iconst dL_law_256 ?_
  refine e_iadd dL_law_257 ?_
  refine e_sld (by omega) (by omega) hL dL_law_258 ?_
  refine e_aload_n dL_law_259 rfl ?_
  refine e_iload dL_law_260 rfl ?_
  refine e_iconst dL_law_262 ?_
  refine e_iadd dL_law_263 ?_
  refine e_sld (by omega) (by omega) hL dL_law_264 ?_
  refine e_aload_n dL_law_265 rfl ?_
  refine e_iload dL_law_266 rfl ?_
  refine e_iconst dL_law_268 ?_
  refine e_iadd dL_law_269 ?_
  refine e_sld (by omega) (by omega) hL dL_law_270 ?_
  refine e_aload_n dL_law_271 rfl ?_
  refine e_callH qcL_143 (H_point X fa (by obtain ⟨rfl, rfl, rfl⟩ := D; omega) (r32_sv _ _) (r32_sv _ _) (r32_sv _ _)) rfl rfl rfl (g_rm_of rfl hk hn) dL_law_272 (fun E9 z9 h9 w => nomatch w.2.1) (fun v9 z9 h9 w => ?_)
  obtain ⟨rfl, w2, hc, ⟨l1, l2, l3, l4, l5, l6, l7, l8, l9, X1⟩, rfl⟩ := w
  have e2 : v9 = some (.int (iN ((((k_point P (sv xs (i + 1)) (sv xs (i + 2)) (sv xs (i + 3)))).1 : Nat) : Int))) := Sum.inl.inj w2
  subst e2
  refine (show Ev _ _ _ _ _ _ _ (.int (iN ((((k_point P (sv xs (i + 1)) (sv xs (i + 2)) (sv xs (i + 3)))).1 : Nat) : Int)) :: []) from ?_)
  obtain ⟨XC, Y1, ⟨g1, f1, v1⟩, f2⟩ := lw_aft D X1 Y fa fd
  generalize upL G _ _ _ _ = hh at XC Y1 f1 f2 ⊢
  refine e_istore dL_law_275 rfl ?_
  refine e_aload_n dL_law_277 rfl ?_
  refine e_aload_n dL_law_278 rfl ?_
  refine e_iload dL_law_279 rfl ?_
  refine e_iconst dL_law_281 ?_
  refine e_iadd dL_law_282 ?_
  refine e_sld (by omega) (by omega) hL dL_law_283 ?_
  refine e_aload_n dL_law_284 rfl ?_
  refine e_iload dL_law_285 rfl ?_
  refine e_iconst dL_law_287 ?_
  refine e_iadd dL_law_288 ?_
  refine e_sld (by omega) (by omega) hL dL_law_289 ?_
  refine e_aload_n dL_law_290 rfl ?_
  refine e_iload dL_law_291 rfl ?_
  refine e_iconst dL_law_293 ?_
  refine e_iadd dL_law_294 ?_
  refine e_sld (by omega) (by omega) hL dL_law_295 ?_
  refine e_callV qcL_148 Y1.obj rfl rfl (M_point Y1 hR (r32_sv _ _) (r32_sv _ _) (r32_sv _ _)) rfl rfl rfl (g_rm_of rfl (by show k + 1 + 0 ≤ 601024; omega) (by show n + 6 + 0 ≤ 7293034; omega)) dL_law_296 (fun E9 z9 h9 w => nomatch (show (Sum.inr _ : g_O) = Sum.inl _ from w.2.1)) (fun v9 z9 h9 w => ?_)
  obtain ⟨rfl, w2, sc2, ar2, Y2, R2, c2⟩ := w
  have e2 : v9 = some (.int (iN ((k_point P (sv xs (i + 1)) (sv xs (i + 2)) (sv xs (i + 3)))).2)) := Sum.inl.inj w2
  subst e2
  refine (show Ev _ _ _ _ _ _ _ (.int (iN ((k_point P (sv xs (i + 1)) (sv xs (i + 2)) (sv xs (i + 3)))).2) :: []) from ?_)
  obtain ⟨WW, f3, f4⟩ := lw_end D XC Y2 R2 f1 f2
  refine e_istore dL_law_299 rfl ?_
  refine e_aload_n dL_law_301 rfl ?_
  refine e_pureV qcL_149 Y2.obj rfl rfl (S_thrown Y2) rfl rfl rfl (g_rm_of rfl (by show k + 1 + 0 + 0 ≤ 601024; omega) (by show n + 6 + 0 + 0 ≤ 7293034; omega)) dL_law_302 ?_
  rw [c2]
  refine e_iload dL_law_305 rfl ?_
  refine e_icmp_eq (tgt := 312) rk rk dL_law_307 rfl (fun _ => ?_) (fun c9 => absurd rfl c9)
  refine e_iload dL_law_312 rfl ?_
  refine e_if_ne (tgt := 329) rk dL_law_314 rfl (fun c_314 => ?_) (fun c_314 => ?_)
  · refine e_goto (tgt := 2957) dL_law_329 rfl ?_
    refine e_loc [(5, .int (iN i)), (4, .ref ad), (3, .ref ao), (2, .ref m), (1, .ref o), (0, .ref bs)] ⟨rfl, rfl, rfl, rfl, rfl, rfl, trivial⟩ ?_
    exact kk _ WW
  · have hz : ((k_point P (sv xs (i + 1)) (sv xs (i + 2)) (sv xs (i + 3)))).1 = 0 := by omega
    refine e_aload_n dL_law_317 rfl ?_
    refine e_iconst dL_law_318 ?_
    refine e_laload f3 (by omega) (by omega) rfl dL_law_319 ?_
    have e5 : g1 0 = w32 ((k_point P (sv xs (i + 1)) (sv xs (i + 2)) (sv xs (i + 3)))).2 := v1 hz
    refine (show Ev _ _ _ _ _ _ _ (.long (lI (g1 0)) :: []) from ?_)
    rw [e5]
    refine e_iload dL_law_320 rfl ?_
    rw [← iN_w32 ((k_point P (sv xs (i + 1)) (sv xs (i + 2)) (sv xs (i + 3)))).2]
    refine e_i2l (r32_of _) dL_law_322 ?_
    refine e_lif_eq (tgt := 329) (r64_w32 _) (r64_w32 _) dL_law_323 dL_law_324 rfl (fun _ => ?_) (fun c9 => absurd rfl c9)
    refine e_goto (tgt := 2957) dL_law_329 rfl ?_
    refine e_loc [(5, .int (iN i)), (4, .ref ad), (3, .ref ao), (2, .ref m), (1, .ref o), (0, .ref bs)] ⟨rfl, rfl, rfl, rfl, rfl, rfl, trivial⟩ ?_
    exact kk _ WW
set_option maxRecDepth 20000 in
theorem lc_1 (W9 : lwW G P E S b P2 E2 S2 F o m ao ad h) (hi : 0 ≤ i) (hi5 : i + 5 ≤ L) (hL : L ≤ 2560) (hk : k + 1 ≤ 601024) (hn : n + 6 ≤ 7293034)  (kk : ∀ h1, lwW G (s_drop P (sv xs (i + 1))) E S b P2 E2 S2 F o m ao ad h1 → Ev (lwE G bs L xs ZZ) (k + 1) (n + 6) none h1 2957 [(5, .int (iN i)), (4, .ref ad), (3, .ref ao), (2, .ref m), (1, .ref o), (0, .ref bs)] []) : Ev (lwE G bs L xs ZZ) k n none h 332 [(5, .int (iN i)), (4, .ref ad), (3, .ref ao), (2, .ref m), (1, .ref o), (0, .ref bs)] [] := by
  obtain ⟨D, ⟨x1, x2, x3, x4, x5, x6, x7, x8, x9, X⟩, ⟨sc, ar, Y, hR⟩, ⟨ag, fa⟩, ⟨gd, fd⟩⟩ := W9
  have kc9 : ((k_drop P (sv xs (i + 1)))).1 ≤ 1 := by first | exact kc_drop | exact kc_drop _ | exact kc_drop _ _ | exact kc_drop _ _ _ | exact kc_drop _ _ _ _ | exact kc_drop _ _ _ _ _
  have rk : r32 ((((k_drop P (sv xs (i + 1)))).1 : Nat) : Int) := ⟨by omega, by omega⟩
  refine e_aload_n dL_law_332 rfl ?_
  refine e_aload_n dL_law_333 rfl ?_
  refine e_iload dL_law_334 rfl ?_
  refine e_iconst dL_law_336 ?_
  refine e_iadd dL_law_337 ?_
  refine e_sld (by omega) (by omega) hL dL_law_338 ?_
  refine e_aload_n dL_law_339 rfl ?_
  refine e_callH qcL_152 (H_drop X fa (by obtain ⟨rfl, rfl, rfl⟩ := D; omega) (r32_sv _ _)) rfl rfl rfl (g_rm_of rfl hk hn) dL_law_340 (fun E9 z9 h9 w => nomatch w.2.1) (fun v9 z9 h9 w => ?_)
  obtain ⟨rfl, w2, hc, ⟨l1, l2, l3, l4, l5, l6, l7, l8, l9, X1⟩, rfl⟩ := w
  have e2 : v9 = some (.int (iN ((((k_drop P (sv xs (i + 1)))).1 : Nat) : Int))) := Sum.inl.inj w2
  subst e2
  refine (show Ev _ _ _ _ _ _ _ (.int (iN ((((k_drop P (sv xs (i + 1)))).1 : Nat) : Int)) :: []) from ?_)
  obtain ⟨XC, Y1, ⟨g1, f1, v1⟩, f2⟩ := lw_aft D X1 Y fa fd
  generalize upL G _ _ _ _ = hh at XC Y1 f1 f2 ⊢
  refine e_istore dL_law_343 rfl ?_
  refine e_aload_n dL_law_345 rfl ?_
  refine e_aload_n dL_law_346 rfl ?_
  refine e_iload dL_law_347 rfl ?_
  refine e_iconst dL_law_349 ?_
  refine e_iadd dL_law_350 ?_
  refine e_sld (by omega) (by omega) hL dL_law_351 ?_
  refine e_callV qcL_155 Y1.obj rfl rfl (M_drop Y1 hR (r32_sv _ _)) rfl rfl rfl (g_rm_of rfl (by show k + 1 + 0 ≤ 601024; omega) (by show n + 6 + 0 ≤ 7293034; omega)) dL_law_352 (fun E9 z9 h9 w => nomatch (show (Sum.inr _ : g_O) = Sum.inl _ from w.2.1)) (fun v9 z9 h9 w => ?_)
  obtain ⟨rfl, w2, sc2, ar2, Y2, R2, c2⟩ := w
  have e2 : v9 = some (.int (iN ((k_drop P (sv xs (i + 1)))).2)) := Sum.inl.inj w2
  subst e2
  refine (show Ev _ _ _ _ _ _ _ (.int (iN ((k_drop P (sv xs (i + 1)))).2) :: []) from ?_)
  obtain ⟨WW, f3, f4⟩ := lw_end D XC Y2 R2 f1 f2
  refine e_istore dL_law_355 rfl ?_
  refine e_aload_n dL_law_357 rfl ?_
  refine e_pureV qcL_149 Y2.obj rfl rfl (S_thrown Y2) rfl rfl rfl (g_rm_of rfl (by show k + 1 + 0 + 0 ≤ 601024; omega) (by show n + 6 + 0 + 0 ≤ 7293034; omega)) dL_law_358 ?_
  rw [c2]
  refine e_iload dL_law_361 rfl ?_
  refine e_icmp_eq (tgt := 368) rk rk dL_law_363 rfl (fun _ => ?_) (fun c9 => absurd rfl c9)
  refine e_iload dL_law_368 rfl ?_
  refine e_if_ne (tgt := 385) rk dL_law_370 rfl (fun c_370 => ?_) (fun c_370 => ?_)
  · refine e_goto (tgt := 2957) dL_law_385 rfl ?_
    refine e_loc [(5, .int (iN i)), (4, .ref ad), (3, .ref ao), (2, .ref m), (1, .ref o), (0, .ref bs)] ⟨rfl, rfl, rfl, rfl, rfl, rfl, trivial⟩ ?_
    exact kk _ WW
  · have hz : ((k_drop P (sv xs (i + 1)))).1 = 0 := by omega
    refine e_aload_n dL_law_373 rfl ?_
    refine e_iconst dL_law_374 ?_
    refine e_laload f3 (by omega) (by omega) rfl dL_law_375 ?_
    have e5 : g1 0 = w32 ((k_drop P (sv xs (i + 1)))).2 := v1 hz
    refine (show Ev _ _ _ _ _ _ _ (.long (lI (g1 0)) :: []) from ?_)
    rw [e5]
    refine e_iload dL_law_376 rfl ?_
    rw [← iN_w32 ((k_drop P (sv xs (i + 1)))).2]
    refine e_i2l (r32_of _) dL_law_378 ?_
    refine e_lif_eq (tgt := 385) (r64_w32 _) (r64_w32 _) dL_law_379 dL_law_380 rfl (fun _ => ?_) (fun c9 => absurd rfl c9)
    refine e_goto (tgt := 2957) dL_law_385 rfl ?_
    refine e_loc [(5, .int (iN i)), (4, .ref ad), (3, .ref ao), (2, .ref m), (1, .ref o), (0, .ref bs)] ⟨rfl, rfl, rfl, rfl, rfl, rfl, trivial⟩ ?_
    exact kk _ WW
set_option maxRecDepth 20000 in
theorem lc_2 (W9 : lwW G P E S b P2 E2 S2 F o m ao ad h) (hi : 0 ≤ i) (hi5 : i + 5 ≤ L) (hL : L ≤ 2560) (hk : k + 1 ≤ 601024) (hn : n + 6 ≤ 7293034)  (kk : ∀ h1, lwW G P E S b P2 E2 S2 F o m ao ad h1 → Ev (lwE G bs L xs ZZ) (k + 1) (n + 6) none h1 2957 [(5, .int (iN i)), (4, .ref ad), (3, .ref ao), (2, .ref m), (1, .ref o), (0, .ref bs)] []) : Ev (lwE G bs L xs ZZ) k n none h 388 [(5, .int (iN i)), (4, .ref ad), (3, .ref ao), (2, .ref m), (1, .ref o), (0, .ref bs)] [] := by
  obtain ⟨D, ⟨x1, x2, x3, x4, x5, x6, x7, x8, x9, X⟩, ⟨sc, ar, Y, hR⟩, ⟨ag, fa⟩, ⟨gd, fd⟩⟩ := W9
  have kc9 : ((k_pointOf P (sv xs (i + 1)) (sv xs (i + 2)))).1 ≤ 2 := by first | exact kc_pointOf | exact kc_pointOf _ | exact kc_pointOf _ _ | exact kc_pointOf _ _ _ | exact kc_pointOf _ _ _ _ | exact kc_pointOf _ _ _ _ _
  have rk : r32 ((((k_pointOf P (sv xs (i + 1)) (sv xs (i + 2)))).1 : Nat) : Int) := ⟨by omega, by omega⟩
  refine e_aload_n dL_law_388 rfl ?_
  refine e_aload_n dL_law_389 rfl ?_
  refine e_iload dL_law_390 rfl ?_
  refine e_iconst dL_law_392 ?_
  refine e_iadd dL_law_393 ?_
  refine e_sld (by omega) (by omega) hL dL_law_394 ?_
  refine e_aload_n dL_law_395 rfl ?_
  refine e_iload dL_law_396 rfl ?_
  refine e_iconst dL_law_398 ?_
  refine e_iadd dL_law_399 ?_
  refine e_sld (by omega) (by omega) hL dL_law_400 ?_
  refine e_aload_n dL_law_401 rfl ?_
  refine e_callH qcL_156 (H_pointOf X fa (by obtain ⟨rfl, rfl, rfl⟩ := D; omega) (r32_sv _ _) (r32_sv _ _)) rfl rfl rfl (g_rm_of rfl hk hn) dL_law_402 (fun E9 z9 h9 w => nomatch w.2.1) (fun v9 z9 h9 w => ?_)
  obtain ⟨rfl, w2, hc, ⟨l1, l2, l3, l4, l5, l6, l7, l8, l9, X1⟩, rfl⟩ := w
  have e2 : v9 = some (.int (iN ((((k_pointOf P (sv xs (i + 1)) (sv xs (i + 2)))).1 : Nat) : Int))) := Sum.inl.inj w2
  subst e2
  refine (show Ev _ _ _ _ _ _ _ (.int (iN ((((k_pointOf P (sv xs (i + 1)) (sv xs (i + 2)))).1 : Nat) : Int)) :: []) from ?_)
  obtain ⟨XC, Y1, ⟨g1, f1, v1⟩, f2⟩ := lw_aft D X1 Y fa fd
  generalize upL G _ _ _ _ = hh at XC Y1 f1 f2 ⊢
  refine e_istore dL_law_405 rfl ?_
  refine e_aload_n dL_law_407 rfl ?_
  refine e_aload_n dL_law_408 rfl ?_
  refine e_iload dL_law_409 rfl ?_
  refine e_iconst dL_law_411 ?_
  refine e_iadd dL_law_412 ?_
  refine e_sld (by omega) (by omega) hL dL_law_413 ?_
  refine e_aload_n dL_law_414 rfl ?_
  refine e_iload dL_law_415 rfl ?_
  refine e_iconst dL_law_417 ?_
  refine e_iadd dL_law_418 ?_
  refine e_sld (by omega) (by omega) hL dL_law_419 ?_
  refine e_callV qcL_159 Y1.obj rfl rfl (M_pointOf Y1 hR (r32_sv _ _) (r32_sv _ _)) rfl rfl rfl (g_rm_of rfl (by show k + 1 + 0 ≤ 601024; omega) (by show n + 6 + 0 ≤ 7293034; omega)) dL_law_420 (fun E9 z9 h9 w => nomatch (show (Sum.inr _ : g_O) = Sum.inl _ from w.2.1)) (fun v9 z9 h9 w => ?_)
  obtain ⟨rfl, w2, sc2, ar2, Y2, R2, c2⟩ := w
  have e2 : v9 = some (.int (iN ((k_pointOf P (sv xs (i + 1)) (sv xs (i + 2)))).2)) := Sum.inl.inj w2
  subst e2
  refine (show Ev _ _ _ _ _ _ _ (.int (iN ((k_pointOf P (sv xs (i + 1)) (sv xs (i + 2)))).2) :: []) from ?_)
  obtain ⟨WW, f3, f4⟩ := lw_end D XC Y2 R2 f1 f2
  refine e_istore dL_law_423 rfl ?_
  refine e_aload_n dL_law_425 rfl ?_
  refine e_pureV qcL_149 Y2.obj rfl rfl (S_thrown Y2) rfl rfl rfl (g_rm_of rfl (by show k + 1 + 0 + 0 ≤ 601024; omega) (by show n + 6 + 0 + 0 ≤ 7293034; omega)) dL_law_426 ?_
  rw [c2]
  refine e_iload dL_law_429 rfl ?_
  refine e_icmp_eq (tgt := 436) rk rk dL_law_431 rfl (fun _ => ?_) (fun c9 => absurd rfl c9)
  refine e_iload dL_law_436 rfl ?_
  refine e_if_ne (tgt := 453) rk dL_law_438 rfl (fun c_438 => ?_) (fun c_438 => ?_)
  · refine e_goto (tgt := 2957) dL_law_453 rfl ?_
    refine e_loc [(5, .int (iN i)), (4, .ref ad), (3, .ref ao), (2, .ref m), (1, .ref o), (0, .ref bs)] ⟨rfl, rfl, rfl, rfl, rfl, rfl, trivial⟩ ?_
    exact kk _ WW
  · have hz : ((k_pointOf P (sv xs (i + 1)) (sv xs (i + 2)))).1 = 0 := by omega
    refine e_aload_n dL_law_441 rfl ?_
    refine e_iconst dL_law_442 ?_
    refine e_laload f3 (by omega) (by omega) rfl dL_law_443 ?_
    have e5 : g1 0 = w32 ((k_pointOf P (sv xs (i + 1)) (sv xs (i + 2)))).2 := v1 hz
    refine (show Ev _ _ _ _ _ _ _ (.long (lI (g1 0)) :: []) from ?_)
    rw [e5]
    refine e_iload dL_law_444 rfl ?_
    rw [← iN_w32 ((k_pointOf P (sv xs (i + 1)) (sv xs (i + 2)))).2]
    refine e_i2l (r32_of _) dL_law_446 ?_
    refine e_lif_eq (tgt := 453) (r64_w32 _) (r64_w32 _) dL_law_447 dL_law_448 rfl (fun _ => ?_) (fun c9 => absurd rfl c9)
    refine e_goto (tgt := 2957) dL_law_453 rfl ?_
    refine e_loc [(5, .int (iN i)), (4, .ref ad), (3, .ref ao), (2, .ref m), (1, .ref o), (0, .ref bs)] ⟨rfl, rfl, rfl, rfl, rfl, rfl, trivial⟩ ?_
    exact kk _ WW
set_option maxRecDepth 20000 in
theorem lc_3 (W9 : lwW G P E S b P2 E2 S2 F o m ao ad h) (hi : 0 ≤ i) (hi5 : i + 5 ≤ L) (hL : L ≤ 2560) (hk : k + 1 ≤ 601024) (hn : n + 6 ≤ 7293034)  (kk : ∀ h1, lwW G P E S b P2 E2 S2 F o m ao ad h1 → Ev (lwE G bs L xs ZZ) (k + 1) (n + 6) none h1 2957 [(5, .int (iN i)), (4, .ref ad), (3, .ref ao), (2, .ref m), (1, .ref o), (0, .ref bs)] []) : Ev (lwE G bs L xs ZZ) k n none h 456 [(5, .int (iN i)), (4, .ref ad), (3, .ref ao), (2, .ref m), (1, .ref o), (0, .ref bs)] [] := by
  obtain ⟨D, ⟨x1, x2, x3, x4, x5, x6, x7, x8, x9, X⟩, ⟨sc, ar, Y, hR⟩, ⟨ag, fa⟩, ⟨gd, fd⟩⟩ := W9
  have kc9 : ((k_count P (sv xs (i + 1)))).1 ≤ 1 := by first | exact kc_count | exact kc_count _ | exact kc_count _ _ | exact kc_count _ _ _ | exact kc_count _ _ _ _ | exact kc_count _ _ _ _ _
  have rk : r32 ((((k_count P (sv xs (i + 1)))).1 : Nat) : Int) := ⟨by omega, by omega⟩
  refine e_aload_n dL_law_456 rfl ?_
  refine e_aload_n dL_law_457 rfl ?_
  refine e_iload dL_law_458 rfl ?_
  refine e_iconst dL_law_460 ?_
  refine e_iadd dL_law_461 ?_
  refine e_sld (by omega) (by omega) hL dL_law_462 ?_
  refine e_aload_n dL_law_463 rfl ?_
  refine e_callH qcL_160 (H_count X fa (by obtain ⟨rfl, rfl, rfl⟩ := D; omega) (r32_sv _ _)) rfl rfl rfl (g_rm_of rfl hk hn) dL_law_464 (fun E9 z9 h9 w => nomatch w.2.1) (fun v9 z9 h9 w => ?_)
  obtain ⟨rfl, w2, hc, ⟨l1, l2, l3, l4, l5, l6, l7, l8, l9, X1⟩, rfl⟩ := w
  have e2 : v9 = some (.int (iN ((((k_count P (sv xs (i + 1)))).1 : Nat) : Int))) := Sum.inl.inj w2
  subst e2
  refine (show Ev _ _ _ _ _ _ _ (.int (iN ((((k_count P (sv xs (i + 1)))).1 : Nat) : Int)) :: []) from ?_)
  obtain ⟨XC, Y1, ⟨g1, f1, v1⟩, f2⟩ := lw_aft D X1 Y fa fd
  generalize upL G _ _ _ _ = hh at XC Y1 f1 f2 ⊢
  refine e_istore dL_law_467 rfl ?_
  refine e_aload_n dL_law_469 rfl ?_
  refine e_aload_n dL_law_470 rfl ?_
  refine e_iload dL_law_471 rfl ?_
  refine e_iconst dL_law_473 ?_
  refine e_iadd dL_law_474 ?_
  refine e_sld (by omega) (by omega) hL dL_law_475 ?_
  refine e_callV qcL_162 Y1.obj rfl rfl (M_count Y1 hR (r32_sv _ _)) rfl rfl rfl (g_rm_of rfl (by show k + 1 + 0 ≤ 601024; omega) (by show n + 6 + 0 ≤ 7293034; omega)) dL_law_476 (fun E9 z9 h9 w => nomatch (show (Sum.inr _ : g_O) = Sum.inl _ from w.2.1)) (fun v9 z9 h9 w => ?_)
  obtain ⟨rfl, w2, sc2, ar2, Y2, R2, c2⟩ := w
  have e2 : v9 = some (.int (iN ((k_count P (sv xs (i + 1)))).2)) := Sum.inl.inj w2
  subst e2
  refine (show Ev _ _ _ _ _ _ _ (.int (iN ((k_count P (sv xs (i + 1)))).2) :: []) from ?_)
  obtain ⟨WW, f3, f4⟩ := lw_end D XC Y2 R2 f1 f2
  refine e_istore dL_law_479 rfl ?_
  refine e_aload_n dL_law_481 rfl ?_
  refine e_pureV qcL_149 Y2.obj rfl rfl (S_thrown Y2) rfl rfl rfl (g_rm_of rfl (by show k + 1 + 0 + 0 ≤ 601024; omega) (by show n + 6 + 0 + 0 ≤ 7293034; omega)) dL_law_482 ?_
  rw [c2]
  refine e_iload dL_law_485 rfl ?_
  refine e_icmp_eq (tgt := 492) rk rk dL_law_487 rfl (fun _ => ?_) (fun c9 => absurd rfl c9)
  refine e_iload dL_law_492 rfl ?_
  refine e_if_ne (tgt := 509) rk dL_law_494 rfl (fun c_494 => ?_) (fun c_494 => ?_)
  · refine e_goto (tgt := 2957) dL_law_509 rfl ?_
    refine e_loc [(5, .int (iN i)), (4, .ref ad), (3, .ref ao), (2, .ref m), (1, .ref o), (0, .ref bs)] ⟨rfl, rfl, rfl, rfl, rfl, rfl, trivial⟩ ?_
    exact kk _ WW
  · have hz : ((k_count P (sv xs (i + 1)))).1 = 0 := by omega
    refine e_aload_n dL_law_497 rfl ?_
    refine e_iconst dL_law_498 ?_
    refine e_laload f3 (by omega) (by omega) rfl dL_law_499 ?_
    have e5 : g1 0 = w32 ((k_count P (sv xs (i + 1)))).2 := v1 hz
    refine (show Ev _ _ _ _ _ _ _ (.long (lI (g1 0)) :: []) from ?_)
    rw [e5]
    refine e_iload dL_law_500 rfl ?_
    rw [← iN_w32 ((k_count P (sv xs (i + 1)))).2]
    refine e_i2l (r32_of _) dL_law_502 ?_
    refine e_lif_eq (tgt := 509) (r64_w32 _) (r64_w32 _) dL_law_503 dL_law_504 rfl (fun _ => ?_) (fun c9 => absurd rfl c9)
    refine e_goto (tgt := 2957) dL_law_509 rfl ?_
    refine e_loc [(5, .int (iN i)), (4, .ref ad), (3, .ref ao), (2, .ref m), (1, .ref o), (0, .ref bs)] ⟨rfl, rfl, rfl, rfl, rfl, rfl, trivial⟩ ?_
    exact kk _ WW
def QM_sorted_hm (P E : PL) (S : Nat → PL) (b : Int) (P2 E2 : PL) (S2 : Nat → PL) (F : PL) : Prop := ∀ (a : Int), ∀ q : Nat, q < cntN P a P.length → ptS P a q P.length 0 = pM (putN P a [] P.length) q
set_option maxRecDepth 20000 in
theorem lc_4 (W9 : lwW G P E S b P2 E2 S2 F o m ao ad h) (hi : 0 ≤ i) (hi5 : i + 5 ≤ L) (hL : L ≤ 2560) (hk : k + 1 ≤ 601024) (hn : n + 6 ≤ 7293034) (Qq_QM_sorted_hm : QM_sorted_hm P E S b P2 E2 S2 F) (kk : ∀ h1, lwW G P E S b P2 E2 S2 F o m ao ad h1 → Ev (lwE G bs L xs ZZ) (k + 1) (n + 6) none h1 2957 [(5, .int (iN i)), (4, .ref ad), (3, .ref ao), (2, .ref m), (1, .ref o), (0, .ref bs)] []) : Ev (lwE G bs L xs ZZ) k n none h 512 [(5, .int (iN i)), (4, .ref ad), (3, .ref ao), (2, .ref m), (1, .ref o), (0, .ref bs)] [] := by
  obtain ⟨D, ⟨x1, x2, x3, x4, x5, x6, x7, x8, x9, X⟩, ⟨sc, ar, Y, hR⟩, ⟨ag, fa⟩, ⟨gd, fd⟩⟩ := W9
  have kc9 : ((k_sorted P (sv xs (i + 1)) (sv xs (i + 2)))).1 ≤ 2 := by first | exact kc_sorted | exact kc_sorted _ | exact kc_sorted _ _ | exact kc_sorted _ _ _ | exact kc_sorted _ _ _ _ | exact kc_sorted _ _ _ _ _
  have rk : r32 ((((k_sorted P (sv xs (i + 1)) (sv xs (i + 2)))).1 : Nat) : Int) := ⟨by omega, by omega⟩
  refine e_aload_n dL_law_512 rfl ?_
  refine e_aload_n dL_law_513 rfl ?_
  refine e_iload dL_law_514 rfl ?_
  refine e_iconst dL_law_516 ?_
  refine e_iadd dL_law_517 ?_
  refine e_sld (by omega) (by omega) hL dL_law_518 ?_
  refine e_aload_n dL_law_519 rfl ?_
  refine e_iload dL_law_520 rfl ?_
  refine e_iconst dL_law_522 ?_
  refine e_iadd dL_law_523 ?_
  refine e_sld (by omega) (by omega) hL dL_law_524 ?_
  refine e_aload_n dL_law_525 rfl ?_
  refine e_callH qcL_163 (H_sorted X fa (by obtain ⟨rfl, rfl, rfl⟩ := D; omega) (r32_sv _ _) (r32_sv _ _)) rfl rfl rfl (g_rm_of rfl hk hn) dL_law_526 (fun E9 z9 h9 w => nomatch w.2.1) (fun v9 z9 h9 w => ?_)
  obtain ⟨rfl, w2, hc, ⟨l1, l2, l3, l4, l5, l6, l7, l8, l9, X1⟩, rfl⟩ := w
  have e2 : v9 = some (.int (iN ((((k_sorted P (sv xs (i + 1)) (sv xs (i + 2)))).1 : Nat) : Int))) := Sum.inl.inj w2
  subst e2
  refine (show Ev _ _ _ _ _ _ _ (.int (iN ((((k_sorted P (sv xs (i + 1)) (sv xs (i + 2)))).1 : Nat) : Int)) :: []) from ?_)
  obtain ⟨XC, Y1, ⟨g1, f1, v1⟩, f2⟩ := lw_aft D X1 Y fa fd
  generalize upL G _ _ _ _ = hh at XC Y1 f1 f2 ⊢
  refine e_istore dL_law_529 rfl ?_
  refine e_aload_n dL_law_531 rfl ?_
  refine e_aload_n dL_law_532 rfl ?_
  refine e_iload dL_law_533 rfl ?_
  refine e_iconst dL_law_535 ?_
  refine e_iadd dL_law_536 ?_
  refine e_sld (by omega) (by omega) hL dL_law_537 ?_
  refine e_aload_n dL_law_538 rfl ?_
  refine e_iload dL_law_539 rfl ?_
  refine e_iconst dL_law_541 ?_
  refine e_iadd dL_law_542 ?_
  refine e_sld (by omega) (by omega) hL dL_law_543 ?_
  refine e_callV qcL_165 Y1.obj rfl rfl (M_sorted Y1 hR (r32_sv _ _) (r32_sv _ _) (Qq_QM_sorted_hm _)) rfl rfl rfl (g_rm_of rfl (by show k + 1 + 0 ≤ 601024; omega) (by show n + 6 + 0 ≤ 7293034; omega)) dL_law_544 (fun E9 z9 h9 w => nomatch (show (Sum.inr _ : g_O) = Sum.inl _ from w.2.1)) (fun v9 z9 h9 w => ?_)
  obtain ⟨rfl, w2, sc2, ar2, Y2, R2, c2⟩ := w
  have e2 : v9 = some (.int (iN ((k_sorted P (sv xs (i + 1)) (sv xs (i + 2)))).2)) := Sum.inl.inj w2
  subst e2
  refine (show Ev _ _ _ _ _ _ _ (.int (iN ((k_sorted P (sv xs (i + 1)) (sv xs (i + 2)))).2) :: []) from ?_)
  obtain ⟨WW, f3, f4⟩ := lw_end D XC Y2 R2 f1 f2
  refine e_istore dL_law_547 rfl ?_
  refine e_aload_n dL_law_549 rfl ?_
  refine e_pureV qcL_149 Y2.obj rfl rfl (S_thrown Y2) rfl rfl rfl (g_rm_of rfl (by show k + 1 + 0 + 0 ≤ 601024; omega) (by show n + 6 + 0 + 0 ≤ 7293034; omega)) dL_law_550 ?_
  rw [c2]
  refine e_iload dL_law_553 rfl ?_
  refine e_icmp_eq (tgt := 560) rk rk dL_law_555 rfl (fun _ => ?_) (fun c9 => absurd rfl c9)
  refine e_iload dL_law_560 rfl ?_
  refine e_if_ne (tgt := 577) rk dL_law_562 rfl (fun c_562 => ?_) (fun c_562 => ?_)
  · refine e_goto (tgt := 2957) dL_law_577 rfl ?_
    refine e_loc [(5, .int (iN i)), (4, .ref ad), (3, .ref ao), (2, .ref m), (1, .ref o), (0, .ref bs)] ⟨rfl, rfl, rfl, rfl, rfl, rfl, trivial⟩ ?_
    exact kk _ WW
  · have hz : ((k_sorted P (sv xs (i + 1)) (sv xs (i + 2)))).1 = 0 := by omega
    refine e_aload_n dL_law_565 rfl ?_
    refine e_iconst dL_law_566 ?_
    refine e_laload f3 (by omega) (by omega) rfl dL_law_567 ?_
    have e5 : g1 0 = w32 ((k_sorted P (sv xs (i + 1)) (sv xs (i + 2)))).2 := v1 hz
    refine (show Ev _ _ _ _ _ _ _ (.long (lI (g1 0)) :: []) from ?_)
    rw [e5]
    refine e_iload dL_law_568 rfl ?_
    rw [← iN_w32 ((k_sorted P (sv xs (i + 1)) (sv xs (i + 2)))).2]
    refine e_i2l (r32_of _) dL_law_570 ?_
    refine e_lif_eq (tgt := 577) (r64_w32 _) (r64_w32 _) dL_law_571 dL_law_572 rfl (fun _ => ?_) (fun c9 => absurd rfl c9)
    refine e_goto (tgt := 2957) dL_law_577 rfl ?_
    refine e_loc [(5, .int (iN i)), (4, .ref ad), (3, .ref ao), (2, .ref m), (1, .ref o), (0, .ref bs)] ⟨rfl, rfl, rfl, rfl, rfl, rfl, trivial⟩ ?_
    exact kk _ WW
def QM_places_hm (P E : PL) (S : Nat → PL) (b : Int) (P2 E2 : PL) (S2 : Nat → PL) (F : PL) : Prop := ∀ (a : Int), plM P a P.length = plN (putN P a [] P.length) (putN P a [] P.length).length
set_option maxRecDepth 20000 in
theorem lc_5 (W9 : lwW G P E S b P2 E2 S2 F o m ao ad h) (hi : 0 ≤ i) (hi5 : i + 5 ≤ L) (hL : L ≤ 2560) (hk : k + 1 ≤ 601024) (hn : n + 6 ≤ 7293034) (Qq_QM_places_hm : QM_places_hm P E S b P2 E2 S2 F) (kk : ∀ h1, lwW G P E S b P2 E2 S2 F o m ao ad h1 → Ev (lwE G bs L xs ZZ) (k + 1) (n + 6) none h1 2957 [(5, .int (iN i)), (4, .ref ad), (3, .ref ao), (2, .ref m), (1, .ref o), (0, .ref bs)] []) : Ev (lwE G bs L xs ZZ) k n none h 580 [(5, .int (iN i)), (4, .ref ad), (3, .ref ao), (2, .ref m), (1, .ref o), (0, .ref bs)] [] := by
  obtain ⟨D, ⟨x1, x2, x3, x4, x5, x6, x7, x8, x9, X⟩, ⟨sc, ar, Y, hR⟩, ⟨ag, fa⟩, ⟨gd, fd⟩⟩ := W9
  have kc9 : ((k_places P (sv xs (i + 1)))).1 ≤ 1 := by first | exact kc_places | exact kc_places _ | exact kc_places _ _ | exact kc_places _ _ _ | exact kc_places _ _ _ _ | exact kc_places _ _ _ _ _
  have rk : r32 ((((k_places P (sv xs (i + 1)))).1 : Nat) : Int) := ⟨by omega, by omega⟩
  refine e_aload_n dL_law_580 rfl ?_
  refine e_aload_n dL_law_581 rfl ?_
  refine e_iload dL_law_582 rfl ?_
  refine e_iconst dL_law_584 ?_
  refine e_iadd dL_law_585 ?_
  refine e_sld (by omega) (by omega) hL dL_law_586 ?_
  refine e_aload_n dL_law_587 rfl ?_
  refine e_callH qcL_166 (H_places X fa (by obtain ⟨rfl, rfl, rfl⟩ := D; omega) (r32_sv _ _)) rfl rfl rfl (g_rm_of rfl hk hn) dL_law_588 (fun E9 z9 h9 w => nomatch w.2.1) (fun v9 z9 h9 w => ?_)
  obtain ⟨rfl, w2, hc, ⟨l1, l2, l3, l4, l5, l6, l7, l8, l9, X1⟩, rfl⟩ := w
  have e2 : v9 = some (.int (iN ((((k_places P (sv xs (i + 1)))).1 : Nat) : Int))) := Sum.inl.inj w2
  subst e2
  refine (show Ev _ _ _ _ _ _ _ (.int (iN ((((k_places P (sv xs (i + 1)))).1 : Nat) : Int)) :: []) from ?_)
  obtain ⟨XC, Y1, ⟨g1, f1, v1⟩, f2⟩ := lw_aft D X1 Y fa fd
  generalize upL G _ _ _ _ = hh at XC Y1 f1 f2 ⊢
  refine e_istore dL_law_591 rfl ?_
  refine e_aload_n dL_law_593 rfl ?_
  refine e_aload_n dL_law_594 rfl ?_
  refine e_iload dL_law_595 rfl ?_
  refine e_iconst dL_law_597 ?_
  refine e_iadd dL_law_598 ?_
  refine e_sld (by omega) (by omega) hL dL_law_599 ?_
  refine e_callV qcL_168 Y1.obj rfl rfl (M_places Y1 hR (r32_sv _ _) (Qq_QM_places_hm _)) rfl rfl rfl (g_rm_of rfl (by show k + 1 + 0 ≤ 601024; omega) (by show n + 6 + 0 ≤ 7293034; omega)) dL_law_600 (fun E9 z9 h9 w => nomatch (show (Sum.inr _ : g_O) = Sum.inl _ from w.2.1)) (fun v9 z9 h9 w => ?_)
  obtain ⟨rfl, w2, sc2, ar2, Y2, R2, c2⟩ := w
  have e2 : v9 = some (.int (iN ((k_places P (sv xs (i + 1)))).2)) := Sum.inl.inj w2
  subst e2
  refine (show Ev _ _ _ _ _ _ _ (.int (iN ((k_places P (sv xs (i + 1)))).2) :: []) from ?_)
  obtain ⟨WW, f3, f4⟩ := lw_end D XC Y2 R2 f1 f2
  refine e_istore dL_law_603 rfl ?_
  refine e_aload_n dL_law_605 rfl ?_
  refine e_pureV qcL_149 Y2.obj rfl rfl (S_thrown Y2) rfl rfl rfl (g_rm_of rfl (by show k + 1 + 0 + 0 ≤ 601024; omega) (by show n + 6 + 0 + 0 ≤ 7293034; omega)) dL_law_606 ?_
  rw [c2]
  refine e_iload dL_law_609 rfl ?_
  refine e_icmp_eq (tgt := 616) rk rk dL_law_611 rfl (fun _ => ?_) (fun c9 => absurd rfl c9)
  refine e_iload dL_law_616 rfl ?_
  refine e_if_ne (tgt := 633) rk dL_law_618 rfl (fun c_618 => ?_) (fun c_618 => ?_)
  · refine e_goto (tgt := 2957) dL_law_633 rfl ?_
    refine e_loc [(5, .int (iN i)), (4, .ref ad), (3, .ref ao), (2, .ref m), (1, .ref o), (0, .ref bs)] ⟨rfl, rfl, rfl, rfl, rfl, rfl, trivial⟩ ?_
    exact kk _ WW
  · have hz : ((k_places P (sv xs (i + 1)))).1 = 0 := by omega
    refine e_aload_n dL_law_621 rfl ?_
    refine e_iconst dL_law_622 ?_
    refine e_laload f3 (by omega) (by omega) rfl dL_law_623 ?_
    have e5 : g1 0 = w32 ((k_places P (sv xs (i + 1)))).2 := v1 hz
    refine (show Ev _ _ _ _ _ _ _ (.long (lI (g1 0)) :: []) from ?_)
    rw [e5]
    refine e_iload dL_law_624 rfl ?_
    rw [← iN_w32 ((k_places P (sv xs (i + 1)))).2]
    refine e_i2l (r32_of _) dL_law_626 ?_
    refine e_lif_eq (tgt := 633) (r64_w32 _) (r64_w32 _) dL_law_627 dL_law_628 rfl (fun _ => ?_) (fun c9 => absurd rfl c9)
    refine e_goto (tgt := 2957) dL_law_633 rfl ?_
    refine e_loc [(5, .int (iN i)), (4, .ref ad), (3, .ref ao), (2, .ref m), (1, .ref o), (0, .ref bs)] ⟨rfl, rfl, rfl, rfl, rfl, rfl, trivial⟩ ?_
    exact kk _ WW
set_option maxRecDepth 20000 in
theorem lc_6 (W9 : lwW G P E S b P2 E2 S2 F o m ao ad h) (hi : 0 ≤ i) (hi5 : i + 5 ≤ L) (hL : L ≤ 2560) (hk : k + 1 ≤ 601024) (hn : n + 6 ≤ 7293034)  (kk : ∀ h1, lwW G P E S b P2 E2 S2 F o m ao ad h1 → Ev (lwE G bs L xs ZZ) (k + 1) (n + 6) none h1 2957 [(5, .int (iN i)), (4, .ref ad), (3, .ref ao), (2, .ref m), (1, .ref o), (0, .ref bs)] []) : Ev (lwE G bs L xs ZZ) k n none h 636 [(5, .int (iN i)), (4, .ref ad), (3, .ref ao), (2, .ref m), (1, .ref o), (0, .ref bs)] [] := by
  obtain ⟨D, ⟨x1, x2, x3, x4, x5, x6, x7, x8, x9, X⟩, ⟨sc, ar, Y, hR⟩, ⟨ag, fa⟩, ⟨gd, fd⟩⟩ := W9
  have kc9 : ((k_turn P (sv xs (i + 1)) (sv xs (i + 2)) (sv xs (i + 3)))).1 ≤ 1 := by first | exact kc_turn | exact kc_turn _ | exact kc_turn _ _ | exact kc_turn _ _ _ | exact kc_turn _ _ _ _ | exact kc_turn _ _ _ _ _
  have rk : r32 ((((k_turn P (sv xs (i + 1)) (sv xs (i + 2)) (sv xs (i + 3)))).1 : Nat) : Int) := ⟨by omega, by omega⟩
  refine e_aload_n dL_law_636 rfl ?_
  refine e_aload_n dL_law_637 rfl ?_
  refine e_iload dL_law_638 rfl ?_
  refine e_iconst dL_law_640 ?_
  refine e_iadd dL_law_641 ?_
  refine e_sld (by omega) (by omega) hL dL_law_642 ?_
  refine e_aload_n dL_law_643 rfl ?_
  refine e_iload dL_law_644 rfl ?_
  refine e_iconst dL_law_646 ?_
  refine e_iadd dL_law_647 ?_
  refine e_sld (by omega) (by omega) hL dL_law_648 ?_
  refine e_aload_n dL_law_649 rfl ?_
  refine e_iload dL_law_650 rfl ?_
  refine e_iconst dL_law_652 ?_
  refine e_iadd dL_law_653 ?_
  refine e_sld (by omega) (by omega) hL dL_law_654 ?_
  refine e_aload_n dL_law_655 rfl ?_
  refine e_callH qcL_169 (H_turn X fa (by obtain ⟨rfl, rfl, rfl⟩ := D; omega) (r32_sv _ _) (r32_sv _ _) (r32_sv _ _)) rfl rfl rfl (g_rm_of rfl hk hn) dL_law_656 (fun E9 z9 h9 w => nomatch w.2.1) (fun v9 z9 h9 w => ?_)
  obtain ⟨rfl, w2, hc, ⟨l1, l2, l3, l4, l5, l6, l7, l8, l9, X1⟩, rfl⟩ := w
  have e2 : v9 = some (.int (iN ((((k_turn P (sv xs (i + 1)) (sv xs (i + 2)) (sv xs (i + 3)))).1 : Nat) : Int))) := Sum.inl.inj w2
  subst e2
  refine (show Ev _ _ _ _ _ _ _ (.int (iN ((((k_turn P (sv xs (i + 1)) (sv xs (i + 2)) (sv xs (i + 3)))).1 : Nat) : Int)) :: []) from ?_)
  obtain ⟨XC, Y1, ⟨g1, f1, v1⟩, f2⟩ := lw_aft D X1 Y fa fd
  generalize upL G _ _ _ _ = hh at XC Y1 f1 f2 ⊢
  refine e_istore dL_law_659 rfl ?_
  refine e_aload_n dL_law_661 rfl ?_
  refine e_aload_n dL_law_662 rfl ?_
  refine e_iload dL_law_663 rfl ?_
  refine e_iconst dL_law_665 ?_
  refine e_iadd dL_law_666 ?_
  refine e_sld (by omega) (by omega) hL dL_law_667 ?_
  refine e_aload_n dL_law_668 rfl ?_
  refine e_iload dL_law_669 rfl ?_
  refine e_iconst dL_law_671 ?_
  refine e_iadd dL_law_672 ?_
  refine e_sld (by omega) (by omega) hL dL_law_673 ?_
  refine e_aload_n dL_law_674 rfl ?_
  refine e_iload dL_law_675 rfl ?_
  refine e_iconst dL_law_677 ?_
  refine e_iadd dL_law_678 ?_
  refine e_sld (by omega) (by omega) hL dL_law_679 ?_
  refine e_callV qcL_171 Y1.obj rfl rfl (M_turn Y1 hR (r32_sv _ _) (r32_sv _ _) (r32_sv _ _)) rfl rfl rfl (g_rm_of rfl (by show k + 1 + 0 ≤ 601024; omega) (by show n + 6 + 0 ≤ 7293034; omega)) dL_law_680 (fun E9 z9 h9 w => nomatch (show (Sum.inr _ : g_O) = Sum.inl _ from w.2.1)) (fun v9 z9 h9 w => ?_)
  obtain ⟨rfl, w2, sc2, ar2, Y2, R2, c2⟩ := w
  have e2 : v9 = some (.int (iN ((k_turn P (sv xs (i + 1)) (sv xs (i + 2)) (sv xs (i + 3)))).2)) := Sum.inl.inj w2
  subst e2
  refine (show Ev _ _ _ _ _ _ _ (.int (iN ((k_turn P (sv xs (i + 1)) (sv xs (i + 2)) (sv xs (i + 3)))).2) :: []) from ?_)
  obtain ⟨WW, f3, f4⟩ := lw_end D XC Y2 R2 f1 f2
  refine e_istore dL_law_683 rfl ?_
  refine e_aload_n dL_law_685 rfl ?_
  refine e_pureV qcL_149 Y2.obj rfl rfl (S_thrown Y2) rfl rfl rfl (g_rm_of rfl (by show k + 1 + 0 + 0 ≤ 601024; omega) (by show n + 6 + 0 + 0 ≤ 7293034; omega)) dL_law_686 ?_
  rw [c2]
  refine e_iload dL_law_689 rfl ?_
  refine e_icmp_eq (tgt := 696) rk rk dL_law_691 rfl (fun _ => ?_) (fun c9 => absurd rfl c9)
  refine e_iload dL_law_696 rfl ?_
  refine e_if_ne (tgt := 713) rk dL_law_698 rfl (fun c_698 => ?_) (fun c_698 => ?_)
  · refine e_goto (tgt := 2957) dL_law_713 rfl ?_
    refine e_loc [(5, .int (iN i)), (4, .ref ad), (3, .ref ao), (2, .ref m), (1, .ref o), (0, .ref bs)] ⟨rfl, rfl, rfl, rfl, rfl, rfl, trivial⟩ ?_
    exact kk _ WW
  · have hz : ((k_turn P (sv xs (i + 1)) (sv xs (i + 2)) (sv xs (i + 3)))).1 = 0 := by omega
    refine e_aload_n dL_law_701 rfl ?_
    refine e_iconst dL_law_702 ?_
    refine e_laload f3 (by omega) (by omega) rfl dL_law_703 ?_
    have e5 : g1 0 = w32 ((k_turn P (sv xs (i + 1)) (sv xs (i + 2)) (sv xs (i + 3)))).2 := v1 hz
    refine (show Ev _ _ _ _ _ _ _ (.long (lI (g1 0)) :: []) from ?_)
    rw [e5]
    refine e_iload dL_law_704 rfl ?_
    rw [← iN_w32 ((k_turn P (sv xs (i + 1)) (sv xs (i + 2)) (sv xs (i + 3)))).2]
    refine e_i2l (r32_of _) dL_law_706 ?_
    refine e_lif_eq (tgt := 713) (r64_w32 _) (r64_w32 _) dL_law_707 dL_law_708 rfl (fun _ => ?_) (fun c9 => absurd rfl c9)
    refine e_goto (tgt := 2957) dL_law_713 rfl ?_
    refine e_loc [(5, .int (iN i)), (4, .ref ad), (3, .ref ao), (2, .ref m), (1, .ref o), (0, .ref bs)] ⟨rfl, rfl, rfl, rfl, rfl, rfl, trivial⟩ ?_
    exact kk _ WW
def QM_hull_hm (P E : PL) (S : Nat → PL) (b : Int) (P2 E2 : PL) (S2 : Nat → PL) (F : PL) : Prop := ∀ (a : Int), cntN P a P.length ≠ 0 → gwH (lhN P a P.length) (wrapN 61 (putN P a [] P.length))
set_option maxRecDepth 20000 in
theorem lc_7 (W9 : lwW G P E S b P2 E2 S2 F o m ao ad h) (hi : 0 ≤ i) (hi5 : i + 5 ≤ L) (hL : L ≤ 2560) (hk : k + 1 ≤ 601024) (hn : n + 6 ≤ 7293034) (Qq_QM_hull_hm : QM_hull_hm P E S b P2 E2 S2 F) (kk : ∀ h1, lwW G P E S b P2 E2 S2 (s_hull P (sv xs (i + 1)) F) o m ao ad h1 → Ev (lwE G bs L xs ZZ) (k + 1) (n + 6) none h1 2957 [(5, .int (iN i)), (4, .ref ad), (3, .ref ao), (2, .ref m), (1, .ref o), (0, .ref bs)] []) : Ev (lwE G bs L xs ZZ) k n none h 716 [(5, .int (iN i)), (4, .ref ad), (3, .ref ao), (2, .ref m), (1, .ref o), (0, .ref bs)] [] := by
  obtain ⟨D, ⟨x1, x2, x3, x4, x5, x6, x7, x8, x9, X⟩, ⟨sc, ar, Y, hR⟩, ⟨ag, fa⟩, ⟨gd, fd⟩⟩ := W9
  have kc9 : ((k_hull P (sv xs (i + 1)))).1 ≤ 2 := by first | exact kc_hull | exact kc_hull _ | exact kc_hull _ _ | exact kc_hull _ _ _ | exact kc_hull _ _ _ _ | exact kc_hull _ _ _ _ _
  have rk : r32 ((((k_hull P (sv xs (i + 1)))).1 : Nat) : Int) := ⟨by omega, by omega⟩
  refine e_aload_n dL_law_716 rfl ?_
  refine e_aload_n dL_law_717 rfl ?_
  refine e_iload dL_law_718 rfl ?_
  refine e_iconst dL_law_720 ?_
  refine e_iadd dL_law_721 ?_
  refine e_sld (by omega) (by omega) hL dL_law_722 ?_
  refine e_aload_n dL_law_723 rfl ?_
  refine e_callH qcL_172 (H_hull X fa (by obtain ⟨rfl, rfl, rfl⟩ := D; omega) (r32_sv _ _)) rfl rfl rfl (g_rm_of rfl hk hn) dL_law_724 (fun E9 z9 h9 w => nomatch w.2.1) (fun v9 z9 h9 w => ?_)
  obtain ⟨rfl, w2, hc, ⟨l1, l2, l3, l4, l5, l6, l7, l8, l9, X1⟩, rfl⟩ := w
  have e2 : v9 = some (.int (iN ((((k_hull P (sv xs (i + 1)))).1 : Nat) : Int))) := Sum.inl.inj w2
  subst e2
  refine (show Ev _ _ _ _ _ _ _ (.int (iN ((((k_hull P (sv xs (i + 1)))).1 : Nat) : Int)) :: []) from ?_)
  obtain ⟨XC, Y1, ⟨g1, f1, v1⟩, f2⟩ := lw_aft D X1 Y fa fd
  generalize upL G _ _ _ _ = hh at XC Y1 f1 f2 ⊢
  refine e_istore dL_law_727 rfl ?_
  refine e_aload_n dL_law_729 rfl ?_
  refine e_aload_n dL_law_730 rfl ?_
  refine e_iload dL_law_731 rfl ?_
  refine e_iconst dL_law_733 ?_
  refine e_iadd dL_law_734 ?_
  refine e_sld (by omega) (by omega) hL dL_law_735 ?_
  refine e_callV qcL_174 Y1.obj rfl rfl (M_hull Y1 hR (r32_sv _ _) (Qq_QM_hull_hm _)) rfl rfl rfl (g_rm_of rfl (by show k + 1 + 0 ≤ 601024; omega) (by show n + 6 + 0 ≤ 7293034; omega)) dL_law_736 (fun E9 z9 h9 w => nomatch (show (Sum.inr _ : g_O) = Sum.inl _ from w.2.1)) (fun v9 z9 h9 w => ?_)
  obtain ⟨rfl, w2, sc2, ar2, Y2, R2, c2⟩ := w
  have e2 : v9 = some (.int (iN ((k_hull P (sv xs (i + 1)))).2)) := Sum.inl.inj w2
  subst e2
  refine (show Ev _ _ _ _ _ _ _ (.int (iN ((k_hull P (sv xs (i + 1)))).2) :: []) from ?_)
  obtain ⟨WW, f3, f4⟩ := lw_end D XC Y2 R2 f1 f2
  refine e_istore dL_law_739 rfl ?_
  refine e_aload_n dL_law_741 rfl ?_
  refine e_pureV qcL_149 Y2.obj rfl rfl (S_thrown Y2) rfl rfl rfl (g_rm_of rfl (by show k + 1 + 0 + 0 ≤ 601024; omega) (by show n + 6 + 0 + 0 ≤ 7293034; omega)) dL_law_742 ?_
  rw [c2]
  refine e_iload dL_law_745 rfl ?_
  refine e_icmp_eq (tgt := 752) rk rk dL_law_747 rfl (fun _ => ?_) (fun c9 => absurd rfl c9)
  refine e_iload dL_law_752 rfl ?_
  refine e_if_ne (tgt := 769) rk dL_law_754 rfl (fun c_754 => ?_) (fun c_754 => ?_)
  · refine e_goto (tgt := 2957) dL_law_769 rfl ?_
    refine e_loc [(5, .int (iN i)), (4, .ref ad), (3, .ref ao), (2, .ref m), (1, .ref o), (0, .ref bs)] ⟨rfl, rfl, rfl, rfl, rfl, rfl, trivial⟩ ?_
    exact kk _ WW
  · have hz : ((k_hull P (sv xs (i + 1)))).1 = 0 := by omega
    refine e_aload_n dL_law_757 rfl ?_
    refine e_iconst dL_law_758 ?_
    refine e_laload f3 (by omega) (by omega) rfl dL_law_759 ?_
    have e5 : g1 0 = w32 ((k_hull P (sv xs (i + 1)))).2 := v1 hz
    refine (show Ev _ _ _ _ _ _ _ (.long (lI (g1 0)) :: []) from ?_)
    rw [e5]
    refine e_iload dL_law_760 rfl ?_
    rw [← iN_w32 ((k_hull P (sv xs (i + 1)))).2]
    refine e_i2l (r32_of _) dL_law_762 ?_
    refine e_lif_eq (tgt := 769) (r64_w32 _) (r64_w32 _) dL_law_763 dL_law_764 rfl (fun _ => ?_) (fun c9 => absurd rfl c9)
    refine e_goto (tgt := 2957) dL_law_769 rfl ?_
    refine e_loc [(5, .int (iN i)), (4, .ref ad), (3, .ref ao), (2, .ref m), (1, .ref o), (0, .ref bs)] ⟨rfl, rfl, rfl, rfl, rfl, rfl, trivial⟩ ?_
    exact kk _ WW
def QM_join_hm (P E : PL) (S : Nat → PL) (b : Int) (P2 E2 : PL) (S2 : Nat → PL) (F : PL) : Prop := ∀ (a : Int) (b1 : Int), fl2 P a b1 → gwH (lhN P a P.length ++ lhN P b1 P.length) (wrapN 61 (jnL P a b1))
set_option maxRecDepth 20000 in
theorem lc_8 (W9 : lwW G P E S b P2 E2 S2 F o m ao ad h) (hi : 0 ≤ i) (hi5 : i + 5 ≤ L) (hL : L ≤ 2560) (hk : k + 1 ≤ 601024) (hn : n + 6 ≤ 7293034) (Qq_QM_join_hm : QM_join_hm P E S b P2 E2 S2 F) (kk : ∀ h1, lwW G P E S b P2 E2 S2 (s_join P (sv xs (i + 1)) (sv xs (i + 2)) F) o m ao ad h1 → Ev (lwE G bs L xs ZZ) (k + 1) (n + 6) none h1 2957 [(5, .int (iN i)), (4, .ref ad), (3, .ref ao), (2, .ref m), (1, .ref o), (0, .ref bs)] []) : Ev (lwE G bs L xs ZZ) k n none h 772 [(5, .int (iN i)), (4, .ref ad), (3, .ref ao), (2, .ref m), (1, .ref o), (0, .ref bs)] [] := by
  obtain ⟨D, ⟨x1, x2, x3, x4, x5, x6, x7, x8, x9, X⟩, ⟨sc, ar, Y, hR⟩, ⟨ag, fa⟩, ⟨gd, fd⟩⟩ := W9
  have kc9 : ((k_join P (sv xs (i + 1)) (sv xs (i + 2)))).1 ≤ 2 := by first | exact kc_join | exact kc_join _ | exact kc_join _ _ | exact kc_join _ _ _ | exact kc_join _ _ _ _ | exact kc_join _ _ _ _ _
  have rk : r32 ((((k_join P (sv xs (i + 1)) (sv xs (i + 2)))).1 : Nat) : Int) := ⟨by omega, by omega⟩
  refine e_aload_n dL_law_772 rfl ?_
  refine e_aload_n dL_law_773 rfl ?_
  refine e_iload dL_law_774 rfl ?_
  refine e_iconst dL_law_776 ?_
  refine e_iadd dL_law_777 ?_
  refine e_sld (by omega) (by omega) hL dL_law_778 ?_
  refine e_aload_n dL_law_779 rfl ?_
  refine e_iload dL_law_780 rfl ?_
  refine e_iconst dL_law_782 ?_
  refine e_iadd dL_law_783 ?_
  refine e_sld (by omega) (by omega) hL dL_law_784 ?_
  refine e_aload_n dL_law_785 rfl ?_
  refine e_callH qcL_175 (H_join X fa (by obtain ⟨rfl, rfl, rfl⟩ := D; omega) (r32_sv _ _) (r32_sv _ _)) rfl rfl rfl (g_rm_of rfl hk hn) dL_law_786 (fun E9 z9 h9 w => nomatch w.2.1) (fun v9 z9 h9 w => ?_)
  obtain ⟨rfl, w2, hc, ⟨l1, l2, l3, l4, l5, l6, l7, l8, l9, X1⟩, rfl⟩ := w
  have e2 : v9 = some (.int (iN ((((k_join P (sv xs (i + 1)) (sv xs (i + 2)))).1 : Nat) : Int))) := Sum.inl.inj w2
  subst e2
  refine (show Ev _ _ _ _ _ _ _ (.int (iN ((((k_join P (sv xs (i + 1)) (sv xs (i + 2)))).1 : Nat) : Int)) :: []) from ?_)
  obtain ⟨XC, Y1, ⟨g1, f1, v1⟩, f2⟩ := lw_aft D X1 Y fa fd
  generalize upL G _ _ _ _ = hh at XC Y1 f1 f2 ⊢
  refine e_istore dL_law_789 rfl ?_
  refine e_aload_n dL_law_791 rfl ?_
  refine e_aload_n dL_law_792 rfl ?_
  refine e_iload dL_law_793 rfl ?_
  refine e_iconst dL_law_795 ?_
  refine e_iadd dL_law_796 ?_
  refine e_sld (by omega) (by omega) hL dL_law_797 ?_
  refine e_aload_n dL_law_798 rfl ?_
  refine e_iload dL_law_799 rfl ?_
  refine e_iconst dL_law_801 ?_
  refine e_iadd dL_law_802 ?_
  refine e_sld (by omega) (by omega) hL dL_law_803 ?_
  refine e_callV qcL_177 Y1.obj rfl rfl (M_join Y1 hR (r32_sv _ _) (r32_sv _ _) (Qq_QM_join_hm _ _)) rfl rfl rfl (g_rm_of rfl (by show k + 1 + 0 ≤ 601024; omega) (by show n + 6 + 0 ≤ 7293034; omega)) dL_law_804 (fun E9 z9 h9 w => nomatch (show (Sum.inr _ : g_O) = Sum.inl _ from w.2.1)) (fun v9 z9 h9 w => ?_)
  obtain ⟨rfl, w2, sc2, ar2, Y2, R2, c2⟩ := w
  have e2 : v9 = some (.int (iN ((k_join P (sv xs (i + 1)) (sv xs (i + 2)))).2)) := Sum.inl.inj w2
  subst e2
  refine (show Ev _ _ _ _ _ _ _ (.int (iN ((k_join P (sv xs (i + 1)) (sv xs (i + 2)))).2) :: []) from ?_)
  obtain ⟨WW, f3, f4⟩ := lw_end D XC Y2 R2 f1 f2
  refine e_istore dL_law_807 rfl ?_
  refine e_aload_n dL_law_809 rfl ?_
  refine e_pureV qcL_149 Y2.obj rfl rfl (S_thrown Y2) rfl rfl rfl (g_rm_of rfl (by show k + 1 + 0 + 0 ≤ 601024; omega) (by show n + 6 + 0 + 0 ≤ 7293034; omega)) dL_law_810 ?_
  rw [c2]
  refine e_iload dL_law_813 rfl ?_
  refine e_icmp_eq (tgt := 820) rk rk dL_law_815 rfl (fun _ => ?_) (fun c9 => absurd rfl c9)
  refine e_iload dL_law_820 rfl ?_
  refine e_if_ne (tgt := 837) rk dL_law_822 rfl (fun c_822 => ?_) (fun c_822 => ?_)
  · refine e_goto (tgt := 2957) dL_law_837 rfl ?_
    refine e_loc [(5, .int (iN i)), (4, .ref ad), (3, .ref ao), (2, .ref m), (1, .ref o), (0, .ref bs)] ⟨rfl, rfl, rfl, rfl, rfl, rfl, trivial⟩ ?_
    exact kk _ WW
  · have hz : ((k_join P (sv xs (i + 1)) (sv xs (i + 2)))).1 = 0 := by omega
    refine e_aload_n dL_law_825 rfl ?_
    refine e_iconst dL_law_826 ?_
    refine e_laload f3 (by omega) (by omega) rfl dL_law_827 ?_
    have e5 : g1 0 = w32 ((k_join P (sv xs (i + 1)) (sv xs (i + 2)))).2 := v1 hz
    refine (show Ev _ _ _ _ _ _ _ (.long (lI (g1 0)) :: []) from ?_)
    rw [e5]
    refine e_iload dL_law_828 rfl ?_
    rw [← iN_w32 ((k_join P (sv xs (i + 1)) (sv xs (i + 2)))).2]
    refine e_i2l (r32_of _) dL_law_830 ?_
    refine e_lif_eq (tgt := 837) (r64_w32 _) (r64_w32 _) dL_law_831 dL_law_832 rfl (fun _ => ?_) (fun c9 => absurd rfl c9)
    refine e_goto (tgt := 2957) dL_law_837 rfl ?_
    refine e_loc [(5, .int (iN i)), (4, .ref ad), (3, .ref ao), (2, .ref m), (1, .ref o), (0, .ref bs)] ⟨rfl, rfl, rfl, rfl, rfl, rfl, trivial⟩ ?_
    exact kk _ WW
def QC_sum_hh (P E : PL) (S : Nat → PL) (b : Int) (P2 E2 : PL) (S2 : Nat → PL) (F : PL) : Prop := ∀ v, cntN P v P.length ≠ 0 → okH (wrapN 61 (putN P v [] P.length)) ∧ 0 < (wrapN 61 (putN P v [] P.length)).length
def QM_sum_hm (P E : PL) (S : Nat → PL) (b : Int) (P2 E2 : PL) (S2 : Nat → PL) (F : PL) : Prop := ∀ (a : Int) (b1 : Int), fl2 P a b1 → gwH (smO P a b1 P.length) (smL P a b1)
set_option maxRecDepth 20000 in
theorem lc_9 (W9 : lwW G P E S b P2 E2 S2 F o m ao ad h) (hi : 0 ≤ i) (hi5 : i + 5 ≤ L) (hL : L ≤ 2560) (hk : k + 1 ≤ 601024) (hn : n + 6 ≤ 7293034) (Qq_QC_sum_hh : QC_sum_hh P E S b P2 E2 S2 F) (Qq_QM_sum_hm : QM_sum_hm P E S b P2 E2 S2 F) (kk : ∀ h1, lwW G P E S b P2 E2 S2 (s_sum P (sv xs (i + 1)) (sv xs (i + 2)) F) o m ao ad h1 → Ev (lwE G bs L xs ZZ) (k + 1) (n + 6) none h1 2957 [(5, .int (iN i)), (4, .ref ad), (3, .ref ao), (2, .ref m), (1, .ref o), (0, .ref bs)] []) : Ev (lwE G bs L xs ZZ) k n none h 840 [(5, .int (iN i)), (4, .ref ad), (3, .ref ao), (2, .ref m), (1, .ref o), (0, .ref bs)] [] := by
  obtain ⟨D, ⟨x1, x2, x3, x4, x5, x6, x7, x8, x9, X⟩, ⟨sc, ar, Y, hR⟩, ⟨ag, fa⟩, ⟨gd, fd⟩⟩ := W9
  have kc9 : ((k_sum P (sv xs (i + 1)) (sv xs (i + 2)))).1 ≤ 2 := by first | exact kc_sum | exact kc_sum _ | exact kc_sum _ _ | exact kc_sum _ _ _ | exact kc_sum _ _ _ _ | exact kc_sum _ _ _ _ _
  have rk : r32 ((((k_sum P (sv xs (i + 1)) (sv xs (i + 2)))).1 : Nat) : Int) := ⟨by omega, by omega⟩
  refine e_aload_n dL_law_840 rfl ?_
  refine e_aload_n dL_law_841 rfl ?_
  refine e_iload dL_law_842 rfl ?_
  refine e_iconst dL_law_844 ?_
  refine e_iadd dL_law_845 ?_
  refine e_sld (by omega) (by omega) hL dL_law_846 ?_
  refine e_aload_n dL_law_847 rfl ?_
  refine e_iload dL_law_848 rfl ?_
  refine e_iconst dL_law_850 ?_
  refine e_iadd dL_law_851 ?_
  refine e_sld (by omega) (by omega) hL dL_law_852 ?_
  refine e_aload_n dL_law_853 rfl ?_
  refine e_callH qcL_178 (H_sum X fa (by obtain ⟨rfl, rfl, rfl⟩ := D; omega) (r32_sv _ _) (r32_sv _ _) Qq_QC_sum_hh) rfl rfl rfl (g_rm_of rfl hk hn) dL_law_854 (fun E9 z9 h9 w => nomatch w.2.1) (fun v9 z9 h9 w => ?_)
  obtain ⟨rfl, w2, hc, ⟨l1, l2, l3, l4, l5, l6, l7, l8, l9, X1⟩, rfl⟩ := w
  have e2 : v9 = some (.int (iN ((((k_sum P (sv xs (i + 1)) (sv xs (i + 2)))).1 : Nat) : Int))) := Sum.inl.inj w2
  subst e2
  refine (show Ev _ _ _ _ _ _ _ (.int (iN ((((k_sum P (sv xs (i + 1)) (sv xs (i + 2)))).1 : Nat) : Int)) :: []) from ?_)
  obtain ⟨XC, Y1, ⟨g1, f1, v1⟩, f2⟩ := lw_aft D X1 Y fa fd
  generalize upL G _ _ _ _ = hh at XC Y1 f1 f2 ⊢
  refine e_istore dL_law_857 rfl ?_
  refine e_aload_n dL_law_859 rfl ?_
  refine e_aload_n dL_law_860 rfl ?_
  refine e_iload dL_law_861 rfl ?_
  refine e_iconst dL_law_863 ?_
  refine e_iadd dL_law_864 ?_
  refine e_sld (by omega) (by omega) hL dL_law_865 ?_
  refine e_aload_n dL_law_866 rfl ?_
  refine e_iload dL_law_867 rfl ?_
  refine e_iconst dL_law_869 ?_
  refine e_iadd dL_law_870 ?_
  refine e_sld (by omega) (by omega) hL dL_law_871 ?_
  refine e_callV qcL_180 Y1.obj rfl rfl (M_sum Y1 hR (r32_sv _ _) (r32_sv _ _) (Qq_QM_sum_hm _ _)) rfl rfl rfl (g_rm_of rfl (by show k + 1 + 0 ≤ 601024; omega) (by show n + 6 + 0 ≤ 7293034; omega)) dL_law_872 (fun E9 z9 h9 w => nomatch (show (Sum.inr _ : g_O) = Sum.inl _ from w.2.1)) (fun v9 z9 h9 w => ?_)
  obtain ⟨rfl, w2, sc2, ar2, Y2, R2, c2⟩ := w
  have e2 : v9 = some (.int (iN ((k_sum P (sv xs (i + 1)) (sv xs (i + 2)))).2)) := Sum.inl.inj w2
  subst e2
  refine (show Ev _ _ _ _ _ _ _ (.int (iN ((k_sum P (sv xs (i + 1)) (sv xs (i + 2)))).2) :: []) from ?_)
  obtain ⟨WW, f3, f4⟩ := lw_end D XC Y2 R2 f1 f2
  refine e_istore dL_law_875 rfl ?_
  refine e_aload_n dL_law_877 rfl ?_
  refine e_pureV qcL_149 Y2.obj rfl rfl (S_thrown Y2) rfl rfl rfl (g_rm_of rfl (by show k + 1 + 0 + 0 ≤ 601024; omega) (by show n + 6 + 0 + 0 ≤ 7293034; omega)) dL_law_878 ?_
  rw [c2]
  refine e_iload dL_law_881 rfl ?_
  refine e_icmp_eq (tgt := 888) rk rk dL_law_883 rfl (fun _ => ?_) (fun c9 => absurd rfl c9)
  refine e_iload dL_law_888 rfl ?_
  refine e_if_ne (tgt := 905) rk dL_law_890 rfl (fun c_890 => ?_) (fun c_890 => ?_)
  · refine e_goto (tgt := 2957) dL_law_905 rfl ?_
    refine e_loc [(5, .int (iN i)), (4, .ref ad), (3, .ref ao), (2, .ref m), (1, .ref o), (0, .ref bs)] ⟨rfl, rfl, rfl, rfl, rfl, rfl, trivial⟩ ?_
    exact kk _ WW
  · have hz : ((k_sum P (sv xs (i + 1)) (sv xs (i + 2)))).1 = 0 := by omega
    refine e_aload_n dL_law_893 rfl ?_
    refine e_iconst dL_law_894 ?_
    refine e_laload f3 (by omega) (by omega) rfl dL_law_895 ?_
    have e5 : g1 0 = w32 ((k_sum P (sv xs (i + 1)) (sv xs (i + 2)))).2 := v1 hz
    refine (show Ev _ _ _ _ _ _ _ (.long (lI (g1 0)) :: []) from ?_)
    rw [e5]
    refine e_iload dL_law_896 rfl ?_
    rw [← iN_w32 ((k_sum P (sv xs (i + 1)) (sv xs (i + 2)))).2]
    refine e_i2l (r32_of _) dL_law_898 ?_
    refine e_lif_eq (tgt := 905) (r64_w32 _) (r64_w32 _) dL_law_899 dL_law_900 rfl (fun _ => ?_) (fun c9 => absurd rfl c9)
    refine e_goto (tgt := 2957) dL_law_905 rfl ?_
    refine e_loc [(5, .int (iN i)), (4, .ref ad), (3, .ref ao), (2, .ref m), (1, .ref o), (0, .ref bs)] ⟨rfl, rfl, rfl, rfl, rfl, rfl, trivial⟩ ?_
    exact kk _ WW
def QM_layers_hg (P E : PL) (S : Nat → PL) (b : Int) (P2 E2 : PL) (S2 : Nat → PL) (F : PL) : Prop := ∀ (a : Int), ∀ k, ∃ n, gwc (lyQ P a k) n
def QM_layers_hm (P E : PL) (S : Nat → PL) (b : Int) (P2 E2 : PL) (S2 : Nat → PL) (F : PL) : Prop := ∀ (a : Int), lyS P a (lyC 60 (putN P a [] P.length))
set_option maxRecDepth 20000 in
theorem lc_10 (W9 : lwW G P E S b P2 E2 S2 F o m ao ad h) (hi : 0 ≤ i) (hi5 : i + 5 ≤ L) (hL : L ≤ 2560) (hk : k + 1 ≤ 601024) (hn : n + 6 ≤ 7293034) (Qq_QM_layers_hg : QM_layers_hg P E S b P2 E2 S2 F) (Qq_QM_layers_hm : QM_layers_hm P E S b P2 E2 S2 F) (kk : ∀ h1, lwW G P E S b P2 E2 S2 F o m ao ad h1 → Ev (lwE G bs L xs ZZ) (k + 1) (n + 6) none h1 2957 [(5, .int (iN i)), (4, .ref ad), (3, .ref ao), (2, .ref m), (1, .ref o), (0, .ref bs)] []) : Ev (lwE G bs L xs ZZ) k n none h 908 [(5, .int (iN i)), (4, .ref ad), (3, .ref ao), (2, .ref m), (1, .ref o), (0, .ref bs)] [] := by
  obtain ⟨D, ⟨x1, x2, x3, x4, x5, x6, x7, x8, x9, X⟩, ⟨sc, ar, Y, hR⟩, ⟨ag, fa⟩, ⟨gd, fd⟩⟩ := W9
  have kc9 : ((k_layers P (sv xs (i + 1)))).1 ≤ 1 := by first | exact kc_layers | exact kc_layers _ | exact kc_layers _ _ | exact kc_layers _ _ _ | exact kc_layers _ _ _ _ | exact kc_layers _ _ _ _ _
  have rk : r32 ((((k_layers P (sv xs (i + 1)))).1 : Nat) : Int) := ⟨by omega, by omega⟩
  refine e_aload_n dL_law_908 rfl ?_
  refine e_aload_n dL_law_909 rfl ?_
  refine e_iload dL_law_910 rfl ?_
  refine e_iconst dL_law_912 ?_
  refine e_iadd dL_law_913 ?_
  refine e_sld (by omega) (by omega) hL dL_law_914 ?_
  refine e_aload_n dL_law_915 rfl ?_
  refine e_callH qcL_181 (H_layers X fa (by obtain ⟨rfl, rfl, rfl⟩ := D; omega) (r32_sv _ _)) rfl rfl rfl (g_rm_of rfl hk hn) dL_law_916 (fun E9 z9 h9 w => nomatch w.2.1) (fun v9 z9 h9 w => ?_)
  obtain ⟨rfl, w2, hc, ⟨l1, l2, l3, l4, l5, l6, l7, l8, l9, X1⟩, rfl⟩ := w
  have e2 : v9 = some (.int (iN ((((k_layers P (sv xs (i + 1)))).1 : Nat) : Int))) := Sum.inl.inj w2
  subst e2
  refine (show Ev _ _ _ _ _ _ _ (.int (iN ((((k_layers P (sv xs (i + 1)))).1 : Nat) : Int)) :: []) from ?_)
  obtain ⟨XC, Y1, ⟨g1, f1, v1⟩, f2⟩ := lw_aft D X1 Y fa fd
  generalize upL G _ _ _ _ = hh at XC Y1 f1 f2 ⊢
  refine e_istore dL_law_919 rfl ?_
  refine e_aload_n dL_law_921 rfl ?_
  refine e_aload_n dL_law_922 rfl ?_
  refine e_iload dL_law_923 rfl ?_
  refine e_iconst dL_law_925 ?_
  refine e_iadd dL_law_926 ?_
  refine e_sld (by omega) (by omega) hL dL_law_927 ?_
  refine e_callV qcL_183 Y1.obj rfl rfl (M_layers Y1 hR (r32_sv _ _) (Qq_QM_layers_hg _) (Qq_QM_layers_hm _)) rfl rfl rfl (g_rm_of rfl (by show k + 1 + 0 ≤ 601024; omega) (by show n + 6 + 0 ≤ 7293034; omega)) dL_law_928 (fun E9 z9 h9 w => nomatch (show (Sum.inr _ : g_O) = Sum.inl _ from w.2.1)) (fun v9 z9 h9 w => ?_)
  obtain ⟨rfl, w2, sc2, ar2, Y2, R2, c2⟩ := w
  have e2 : v9 = some (.int (iN ((k_layers P (sv xs (i + 1)))).2)) := Sum.inl.inj w2
  subst e2
  refine (show Ev _ _ _ _ _ _ _ (.int (iN ((k_layers P (sv xs (i + 1)))).2) :: []) from ?_)
  obtain ⟨WW, f3, f4⟩ := lw_end D XC Y2 R2 f1 f2
  refine e_istore dL_law_931 rfl ?_
  refine e_aload_n dL_law_933 rfl ?_
  refine e_pureV qcL_149 Y2.obj rfl rfl (S_thrown Y2) rfl rfl rfl (g_rm_of rfl (by show k + 1 + 0 + 0 ≤ 601024; omega) (by show n + 6 + 0 + 0 ≤ 7293034; omega)) dL_law_934 ?_
  rw [c2]
  refine e_iload dL_law_937 rfl ?_
  refine e_icmp_eq (tgt := 944) rk rk dL_law_939 rfl (fun _ => ?_) (fun c9 => absurd rfl c9)
  refine e_iload dL_law_944 rfl ?_
  refine e_if_ne (tgt := 961) rk dL_law_946 rfl (fun c_946 => ?_) (fun c_946 => ?_)
  · refine e_goto (tgt := 2957) dL_law_961 rfl ?_
    refine e_loc [(5, .int (iN i)), (4, .ref ad), (3, .ref ao), (2, .ref m), (1, .ref o), (0, .ref bs)] ⟨rfl, rfl, rfl, rfl, rfl, rfl, trivial⟩ ?_
    exact kk _ WW
  · have hz : ((k_layers P (sv xs (i + 1)))).1 = 0 := by omega
    refine e_aload_n dL_law_949 rfl ?_
    refine e_iconst dL_law_950 ?_
    refine e_laload f3 (by omega) (by omega) rfl dL_law_951 ?_
    have e5 : g1 0 = w32 ((k_layers P (sv xs (i + 1)))).2 := v1 hz
    refine (show Ev _ _ _ _ _ _ _ (.long (lI (g1 0)) :: []) from ?_)
    rw [e5]
    refine e_iload dL_law_952 rfl ?_
    rw [← iN_w32 ((k_layers P (sv xs (i + 1)))).2]
    refine e_i2l (r32_of _) dL_law_954 ?_
    refine e_lif_eq (tgt := 961) (r64_w32 _) (r64_w32 _) dL_law_955 dL_law_956 rfl (fun _ => ?_) (fun c9 => absurd rfl c9)
    refine e_goto (tgt := 2957) dL_law_961 rfl ?_
    refine e_loc [(5, .int (iN i)), (4, .ref ad), (3, .ref ao), (2, .ref m), (1, .ref o), (0, .ref bs)] ⟨rfl, rfl, rfl, rfl, rfl, rfl, trivial⟩ ?_
    exact kk _ WW
def QM_layer_hg (P E : PL) (S : Nat → PL) (b : Int) (P2 E2 : PL) (S2 : Nat → PL) (F : PL) : Prop := ∀ (a : Int), ∀ k, ∃ n, gwc (lyQ P a k) n
def QM_layer_hm (P E : PL) (S : Nat → PL) (b : Int) (P2 E2 : PL) (S2 : Nat → PL) (F : PL) : Prop := ∀ (a : Int), ∀ q : Nat, q < 60 → (lyT P a q ↔ (lyL P a q).length ≠ 0) ∧ ((lyL P a q).length ≠ 0 → cEq (lyH P a q) (wrapN 61 (lyL P a q)))
def QM_layer_hm2 (P E : PL) (S : Nat → PL) (b : Int) (P2 E2 : PL) (S2 : Nat → PL) (F : PL) : Prop := ∀ (a : Int) (l : Int), 60 ≤ l → (lyL P a l).length = 0
set_option maxRecDepth 20000 in
theorem lc_11 (W9 : lwW G P E S b P2 E2 S2 F o m ao ad h) (hi : 0 ≤ i) (hi5 : i + 5 ≤ L) (hL : L ≤ 2560) (hk : k + 1 ≤ 601024) (hn : n + 6 ≤ 7293034) (Qq_QM_layer_hg : QM_layer_hg P E S b P2 E2 S2 F) (Qq_QM_layer_hm : QM_layer_hm P E S b P2 E2 S2 F) (Qq_QM_layer_hm2 : QM_layer_hm2 P E S b P2 E2 S2 F) (kk : ∀ h1, lwW G P E S b P2 E2 S2 (s_layer P (sv xs (i + 1)) (sv xs (i + 2)) F) o m ao ad h1 → Ev (lwE G bs L xs ZZ) (k + 1) (n + 6) none h1 2957 [(5, .int (iN i)), (4, .ref ad), (3, .ref ao), (2, .ref m), (1, .ref o), (0, .ref bs)] []) : Ev (lwE G bs L xs ZZ) k n none h 964 [(5, .int (iN i)), (4, .ref ad), (3, .ref ao), (2, .ref m), (1, .ref o), (0, .ref bs)] [] := by
  obtain ⟨D, ⟨x1, x2, x3, x4, x5, x6, x7, x8, x9, X⟩, ⟨sc, ar, Y, hR⟩, ⟨ag, fa⟩, ⟨gd, fd⟩⟩ := W9
  have kc9 : ((k_layer P (sv xs (i + 1)) (sv xs (i + 2)))).1 ≤ 2 := by first | exact kc_layer | exact kc_layer _ | exact kc_layer _ _ | exact kc_layer _ _ _ | exact kc_layer _ _ _ _ | exact kc_layer _ _ _ _ _
  have rk : r32 ((((k_layer P (sv xs (i + 1)) (sv xs (i + 2)))).1 : Nat) : Int) := ⟨by omega, by omega⟩
  refine e_aload_n dL_law_964 rfl ?_
  refine e_aload_n dL_law_965 rfl ?_
  refine e_iload dL_law_966 rfl ?_
  refine e_iconst dL_law_968 ?_
  refine e_iadd dL_law_969 ?_
  refine e_sld (by omega) (by omega) hL dL_law_970 ?_
  refine e_aload_n dL_law_971 rfl ?_
  refine e_iload dL_law_972 rfl ?_
  refine e_iconst dL_law_974 ?_
  refine e_iadd dL_law_975 ?_
  refine e_sld (by omega) (by omega) hL dL_law_976 ?_
  refine e_aload_n dL_law_977 rfl ?_
  refine e_callH qcL_184 (H_layer X fa (by obtain ⟨rfl, rfl, rfl⟩ := D; omega) (r32_sv _ _) (r32_sv _ _)) rfl rfl rfl (g_rm_of rfl hk hn) dL_law_978 (fun E9 z9 h9 w => nomatch w.2.1) (fun v9 z9 h9 w => ?_)
  obtain ⟨rfl, w2, hc, ⟨l1, l2, l3, l4, l5, l6, l7, l8, l9, X1⟩, rfl⟩ := w
  have e2 : v9 = some (.int (iN ((((k_layer P (sv xs (i + 1)) (sv xs (i + 2)))).1 : Nat) : Int))) := Sum.inl.inj w2
  subst e2
  refine (show Ev _ _ _ _ _ _ _ (.int (iN ((((k_layer P (sv xs (i + 1)) (sv xs (i + 2)))).1 : Nat) : Int)) :: []) from ?_)
  obtain ⟨XC, Y1, ⟨g1, f1, v1⟩, f2⟩ := lw_aft D X1 Y fa fd
  generalize upL G _ _ _ _ = hh at XC Y1 f1 f2 ⊢
  refine e_istore dL_law_981 rfl ?_
  refine e_aload_n dL_law_983 rfl ?_
  refine e_aload_n dL_law_984 rfl ?_
  refine e_iload dL_law_985 rfl ?_
  refine e_iconst dL_law_987 ?_
  refine e_iadd dL_law_988 ?_
  refine e_sld (by omega) (by omega) hL dL_law_989 ?_
  refine e_aload_n dL_law_990 rfl ?_
  refine e_iload dL_law_991 rfl ?_
  refine e_iconst dL_law_993 ?_
  refine e_iadd dL_law_994 ?_
  refine e_sld (by omega) (by omega) hL dL_law_995 ?_
  refine e_callV qcL_186 Y1.obj rfl rfl (M_layer Y1 hR (r32_sv _ _) (r32_sv _ _) (Qq_QM_layer_hg _) (Qq_QM_layer_hm _) (Qq_QM_layer_hm2 _ _)) rfl rfl rfl (g_rm_of rfl (by show k + 1 + 0 ≤ 601024; omega) (by show n + 6 + 0 ≤ 7293034; omega)) dL_law_996 (fun E9 z9 h9 w => nomatch (show (Sum.inr _ : g_O) = Sum.inl _ from w.2.1)) (fun v9 z9 h9 w => ?_)
  obtain ⟨rfl, w2, sc2, ar2, Y2, R2, c2⟩ := w
  have e2 : v9 = some (.int (iN ((k_layer P (sv xs (i + 1)) (sv xs (i + 2)))).2)) := Sum.inl.inj w2
  subst e2
  refine (show Ev _ _ _ _ _ _ _ (.int (iN ((k_layer P (sv xs (i + 1)) (sv xs (i + 2)))).2) :: []) from ?_)
  obtain ⟨WW, f3, f4⟩ := lw_end D XC Y2 R2 f1 f2
  refine e_istore dL_law_999 rfl ?_
  refine e_aload_n dL_law_1001 rfl ?_
  refine e_pureV qcL_149 Y2.obj rfl rfl (S_thrown Y2) rfl rfl rfl (g_rm_of rfl (by show k + 1 + 0 + 0 ≤ 601024; omega) (by show n + 6 + 0 + 0 ≤ 7293034; omega)) dL_law_1002 ?_
  rw [c2]
  refine e_iload dL_law_1005 rfl ?_
  refine e_icmp_eq (tgt := 1012) rk rk dL_law_1007 rfl (fun _ => ?_) (fun c9 => absurd rfl c9)
  refine e_iload dL_law_1012 rfl ?_
  refine e_if_ne (tgt := 1029) rk dL_law_1014 rfl (fun c_1014 => ?_) (fun c_1014 => ?_)
  · refine e_goto (tgt := 2957) dL_law_1029 rfl ?_
    refine e_loc [(5, .int (iN i)), (4, .ref ad), (3, .ref ao), (2, .ref m), (1, .ref o), (0, .ref bs)] ⟨rfl, rfl, rfl, rfl, rfl, rfl, trivial⟩ ?_
    exact kk _ WW
  · have hz : ((k_layer P (sv xs (i + 1)) (sv xs (i + 2)))).1 = 0 := by omega
    refine e_aload_n dL_law_1017 rfl ?_
    refine e_iconst dL_law_1018 ?_
    refine e_laload f3 (by omega) (by omega) rfl dL_law_1019 ?_
    have e5 : g1 0 = w32 ((k_layer P (sv xs (i + 1)) (sv xs (i + 2)))).2 := v1 hz
    refine (show Ev _ _ _ _ _ _ _ (.long (lI (g1 0)) :: []) from ?_)
    rw [e5]
    refine e_iload dL_law_1020 rfl ?_
    rw [← iN_w32 ((k_layer P (sv xs (i + 1)) (sv xs (i + 2)))).2]
    refine e_i2l (r32_of _) dL_law_1022 ?_
    refine e_lif_eq (tgt := 1029) (r64_w32 _) (r64_w32 _) dL_law_1023 dL_law_1024 rfl (fun _ => ?_) (fun c9 => absurd rfl c9)
    refine e_goto (tgt := 2957) dL_law_1029 rfl ?_
    refine e_loc [(5, .int (iN i)), (4, .ref ad), (3, .ref ao), (2, .ref m), (1, .ref o), (0, .ref bs)] ⟨rfl, rfl, rfl, rfl, rfl, rfl, trivial⟩ ?_
    exact kk _ WW
def QM_hullOf_hm (P E : PL) (S : Nat → PL) (b : Int) (P2 E2 : PL) (S2 : Nat → PL) (F : PL) : Prop := ∀ g : Nat, g < 4 → (S g).length ≠ 0 → gwH (hcN (S g) (S g).length) (wrapN 61 (hoL (S g)))
set_option maxRecDepth 20000 in
theorem lc_12 (W9 : lwW G P E S b P2 E2 S2 F o m ao ad h) (hi : 0 ≤ i) (hi5 : i + 5 ≤ L) (hL : L ≤ 2560) (hk : k + 1 ≤ 601024) (hn : n + 6 ≤ 7293034) (Qq_QM_hullOf_hm : QM_hullOf_hm P E S b P2 E2 S2 F) (kk : ∀ h1, lwW G P E S b P2 E2 S2 (s_hullOf S (sv xs (i + 1)) F) o m ao ad h1 → Ev (lwE G bs L xs ZZ) (k + 1) (n + 6) none h1 2957 [(5, .int (iN i)), (4, .ref ad), (3, .ref ao), (2, .ref m), (1, .ref o), (0, .ref bs)] []) : Ev (lwE G bs L xs ZZ) k n none h 1032 [(5, .int (iN i)), (4, .ref ad), (3, .ref ao), (2, .ref m), (1, .ref o), (0, .ref bs)] [] := by
  obtain ⟨D, ⟨x1, x2, x3, x4, x5, x6, x7, x8, x9, X⟩, ⟨sc, ar, Y, hR⟩, ⟨ag, fa⟩, ⟨gd, fd⟩⟩ := W9
  have kc9 : ((k_hullOf S (sv xs (i + 1)))).1 ≤ 2 := by first | exact kc_hullOf | exact kc_hullOf _ | exact kc_hullOf _ _ | exact kc_hullOf _ _ _ | exact kc_hullOf _ _ _ _ | exact kc_hullOf _ _ _ _ _
  have rk : r32 ((((k_hullOf S (sv xs (i + 1)))).1 : Nat) : Int) := ⟨by omega, by omega⟩
  refine e_aload_n dL_law_1032 rfl ?_
  refine e_aload_n dL_law_1033 rfl ?_
  refine e_iload dL_law_1034 rfl ?_
  refine e_iconst dL_law_1036 ?_
  refine e_iadd dL_law_1037 ?_
  refine e_sld (by omega) (by omega) hL dL_law_1038 ?_
  refine e_aload_n dL_law_1039 rfl ?_
  refine e_callH qcL_187 (H_hullOf X fa (by obtain ⟨rfl, rfl, rfl⟩ := D; omega) (r32_sv _ _)) rfl rfl rfl (g_rm_of rfl hk hn) dL_law_1040 (fun E9 z9 h9 w => nomatch w.2.1) (fun v9 z9 h9 w => ?_)
  obtain ⟨rfl, w2, hc, ⟨l1, l2, l3, l4, l5, l6, l7, l8, l9, X1⟩, rfl⟩ := w
  have e2 : v9 = some (.int (iN ((((k_hullOf S (sv xs (i + 1)))).1 : Nat) : Int))) := Sum.inl.inj w2
  subst e2
  refine (show Ev _ _ _ _ _ _ _ (.int (iN ((((k_hullOf S (sv xs (i + 1)))).1 : Nat) : Int)) :: []) from ?_)
  obtain ⟨XC, Y1, ⟨g1, f1, v1⟩, f2⟩ := lw_aft D X1 Y fa fd
  generalize upL G _ _ _ _ = hh at XC Y1 f1 f2 ⊢
  refine e_istore dL_law_1043 rfl ?_
  refine e_aload_n dL_law_1045 rfl ?_
  refine e_aload_n dL_law_1046 rfl ?_
  refine e_iload dL_law_1047 rfl ?_
  refine e_iconst dL_law_1049 ?_
  refine e_iadd dL_law_1050 ?_
  refine e_sld (by omega) (by omega) hL dL_law_1051 ?_
  refine e_callV qcL_189 Y1.obj rfl rfl (M_hullOf Y1 hR (r32_sv _ _) Qq_QM_hullOf_hm) rfl rfl rfl (g_rm_of rfl (by show k + 1 + 0 ≤ 601024; omega) (by show n + 6 + 0 ≤ 7293034; omega)) dL_law_1052 (fun E9 z9 h9 w => nomatch (show (Sum.inr _ : g_O) = Sum.inl _ from w.2.1)) (fun v9 z9 h9 w => ?_)
  obtain ⟨rfl, w2, sc2, ar2, Y2, R2, c2⟩ := w
  have e2 : v9 = some (.int (iN ((k_hullOf S (sv xs (i + 1)))).2)) := Sum.inl.inj w2
  subst e2
  refine (show Ev _ _ _ _ _ _ _ (.int (iN ((k_hullOf S (sv xs (i + 1)))).2) :: []) from ?_)
  obtain ⟨WW, f3, f4⟩ := lw_end D XC Y2 R2 f1 f2
  refine e_istore dL_law_1055 rfl ?_
  refine e_aload_n dL_law_1057 rfl ?_
  refine e_pureV qcL_149 Y2.obj rfl rfl (S_thrown Y2) rfl rfl rfl (g_rm_of rfl (by show k + 1 + 0 + 0 ≤ 601024; omega) (by show n + 6 + 0 + 0 ≤ 7293034; omega)) dL_law_1058 ?_
  rw [c2]
  refine e_iload dL_law_1061 rfl ?_
  refine e_icmp_eq (tgt := 1068) rk rk dL_law_1063 rfl (fun _ => ?_) (fun c9 => absurd rfl c9)
  refine e_iload dL_law_1068 rfl ?_
  refine e_if_ne (tgt := 1085) rk dL_law_1070 rfl (fun c_1070 => ?_) (fun c_1070 => ?_)
  · refine e_goto (tgt := 2957) dL_law_1085 rfl ?_
    refine e_loc [(5, .int (iN i)), (4, .ref ad), (3, .ref ao), (2, .ref m), (1, .ref o), (0, .ref bs)] ⟨rfl, rfl, rfl, rfl, rfl, rfl, trivial⟩ ?_
    exact kk _ WW
  · have hz : ((k_hullOf S (sv xs (i + 1)))).1 = 0 := by omega
    refine e_aload_n dL_law_1073 rfl ?_
    refine e_iconst dL_law_1074 ?_
    refine e_laload f3 (by omega) (by omega) rfl dL_law_1075 ?_
    have e5 : g1 0 = w32 ((k_hullOf S (sv xs (i + 1)))).2 := v1 hz
    refine (show Ev _ _ _ _ _ _ _ (.long (lI (g1 0)) :: []) from ?_)
    rw [e5]
    refine e_iload dL_law_1076 rfl ?_
    rw [← iN_w32 ((k_hullOf S (sv xs (i + 1)))).2]
    refine e_i2l (r32_of _) dL_law_1078 ?_
    refine e_lif_eq (tgt := 1085) (r64_w32 _) (r64_w32 _) dL_law_1079 dL_law_1080 rfl (fun _ => ?_) (fun c9 => absurd rfl c9)
    refine e_goto (tgt := 2957) dL_law_1085 rfl ?_
    refine e_loc [(5, .int (iN i)), (4, .ref ad), (3, .ref ao), (2, .ref m), (1, .ref o), (0, .ref bs)] ⟨rfl, rfl, rfl, rfl, rfl, rfl, trivial⟩ ?_
    exact kk _ WW
set_option maxRecDepth 20000 in
theorem lc_13 (W9 : lwW G P E S b P2 E2 S2 F o m ao ad h) (hi : 0 ≤ i) (hi5 : i + 5 ≤ L) (hL : L ≤ 2560) (hk : k + 1 ≤ 601024) (hn : n + 6 ≤ 7293034)  (kk : ∀ h1, lwW G P E S b P2 E2 S2 F o m ao ad h1 → Ev (lwE G bs L xs ZZ) (k + 1) (n + 6) none h1 2957 [(5, .int (iN i)), (4, .ref ad), (3, .ref ao), (2, .ref m), (1, .ref o), (0, .ref bs)] []) : Ev (lwE G bs L xs ZZ) k n none h 1088 [(5, .int (iN i)), (4, .ref ad), (3, .ref ao), (2, .ref m), (1, .ref o), (0, .ref bs)] [] := by
  obtain ⟨D, ⟨x1, x2, x3, x4, x5, x6, x7, x8, x9, X⟩, ⟨sc, ar, Y, hR⟩, ⟨ag, fa⟩, ⟨gd, fd⟩⟩ := W9
  refine e_aload_n dL_law_1088 rfl ?_
  refine e_callV qcL_190 X.obj rfl rfl (C_corners X ) rfl rfl rfl (g_rm_of rfl hk hn) dL_law_1089 (fun E9 z9 h9 w => nomatch (show (Sum.inr _ : g_O) = Sum.inl _ from w.2.1)) (fun v9 z9 h9 w => ?_)
  obtain ⟨rfl, w2, l1, l2, l3, l4, l5, l6, l7, l8, l9, X1⟩ := w
  have e2 : v9 = some (.int (iN ((F.length : Int)))) := Sum.inl.inj w2
  subst e2
  refine (show Ev _ _ _ _ _ _ _ (.int (iN ((F.length : Int))) :: []) from ?_)
  obtain ⟨XC, Y1, f1, f2⟩ := lw_aft0 D X1 Y fa fd
  refine e_aload_n dL_law_1092 rfl ?_
  refine e_callV qcL_193 Y1.obj rfl rfl (M_corners Y1 hR ) rfl rfl rfl (g_rm_of rfl (by show k + 1 + 0 ≤ 601024; omega) (by show n + 6 + 0 ≤ 7293034; omega)) dL_law_1093 (fun E9 z9 h9 w => nomatch (show (Sum.inr _ : g_O) = Sum.inl _ from w.2.1)) (fun v9 z9 h9 w => ?_)
  obtain ⟨rfl, w2, sc2, ar2, Y2, R2, c2⟩ := w
  have e2 : v9 = some (.int (iN ((F.length : Int)))) := Sum.inl.inj w2
  subst e2
  refine (show Ev _ _ _ _ _ _ _ (.int (iN ((F.length : Int))) :: .int (iN ((F.length : Int))) :: []) from ?_)
  obtain ⟨WW, f3, f4⟩ := lw_end D XC Y2 R2 f1 f2
  rw [← iN_w32 ((F.length : Int))]
  refine e_icmp_eq (tgt := 2957) (r32_of _) (r32_of _) dL_law_1096 rfl (fun _ => ?_) (fun c9 => absurd rfl c9)
  refine e_loc [(5, .int (iN i)), (4, .ref ad), (3, .ref ao), (2, .ref m), (1, .ref o), (0, .ref bs)] ⟨rfl, rfl, rfl, rfl, rfl, rfl, trivial⟩ ?_
  exact kk _ WW
set_option maxRecDepth 20000 in
theorem lc_14 (W9 : lwW G P E S b P2 E2 S2 F o m ao ad h) (hi : 0 ≤ i) (hi5 : i + 5 ≤ L) (hL : L ≤ 2560) (hk : k + 1 ≤ 601024) (hn : n + 6 ≤ 7293034)  (kk : ∀ h1, lwW G P E S b P2 E2 S2 F o m ao ad h1 → Ev (lwE G bs L xs ZZ) (k + 1) (n + 6) none h1 2957 [(5, .int (iN i)), (4, .ref ad), (3, .ref ao), (2, .ref m), (1, .ref o), (0, .ref bs)] []) : Ev (lwE G bs L xs ZZ) k n none h 1101 [(5, .int (iN i)), (4, .ref ad), (3, .ref ao), (2, .ref m), (1, .ref o), (0, .ref bs)] [] := by
  obtain ⟨D, ⟨x1, x2, x3, x4, x5, x6, x7, x8, x9, X⟩, ⟨sc, ar, Y, hR⟩, ⟨ag, fa⟩, ⟨gd, fd⟩⟩ := W9
  by_cases hu : sv xs (i + 2) = 0
  · have kc9 : ((k_corner F (sv xs (i + 1)) False)).1 ≤ 1 := by first | exact kc_corner | exact kc_corner _ | exact kc_corner _ _ | exact kc_corner _ _ _ | exact kc_corner _ _ _ _ | exact kc_corner _ _ _ _ _
    have rk : r32 ((((k_corner F (sv xs (i + 1)) False)).1 : Nat) : Int) := ⟨by omega, by omega⟩
    refine e_aload_n dL_law_1101 rfl ?_
    refine e_aload_n dL_law_1102 rfl ?_
    refine e_iload dL_law_1103 rfl ?_
    refine e_iconst dL_law_1105 ?_
    refine e_iadd dL_law_1106 ?_
    refine e_sld (by omega) (by omega) hL dL_law_1107 ?_
    refine e_aload_n dL_law_1108 rfl ?_
    refine e_iload dL_law_1109 rfl ?_
    refine e_iconst dL_law_1111 ?_
    refine e_iadd dL_law_1112 ?_
    refine e_sld (by omega) (by omega) hL dL_law_1113 ?_
    refine e_if_eq (tgt := 1121) (r32_sv _ _) dL_law_1114 rfl (fun c9 => ?_) (fun c9 => absurd hu c9)
    refine e_iconst dL_law_1121 ?_
    refine e_aload_n dL_law_1122 rfl ?_
    refine e_callH qcL_194 (H_corner X fa (by obtain ⟨rfl, rfl, rfl⟩ := D; omega) (u := False) (r32_sv _ _)) rfl rfl rfl (g_rm_of rfl hk hn) dL_law_1123 (fun E9 z9 h9 w => nomatch w.2.1) (fun v9 z9 h9 w => ?_)
    obtain ⟨rfl, w2, hc, ⟨l1, l2, l3, l4, l5, l6, l7, l8, l9, X1⟩, rfl⟩ := w
    have e2 : v9 = some (.int (iN ((((k_corner F (sv xs (i + 1)) False)).1 : Nat) : Int))) := Sum.inl.inj w2
    subst e2
    refine (show Ev _ _ _ _ _ _ _ (.int (iN ((((k_corner F (sv xs (i + 1)) False)).1 : Nat) : Int)) :: []) from ?_)
    obtain ⟨XC, Y1, ⟨g1, f1, v1⟩, f2⟩ := lw_aft D X1 Y fa fd
    generalize upL G _ _ _ _ = hh at XC Y1 f1 f2 ⊢
    refine e_istore dL_law_1126 rfl ?_
    refine e_aload_n dL_law_1128 rfl ?_
    refine e_aload_n dL_law_1129 rfl ?_
    refine e_iload dL_law_1130 rfl ?_
    refine e_iconst dL_law_1132 ?_
    refine e_iadd dL_law_1133 ?_
    refine e_sld (by omega) (by omega) hL dL_law_1134 ?_
    refine e_aload_n dL_law_1135 rfl ?_
    refine e_iload dL_law_1136 rfl ?_
    refine e_iconst dL_law_1138 ?_
    refine e_iadd dL_law_1139 ?_
    refine e_sld (by omega) (by omega) hL dL_law_1140 ?_
    refine e_if_eq (tgt := 1148) (r32_sv _ _) dL_law_1141 rfl (fun c9 => ?_) (fun c9 => absurd hu c9)
    refine e_iconst dL_law_1148 ?_
    refine e_callV qcL_197 Y1.obj rfl rfl (M_corner Y1 hR (u := False) (r32_sv _ _)) rfl rfl rfl (g_rm_of rfl (by show k + 1 + 0 ≤ 601024; omega) (by show n + 6 + 0 ≤ 7293034; omega)) dL_law_1149 (fun E9 z9 h9 w => nomatch (show (Sum.inr _ : g_O) = Sum.inl _ from w.2.1)) (fun v9 z9 h9 w => ?_)
    obtain ⟨rfl, w2, sc2, ar2, Y2, R2, c2⟩ := w
    have e2 : v9 = some (.int (iN ((k_corner F (sv xs (i + 1)) False)).2)) := Sum.inl.inj w2
    subst e2
    refine (show Ev _ _ _ _ _ _ _ (.int (iN ((k_corner F (sv xs (i + 1)) False)).2) :: []) from ?_)
    obtain ⟨WW, f3, f4⟩ := lw_end D XC Y2 R2 f1 f2
    refine e_istore dL_law_1152 rfl ?_
    refine e_aload_n dL_law_1154 rfl ?_
    refine e_pureV qcL_149 Y2.obj rfl rfl (S_thrown Y2) rfl rfl rfl (g_rm_of rfl (by show k + 1 + 0 + 0 ≤ 601024; omega) (by show n + 6 + 0 + 0 ≤ 7293034; omega)) dL_law_1155 ?_
    rw [c2]
    refine e_iload dL_law_1158 rfl ?_
    refine e_icmp_eq (tgt := 1165) rk rk dL_law_1160 rfl (fun _ => ?_) (fun c9 => absurd rfl c9)
    refine e_iload dL_law_1165 rfl ?_
    refine e_if_ne (tgt := 1182) rk dL_law_1167 rfl (fun c_1167 => ?_) (fun c_1167 => ?_)
    · refine e_goto (tgt := 2957) dL_law_1182 rfl ?_
      refine e_loc [(5, .int (iN i)), (4, .ref ad), (3, .ref ao), (2, .ref m), (1, .ref o), (0, .ref bs)] ⟨rfl, rfl, rfl, rfl, rfl, rfl, trivial⟩ ?_
      exact kk _ WW
    · have hz : ((k_corner F (sv xs (i + 1)) False)).1 = 0 := by omega
      refine e_aload_n dL_law_1170 rfl ?_
      refine e_iconst dL_law_1171 ?_
      refine e_laload f3 (by omega) (by omega) rfl dL_law_1172 ?_
      have e5 : g1 0 = w32 ((k_corner F (sv xs (i + 1)) False)).2 := v1 hz
      refine (show Ev _ _ _ _ _ _ _ (.long (lI (g1 0)) :: []) from ?_)
      rw [e5]
      refine e_iload dL_law_1173 rfl ?_
      rw [← iN_w32 ((k_corner F (sv xs (i + 1)) False)).2]
      refine e_i2l (r32_of _) dL_law_1175 ?_
      refine e_lif_eq (tgt := 1182) (r64_w32 _) (r64_w32 _) dL_law_1176 dL_law_1177 rfl (fun _ => ?_) (fun c9 => absurd rfl c9)
      refine e_goto (tgt := 2957) dL_law_1182 rfl ?_
      refine e_loc [(5, .int (iN i)), (4, .ref ad), (3, .ref ao), (2, .ref m), (1, .ref o), (0, .ref bs)] ⟨rfl, rfl, rfl, rfl, rfl, rfl, trivial⟩ ?_
      exact kk _ WW
  · have kc9 : ((k_corner F (sv xs (i + 1)) True)).1 ≤ 1 := by first | exact kc_corner | exact kc_corner _ | exact kc_corner _ _ | exact kc_corner _ _ _ | exact kc_corner _ _ _ _ | exact kc_corner _ _ _ _ _
    have rk : r32 ((((k_corner F (sv xs (i + 1)) True)).1 : Nat) : Int) := ⟨by omega, by omega⟩
    refine e_aload_n dL_law_1101 rfl ?_
    refine e_aload_n dL_law_1102 rfl ?_
    refine e_iload dL_law_1103 rfl ?_
    refine e_iconst dL_law_1105 ?_
    refine e_iadd dL_law_1106 ?_
    refine e_sld (by omega) (by omega) hL dL_law_1107 ?_
    refine e_aload_n dL_law_1108 rfl ?_
    refine e_iload dL_law_1109 rfl ?_
    refine e_iconst dL_law_1111 ?_
    refine e_iadd dL_law_1112 ?_
    refine e_sld (by omega) (by omega) hL dL_law_1113 ?_
    refine e_if_eq (tgt := 1121) (r32_sv _ _) dL_law_1114 rfl (fun c9 => absurd c9 hu) (fun c9 => ?_)
    refine e_iconst dL_law_1117 ?_
    refine e_goto (tgt := 1122) dL_law_1118 rfl ?_
    refine e_aload_n dL_law_1122 rfl ?_
    refine e_callH qcL_194 (H_corner X fa (by obtain ⟨rfl, rfl, rfl⟩ := D; omega) (u := True) (r32_sv _ _)) rfl rfl rfl (g_rm_of rfl hk hn) dL_law_1123 (fun E9 z9 h9 w => nomatch w.2.1) (fun v9 z9 h9 w => ?_)
    obtain ⟨rfl, w2, hc, ⟨l1, l2, l3, l4, l5, l6, l7, l8, l9, X1⟩, rfl⟩ := w
    have e2 : v9 = some (.int (iN ((((k_corner F (sv xs (i + 1)) True)).1 : Nat) : Int))) := Sum.inl.inj w2
    subst e2
    refine (show Ev _ _ _ _ _ _ _ (.int (iN ((((k_corner F (sv xs (i + 1)) True)).1 : Nat) : Int)) :: []) from ?_)
    obtain ⟨XC, Y1, ⟨g1, f1, v1⟩, f2⟩ := lw_aft D X1 Y fa fd
    generalize upL G _ _ _ _ = hh at XC Y1 f1 f2 ⊢
    refine e_istore dL_law_1126 rfl ?_
    refine e_aload_n dL_law_1128 rfl ?_
    refine e_aload_n dL_law_1129 rfl ?_
    refine e_iload dL_law_1130 rfl ?_
    refine e_iconst dL_law_1132 ?_
    refine e_iadd dL_law_1133 ?_
    refine e_sld (by omega) (by omega) hL dL_law_1134 ?_
    refine e_aload_n dL_law_1135 rfl ?_
    refine e_iload dL_law_1136 rfl ?_
    refine e_iconst dL_law_1138 ?_
    refine e_iadd dL_law_1139 ?_
    refine e_sld (by omega) (by omega) hL dL_law_1140 ?_
    refine e_if_eq (tgt := 1148) (r32_sv _ _) dL_law_1141 rfl (fun c9 => absurd c9 hu) (fun c9 => ?_)
    refine e_iconst dL_law_1144 ?_
    refine e_goto (tgt := 1149) dL_law_1145 rfl ?_
    refine e_callV qcL_197 Y1.obj rfl rfl (M_corner Y1 hR (u := True) (r32_sv _ _)) rfl rfl rfl (g_rm_of rfl (by show k + 1 + 0 ≤ 601024; omega) (by show n + 6 + 0 ≤ 7293034; omega)) dL_law_1149 (fun E9 z9 h9 w => nomatch (show (Sum.inr _ : g_O) = Sum.inl _ from w.2.1)) (fun v9 z9 h9 w => ?_)
    obtain ⟨rfl, w2, sc2, ar2, Y2, R2, c2⟩ := w
    have e2 : v9 = some (.int (iN ((k_corner F (sv xs (i + 1)) True)).2)) := Sum.inl.inj w2
    subst e2
    refine (show Ev _ _ _ _ _ _ _ (.int (iN ((k_corner F (sv xs (i + 1)) True)).2) :: []) from ?_)
    obtain ⟨WW, f3, f4⟩ := lw_end D XC Y2 R2 f1 f2
    refine e_istore dL_law_1152 rfl ?_
    refine e_aload_n dL_law_1154 rfl ?_
    refine e_pureV qcL_149 Y2.obj rfl rfl (S_thrown Y2) rfl rfl rfl (g_rm_of rfl (by show k + 1 + 0 + 0 ≤ 601024; omega) (by show n + 6 + 0 + 0 ≤ 7293034; omega)) dL_law_1155 ?_
    rw [c2]
    refine e_iload dL_law_1158 rfl ?_
    refine e_icmp_eq (tgt := 1165) rk rk dL_law_1160 rfl (fun _ => ?_) (fun c9 => absurd rfl c9)
    refine e_iload dL_law_1165 rfl ?_
    refine e_if_ne (tgt := 1182) rk dL_law_1167 rfl (fun c_1167 => ?_) (fun c_1167 => ?_)
    · refine e_goto (tgt := 2957) dL_law_1182 rfl ?_
      refine e_loc [(5, .int (iN i)), (4, .ref ad), (3, .ref ao), (2, .ref m), (1, .ref o), (0, .ref bs)] ⟨rfl, rfl, rfl, rfl, rfl, rfl, trivial⟩ ?_
      exact kk _ WW
    · have hz : ((k_corner F (sv xs (i + 1)) True)).1 = 0 := by omega
      refine e_aload_n dL_law_1170 rfl ?_
      refine e_iconst dL_law_1171 ?_
      refine e_laload f3 (by omega) (by omega) rfl dL_law_1172 ?_
      have e5 : g1 0 = w32 ((k_corner F (sv xs (i + 1)) True)).2 := v1 hz
      refine (show Ev _ _ _ _ _ _ _ (.long (lI (g1 0)) :: []) from ?_)
      rw [e5]
      refine e_iload dL_law_1173 rfl ?_
      rw [← iN_w32 ((k_corner F (sv xs (i + 1)) True)).2]
      refine e_i2l (r32_of _) dL_law_1175 ?_
      refine e_lif_eq (tgt := 1182) (r64_w32 _) (r64_w32 _) dL_law_1176 dL_law_1177 rfl (fun _ => ?_) (fun c9 => absurd rfl c9)
      refine e_goto (tgt := 2957) dL_law_1182 rfl ?_
      refine e_loc [(5, .int (iN i)), (4, .ref ad), (3, .ref ao), (2, .ref m), (1, .ref o), (0, .ref bs)] ⟨rfl, rfl, rfl, rfl, rfl, rfl, trivial⟩ ?_
      exact kk _ WW
set_option maxRecDepth 20000 in
theorem lc_15 (W9 : lwW G P E S b P2 E2 S2 F o m ao ad h) (hi : 0 ≤ i) (hi5 : i + 5 ≤ L) (hL : L ≤ 2560) (hk : k + 1 ≤ 601024) (hn : n + 6 ≤ 7293034)  (kk : ∀ h1, lwW G P E S b P2 E2 S2 F o m ao ad h1 → Ev (lwE G bs L xs ZZ) (k + 1) (n + 6) none h1 2957 [(5, .int (iN i)), (4, .ref ad), (3, .ref ao), (2, .ref m), (1, .ref o), (0, .ref bs)] []) : Ev (lwE G bs L xs ZZ) k n none h 1185 [(5, .int (iN i)), (4, .ref ad), (3, .ref ao), (2, .ref m), (1, .ref o), (0, .ref bs)] [] := by
  obtain ⟨D, ⟨x1, x2, x3, x4, x5, x6, x7, x8, x9, X⟩, ⟨sc, ar, Y, hR⟩, ⟨ag, fa⟩, ⟨gd, fd⟩⟩ := W9
  refine e_aload_n dL_law_1185 rfl ?_
  refine e_callV qcL_198 X.obj rfl rfl (C_area X ) rfl rfl rfl (g_rm_of rfl hk hn) dL_law_1186 (fun E9 z9 h9 w => nomatch (show (Sum.inr _ : g_O) = Sum.inl _ from w.2.1)) (fun v9 z9 h9 w => ?_)
  obtain ⟨rfl, w2, l1, l2, l3, l4, l5, l6, l7, l8, l9, X1⟩ := w
  have e2 : v9 = some (.int (iN (da F))) := Sum.inl.inj w2
  subst e2
  refine (show Ev _ _ _ _ _ _ _ (.int (iN (da F)) :: []) from ?_)
  obtain ⟨XC, Y1, f1, f2⟩ := lw_aft0 D X1 Y fa fd
  refine e_aload_n dL_law_1189 rfl ?_
  refine e_callV qcL_201 Y1.obj rfl rfl (M_area Y1 hR ) rfl rfl rfl (g_rm_of rfl (by show k + 1 + 0 ≤ 601024; omega) (by show n + 6 + 0 ≤ 7293034; omega)) dL_law_1190 (fun E9 z9 h9 w => nomatch (show (Sum.inr _ : g_O) = Sum.inl _ from w.2.1)) (fun v9 z9 h9 w => ?_)
  obtain ⟨rfl, w2, sc2, ar2, Y2, R2, c2⟩ := w
  have e2 : v9 = some (.int (iN (da F))) := Sum.inl.inj w2
  subst e2
  refine (show Ev _ _ _ _ _ _ _ (.int (iN (da F)) :: .int (iN (da F)) :: []) from ?_)
  obtain ⟨WW, f3, f4⟩ := lw_end D XC Y2 R2 f1 f2
  rw [← iN_w32 (da F)]
  refine e_icmp_eq (tgt := 2957) (r32_of _) (r32_of _) dL_law_1193 rfl (fun _ => ?_) (fun c9 => absurd rfl c9)
  refine e_loc [(5, .int (iN i)), (4, .ref ad), (3, .ref ao), (2, .ref m), (1, .ref o), (0, .ref bs)] ⟨rfl, rfl, rfl, rfl, rfl, rfl, trivial⟩ ?_
  exact kk _ WW
set_option maxRecDepth 20000 in
theorem lc_16 (W9 : lwW G P E S b P2 E2 S2 F o m ao ad h) (hi : 0 ≤ i) (hi5 : i + 5 ≤ L) (hL : L ≤ 2560) (hk : k + 1 ≤ 601024) (hn : n + 6 ≤ 7293034)  (kk : ∀ h1, lwW G P E S b P2 E2 S2 F o m ao ad h1 → Ev (lwE G bs L xs ZZ) (k + 1) (n + 6) none h1 2957 [(5, .int (iN i)), (4, .ref ad), (3, .ref ao), (2, .ref m), (1, .ref o), (0, .ref bs)] []) : Ev (lwE G bs L xs ZZ) k n none h 1198 [(5, .int (iN i)), (4, .ref ad), (3, .ref ao), (2, .ref m), (1, .ref o), (0, .ref bs)] [] := by
  obtain ⟨D, ⟨x1, x2, x3, x4, x5, x6, x7, x8, x9, X⟩, ⟨sc, ar, Y, hR⟩, ⟨ag, fa⟩, ⟨gd, fd⟩⟩ := W9
  refine e_aload_n dL_law_1198 rfl ?_
  refine e_callV qcL_202 X.obj rfl rfl (C_edge X ) rfl rfl rfl (g_rm_of rfl hk hn) dL_law_1199 (fun E9 z9 h9 w => nomatch (show (Sum.inr _ : g_O) = Sum.inl _ from w.2.1)) (fun v9 z9 h9 w => ?_)
  obtain ⟨rfl, w2, l1, l2, l3, l4, l5, l6, l7, l8, l9, X1⟩ := w
  have e2 : v9 = some (.int (iN (k_edge F))) := Sum.inl.inj w2
  subst e2
  refine (show Ev _ _ _ _ _ _ _ (.int (iN (k_edge F)) :: []) from ?_)
  obtain ⟨XC, Y1, f1, f2⟩ := lw_aft0 D X1 Y fa fd
  refine e_aload_n dL_law_1202 rfl ?_
  refine e_callV qcL_205 Y1.obj rfl rfl (M_edge Y1 hR ) rfl rfl rfl (g_rm_of rfl (by show k + 1 + 0 ≤ 601024; omega) (by show n + 6 + 0 ≤ 7293034; omega)) dL_law_1203 (fun E9 z9 h9 w => nomatch (show (Sum.inr _ : g_O) = Sum.inl _ from w.2.1)) (fun v9 z9 h9 w => ?_)
  obtain ⟨rfl, w2, sc2, ar2, Y2, R2, c2⟩ := w
  have e2 : v9 = some (.int (iN (k_edge F))) := Sum.inl.inj w2
  subst e2
  refine (show Ev _ _ _ _ _ _ _ (.int (iN (k_edge F)) :: .int (iN (k_edge F)) :: []) from ?_)
  obtain ⟨WW, f3, f4⟩ := lw_end D XC Y2 R2 f1 f2
  rw [← iN_w32 (k_edge F)]
  refine e_icmp_eq (tgt := 2957) (r32_of _) (r32_of _) dL_law_1206 rfl (fun _ => ?_) (fun c9 => absurd rfl c9)
  refine e_loc [(5, .int (iN i)), (4, .ref ad), (3, .ref ao), (2, .ref m), (1, .ref o), (0, .ref bs)] ⟨rfl, rfl, rfl, rfl, rfl, rfl, trivial⟩ ?_
  exact kk _ WW
def QM_inner_hm (P E : PL) (S : Nat → PL) (b : Int) (P2 E2 : PL) (S2 : Nat → PL) (F : PL) : Prop := nnF F = pin F
set_option maxRecDepth 20000 in
theorem lc_17 (W9 : lwW G P E S b P2 E2 S2 F o m ao ad h) (hi : 0 ≤ i) (hi5 : i + 5 ≤ L) (hL : L ≤ 2560) (hk : k + 1 ≤ 601024) (hn : n + 6 ≤ 7293034) (Qq_QM_inner_hm : QM_inner_hm P E S b P2 E2 S2 F) (kk : ∀ h1, lwW G P E S b P2 E2 S2 F o m ao ad h1 → Ev (lwE G bs L xs ZZ) (k + 1) (n + 6) none h1 2957 [(5, .int (iN i)), (4, .ref ad), (3, .ref ao), (2, .ref m), (1, .ref o), (0, .ref bs)] []) : Ev (lwE G bs L xs ZZ) k n none h 1211 [(5, .int (iN i)), (4, .ref ad), (3, .ref ao), (2, .ref m), (1, .ref o), (0, .ref bs)] [] := by
  obtain ⟨D, ⟨x1, x2, x3, x4, x5, x6, x7, x8, x9, X⟩, ⟨sc, ar, Y, hR⟩, ⟨ag, fa⟩, ⟨gd, fd⟩⟩ := W9
  refine e_aload_n dL_law_1211 rfl ?_
  refine e_callV qcL_206 X.obj rfl rfl (C_inner X ) rfl rfl rfl (g_rm_of rfl hk hn) dL_law_1212 (fun E9 z9 h9 w => nomatch (show (Sum.inr _ : g_O) = Sum.inl _ from w.2.1)) (fun v9 z9 h9 w => ?_)
  obtain ⟨rfl, w2, l1, l2, l3, l4, l5, l6, l7, l8, l9, X1⟩ := w
  have e2 : v9 = some (.int (iN (pin F))) := Sum.inl.inj w2
  subst e2
  refine (show Ev _ _ _ _ _ _ _ (.int (iN (pin F)) :: []) from ?_)
  obtain ⟨XC, Y1, f1, f2⟩ := lw_aft0 D X1 Y fa fd
  refine e_aload_n dL_law_1215 rfl ?_
  refine e_callV qcL_209 Y1.obj rfl rfl (M_inner Y1 hR Qq_QM_inner_hm) rfl rfl rfl (g_rm_of rfl (by show k + 1 + 0 ≤ 601024; omega) (by show n + 6 + 0 ≤ 7293034; omega)) dL_law_1216 (fun E9 z9 h9 w => nomatch (show (Sum.inr _ : g_O) = Sum.inl _ from w.2.1)) (fun v9 z9 h9 w => ?_)
  obtain ⟨rfl, w2, sc2, ar2, Y2, R2, c2⟩ := w
  have e2 : v9 = some (.int (iN (pin F))) := Sum.inl.inj w2
  subst e2
  refine (show Ev _ _ _ _ _ _ _ (.int (iN (pin F)) :: .int (iN (pin F)) :: []) from ?_)
  obtain ⟨WW, f3, f4⟩ := lw_end D XC Y2 R2 f1 f2
  rw [← iN_w32 (pin F)]
  refine e_icmp_eq (tgt := 2957) (r32_of _) (r32_of _) dL_law_1219 rfl (fun _ => ?_) (fun c9 => absurd rfl c9)
  refine e_loc [(5, .int (iN i)), (4, .ref ad), (3, .ref ao), (2, .ref m), (1, .ref o), (0, .ref bs)] ⟨rfl, rfl, rfl, rfl, rfl, rfl, trivial⟩ ?_
  exact kk _ WW
def QM_lies_hm (P E : PL) (S : Nat → PL) (b : Int) (P2 E2 : PL) (S2 : Nat → PL) (F : PL) : Prop := ∀ (x : Int) (y : Int), (if F.length = 0 then (-1 : Int) else sdI F x y) = wI F 1 x y
set_option maxRecDepth 20000 in
theorem lc_18 (W9 : lwW G P E S b P2 E2 S2 F o m ao ad h) (hi : 0 ≤ i) (hi5 : i + 5 ≤ L) (hL : L ≤ 2560) (hk : k + 1 ≤ 601024) (hn : n + 6 ≤ 7293034) (Qq_QM_lies_hm : QM_lies_hm P E S b P2 E2 S2 F) (kk : ∀ h1, lwW G P E S b P2 E2 S2 F o m ao ad h1 → Ev (lwE G bs L xs ZZ) (k + 1) (n + 6) none h1 2957 [(5, .int (iN i)), (4, .ref ad), (3, .ref ao), (2, .ref m), (1, .ref o), (0, .ref bs)] []) : Ev (lwE G bs L xs ZZ) k n none h 1224 [(5, .int (iN i)), (4, .ref ad), (3, .ref ao), (2, .ref m), (1, .ref o), (0, .ref bs)] [] := by
  obtain ⟨D, ⟨x1, x2, x3, x4, x5, x6, x7, x8, x9, X⟩, ⟨sc, ar, Y, hR⟩, ⟨ag, fa⟩, ⟨gd, fd⟩⟩ := W9
  refine e_aload_n dL_law_1224 rfl ?_
  refine e_aload_n dL_law_1225 rfl ?_
  refine e_iload dL_law_1226 rfl ?_
  refine e_iconst dL_law_1228 ?_
  refine e_iadd dL_law_1229 ?_
  refine e_sld (by omega) (by omega) hL dL_law_1230 ?_
  refine e_aload_n dL_law_1231 rfl ?_
  refine e_iload dL_law_1232 rfl ?_
  refine e_iconst dL_law_1234 ?_
  refine e_iadd dL_law_1235 ?_
  refine e_sld (by omega) (by omega) hL dL_law_1236 ?_
  refine e_callV qcL_210 X.obj rfl rfl (C_lies X (r32_sv _ _) (r32_sv _ _)) rfl rfl rfl (g_rm_of rfl hk hn) dL_law_1237 (fun E9 z9 h9 w => nomatch (show (Sum.inr _ : g_O) = Sum.inl _ from w.2.1)) (fun v9 z9 h9 w => ?_)
  obtain ⟨rfl, w2, l1, l2, l3, l4, l5, l6, l7, l8, l9, X1⟩ := w
  have e2 : v9 = some (.int (iN (wI F 1 (sv xs (i + 1)) (sv xs (i + 2))))) := Sum.inl.inj w2
  subst e2
  refine (show Ev _ _ _ _ _ _ _ (.int (iN (wI F 1 (sv xs (i + 1)) (sv xs (i + 2)))) :: []) from ?_)
  obtain ⟨XC, Y1, f1, f2⟩ := lw_aft0 D X1 Y fa fd
  refine e_aload_n dL_law_1240 rfl ?_
  refine e_aload_n dL_law_1241 rfl ?_
  refine e_iload dL_law_1242 rfl ?_
  refine e_iconst dL_law_1244 ?_
  refine e_iadd dL_law_1245 ?_
  refine e_sld (by omega) (by omega) hL dL_law_1246 ?_
  refine e_aload_n dL_law_1247 rfl ?_
  refine e_iload dL_law_1248 rfl ?_
  refine e_iconst dL_law_1250 ?_
  refine e_iadd dL_law_1251 ?_
  refine e_sld (by omega) (by omega) hL dL_law_1252 ?_
  refine e_callV qcL_213 Y1.obj rfl rfl (M_lies Y1 hR (r32_sv _ _) (r32_sv _ _) (Qq_QM_lies_hm _ _)) rfl rfl rfl (g_rm_of rfl (by show k + 1 + 0 ≤ 601024; omega) (by show n + 6 + 0 ≤ 7293034; omega)) dL_law_1253 (fun E9 z9 h9 w => nomatch (show (Sum.inr _ : g_O) = Sum.inl _ from w.2.1)) (fun v9 z9 h9 w => ?_)
  obtain ⟨rfl, w2, sc2, ar2, Y2, R2, c2⟩ := w
  have e2 : v9 = some (.int (iN (wI F 1 (sv xs (i + 1)) (sv xs (i + 2))))) := Sum.inl.inj w2
  subst e2
  refine (show Ev _ _ _ _ _ _ _ (.int (iN (wI F 1 (sv xs (i + 1)) (sv xs (i + 2)))) :: .int (iN (wI F 1 (sv xs (i + 1)) (sv xs (i + 2)))) :: []) from ?_)
  obtain ⟨WW, f3, f4⟩ := lw_end D XC Y2 R2 f1 f2
  rw [← iN_w32 (wI F 1 (sv xs (i + 1)) (sv xs (i + 2)))]
  refine e_icmp_eq (tgt := 2957) (r32_of _) (r32_of _) dL_law_1256 rfl (fun _ => ?_) (fun c9 => absurd rfl c9)
  refine e_loc [(5, .int (iN i)), (4, .ref ad), (3, .ref ao), (2, .ref m), (1, .ref o), (0, .ref bs)] ⟨rfl, rfl, rfl, rfl, rfl, rfl, trivial⟩ ?_
  exact kk _ WW
def QC_width_hS (P E : PL) (S : Nat → PL) (b : Int) (P2 E2 : PL) (S2 : Nat → PL) (F : PL) : Prop := okS F
def QM_width_hm (P E : PL) (S : Nat → PL) (b : Int) (P2 E2 : PL) (S2 : Nat → PL) (F : PL) : Prop := ∀  (u : Prop) [Decidable u], 3 ≤ F.length → (∀ u0, 0 < (wdM u0 F F.length).2) ∧ ∀ u0, sqW F u = if u then (wdM u0 F F.length).2.tdiv (wdG (wdM u0 F F.length).1 (wdM u0 F F.length).2) else (wdM u0 F F.length).1.tdiv (wdG (wdM u0 F F.length).1 (wdM u0 F F.length).2)
set_option maxRecDepth 20000 in
theorem lc_19 (W9 : lwW G P E S b P2 E2 S2 F o m ao ad h) (hi : 0 ≤ i) (hi5 : i + 5 ≤ L) (hL : L ≤ 2560) (hk : k + 1 ≤ 601024) (hn : n + 6 ≤ 7293034) (Qq_QC_width_hS : QC_width_hS P E S b P2 E2 S2 F) (Qq_QM_width_hm : QM_width_hm P E S b P2 E2 S2 F) (kk : ∀ h1, lwW G P E S b P2 E2 S2 F o m ao ad h1 → Ev (lwE G bs L xs ZZ) (k + 1) (n + 6) none h1 2957 [(5, .int (iN i)), (4, .ref ad), (3, .ref ao), (2, .ref m), (1, .ref o), (0, .ref bs)] []) : Ev (lwE G bs L xs ZZ) k n none h 1261 [(5, .int (iN i)), (4, .ref ad), (3, .ref ao), (2, .ref m), (1, .ref o), (0, .ref bs)] [] := by
  obtain ⟨D, ⟨x1, x2, x3, x4, x5, x6, x7, x8, x9, X⟩, ⟨sc, ar, Y, hR⟩, ⟨ag, fa⟩, ⟨gd, fd⟩⟩ := W9
  by_cases hu : sv xs (i + 1) = 0
  · have kc9 : ((k_width F False)).1 ≤ 1 := by first | exact kc_width | exact kc_width _ | exact kc_width _ _ | exact kc_width _ _ _ | exact kc_width _ _ _ _ | exact kc_width _ _ _ _ _
    have rk : r32 ((((k_width F False)).1 : Nat) : Int) := ⟨by omega, by omega⟩
    refine e_aload_n dL_law_1261 rfl ?_
    refine e_aload_n dL_law_1262 rfl ?_
    refine e_iload dL_law_1263 rfl ?_
    refine e_iconst dL_law_1265 ?_
    refine e_iadd dL_law_1266 ?_
    refine e_sld (by omega) (by omega) hL dL_law_1267 ?_
    refine e_if_eq (tgt := 1275) (r32_sv _ _) dL_law_1268 rfl (fun c9 => ?_) (fun c9 => absurd hu c9)
    refine e_iconst dL_law_1275 ?_
    refine e_aload_n dL_law_1276 rfl ?_
    refine e_callH qcL_214 (H_width X fa (by obtain ⟨rfl, rfl, rfl⟩ := D; omega) (u := False) Qq_QC_width_hS) rfl rfl rfl (g_rm_of rfl hk hn) dL_law_1277 (fun E9 z9 h9 w => nomatch w.2.1) (fun v9 z9 h9 w => ?_)
    obtain ⟨rfl, w2, hc, ⟨l1, l2, l3, l4, l5, l6, l7, l8, l9, X1⟩, rfl⟩ := w
    have e2 : v9 = some (.int (iN ((((k_width F False)).1 : Nat) : Int))) := Sum.inl.inj w2
    subst e2
    refine (show Ev _ _ _ _ _ _ _ (.int (iN ((((k_width F False)).1 : Nat) : Int)) :: []) from ?_)
    obtain ⟨XC, Y1, ⟨g1, f1, v1⟩, f2⟩ := lw_aft D X1 Y fa fd
    generalize upL G _ _ _ _ = hh at XC Y1 f1 f2 ⊢
    refine e_istore dL_law_1280 rfl ?_
    refine e_aload_n dL_law_1282 rfl ?_
    refine e_aload_n dL_law_1283 rfl ?_
    refine e_iload dL_law_1284 rfl ?_
    refine e_iconst dL_law_1286 ?_
    refine e_iadd dL_law_1287 ?_
    refine e_sld (by omega) (by omega) hL dL_law_1288 ?_
    refine e_if_eq (tgt := 1296) (r32_sv _ _) dL_law_1289 rfl (fun c9 => ?_) (fun c9 => absurd hu c9)
    refine e_iconst dL_law_1296 ?_
    refine e_callV qcL_217 Y1.obj rfl rfl (M_width Y1 hR (u := False) (Qq_QM_width_hm  False)) rfl rfl rfl (g_rm_of rfl (by show k + 1 + 0 ≤ 601024; omega) (by show n + 6 + 0 ≤ 7293034; omega)) dL_law_1297 (fun E9 z9 h9 w => nomatch (show (Sum.inr _ : g_O) = Sum.inl _ from w.2.1)) (fun v9 z9 h9 w => ?_)
    obtain ⟨rfl, w2, sc2, ar2, Y2, R2, c2⟩ := w
    have e2 : v9 = some (.long (lI ((k_width F False)).2)) := Sum.inl.inj w2
    subst e2
    refine (show Ev _ _ _ _ _ _ _ (.long (lI ((k_width F False)).2) :: []) from ?_)
    obtain ⟨WW, f3, f4⟩ := lw_end D XC Y2 R2 f1 f2
    refine e_lstore dL_law_1300 rfl ?_
    refine e_aload_n dL_law_1302 rfl ?_
    refine e_pureV qcL_149 Y2.obj rfl rfl (S_thrown Y2) rfl rfl rfl (g_rm_of rfl (by show k + 1 + 0 + 0 ≤ 601024; omega) (by show n + 6 + 0 + 0 ≤ 7293034; omega)) dL_law_1303 ?_
    rw [c2]
    refine e_iload dL_law_1306 rfl ?_
    refine e_icmp_eq (tgt := 1313) rk rk dL_law_1308 rfl (fun _ => ?_) (fun c9 => absurd rfl c9)
    refine e_iload dL_law_1313 rfl ?_
    refine e_if_ne (tgt := 1329) rk dL_law_1315 rfl (fun c_1315 => ?_) (fun c_1315 => ?_)
    · refine e_goto (tgt := 2957) dL_law_1329 rfl ?_
      refine e_loc [(5, .int (iN i)), (4, .ref ad), (3, .ref ao), (2, .ref m), (1, .ref o), (0, .ref bs)] ⟨rfl, rfl, rfl, rfl, rfl, rfl, trivial⟩ ?_
      exact kk _ WW
    · have hz : ((k_width F False)).1 = 0 := by omega
      refine e_aload_n dL_law_1318 rfl ?_
      refine e_iconst dL_law_1319 ?_
      refine e_laload f3 (by omega) (by omega) rfl dL_law_1320 ?_
      have e5 : g1 0 = ((k_width F False)).2 := v1 hz
      refine (show Ev _ _ _ _ _ _ _ (.long (lI (g1 0)) :: []) from ?_)
      rw [e5]
      refine e_lload dL_law_1321 rfl ?_
      rw [show lI ((k_width F False)).2 = lI (lI ((k_width F False)).2).toInt from (lI_asI _).symm]
      refine e_lif_eq (tgt := 1329) (r64_of _) (r64_of _) dL_law_1323 dL_law_1324 rfl (fun _ => ?_) (fun c9 => absurd rfl c9)
      refine e_goto (tgt := 2957) dL_law_1329 rfl ?_
      refine e_loc [(5, .int (iN i)), (4, .ref ad), (3, .ref ao), (2, .ref m), (1, .ref o), (0, .ref bs)] ⟨rfl, rfl, rfl, rfl, rfl, rfl, trivial⟩ ?_
      exact kk _ WW
  · have kc9 : ((k_width F True)).1 ≤ 1 := by first | exact kc_width | exact kc_width _ | exact kc_width _ _ | exact kc_width _ _ _ | exact kc_width _ _ _ _ | exact kc_width _ _ _ _ _
    have rk : r32 ((((k_width F True)).1 : Nat) : Int) := ⟨by omega, by omega⟩
    refine e_aload_n dL_law_1261 rfl ?_
    refine e_aload_n dL_law_1262 rfl ?_
    refine e_iload dL_law_1263 rfl ?_
    refine e_iconst dL_law_1265 ?_
    refine e_iadd dL_law_1266 ?_
    refine e_sld (by omega) (by omega) hL dL_law_1267 ?_
    refine e_if_eq (tgt := 1275) (r32_sv _ _) dL_law_1268 rfl (fun c9 => absurd c9 hu) (fun c9 => ?_)
    refine e_iconst dL_law_1271 ?_
    refine e_goto (tgt := 1276) dL_law_1272 rfl ?_
    refine e_aload_n dL_law_1276 rfl ?_
    refine e_callH qcL_214 (H_width X fa (by obtain ⟨rfl, rfl, rfl⟩ := D; omega) (u := True) Qq_QC_width_hS) rfl rfl rfl (g_rm_of rfl hk hn) dL_law_1277 (fun E9 z9 h9 w => nomatch w.2.1) (fun v9 z9 h9 w => ?_)
    obtain ⟨rfl, w2, hc, ⟨l1, l2, l3, l4, l5, l6, l7, l8, l9, X1⟩, rfl⟩ := w
    have e2 : v9 = some (.int (iN ((((k_width F True)).1 : Nat) : Int))) := Sum.inl.inj w2
    subst e2
    refine (show Ev _ _ _ _ _ _ _ (.int (iN ((((k_width F True)).1 : Nat) : Int)) :: []) from ?_)
    obtain ⟨XC, Y1, ⟨g1, f1, v1⟩, f2⟩ := lw_aft D X1 Y fa fd
    generalize upL G _ _ _ _ = hh at XC Y1 f1 f2 ⊢
    refine e_istore dL_law_1280 rfl ?_
    refine e_aload_n dL_law_1282 rfl ?_
    refine e_aload_n dL_law_1283 rfl ?_
    refine e_iload dL_law_1284 rfl ?_
    refine e_iconst dL_law_1286 ?_
    refine e_iadd dL_law_1287 ?_
    refine e_sld (by omega) (by omega) hL dL_law_1288 ?_
    refine e_if_eq (tgt := 1296) (r32_sv _ _) dL_law_1289 rfl (fun c9 => absurd c9 hu) (fun c9 => ?_)
    refine e_iconst dL_law_1292 ?_
    refine e_goto (tgt := 1297) dL_law_1293 rfl ?_
    refine e_callV qcL_217 Y1.obj rfl rfl (M_width Y1 hR (u := True) (Qq_QM_width_hm  True)) rfl rfl rfl (g_rm_of rfl (by show k + 1 + 0 ≤ 601024; omega) (by show n + 6 + 0 ≤ 7293034; omega)) dL_law_1297 (fun E9 z9 h9 w => nomatch (show (Sum.inr _ : g_O) = Sum.inl _ from w.2.1)) (fun v9 z9 h9 w => ?_)
    obtain ⟨rfl, w2, sc2, ar2, Y2, R2, c2⟩ := w
    have e2 : v9 = some (.long (lI ((k_width F True)).2)) := Sum.inl.inj w2
    subst e2
    refine (show Ev _ _ _ _ _ _ _ (.long (lI ((k_width F True)).2) :: []) from ?_)
    obtain ⟨WW, f3, f4⟩ := lw_end D XC Y2 R2 f1 f2
    refine e_lstore dL_law_1300 rfl ?_
    refine e_aload_n dL_law_1302 rfl ?_
    refine e_pureV qcL_149 Y2.obj rfl rfl (S_thrown Y2) rfl rfl rfl (g_rm_of rfl (by show k + 1 + 0 + 0 ≤ 601024; omega) (by show n + 6 + 0 + 0 ≤ 7293034; omega)) dL_law_1303 ?_
    rw [c2]
    refine e_iload dL_law_1306 rfl ?_
    refine e_icmp_eq (tgt := 1313) rk rk dL_law_1308 rfl (fun _ => ?_) (fun c9 => absurd rfl c9)
    refine e_iload dL_law_1313 rfl ?_
    refine e_if_ne (tgt := 1329) rk dL_law_1315 rfl (fun c_1315 => ?_) (fun c_1315 => ?_)
    · refine e_goto (tgt := 2957) dL_law_1329 rfl ?_
      refine e_loc [(5, .int (iN i)), (4, .ref ad), (3, .ref ao), (2, .ref m), (1, .ref o), (0, .ref bs)] ⟨rfl, rfl, rfl, rfl, rfl, rfl, trivial⟩ ?_
      exact kk _ WW
    · have hz : ((k_width F True)).1 = 0 := by omega
      refine e_aload_n dL_law_1318 rfl ?_
      refine e_iconst dL_law_1319 ?_
      refine e_laload f3 (by omega) (by omega) rfl dL_law_1320 ?_
      have e5 : g1 0 = ((k_width F True)).2 := v1 hz
      refine (show Ev _ _ _ _ _ _ _ (.long (lI (g1 0)) :: []) from ?_)
      rw [e5]
      refine e_lload dL_law_1321 rfl ?_
      rw [show lI ((k_width F True)).2 = lI (lI ((k_width F True)).2).toInt from (lI_asI _).symm]
      refine e_lif_eq (tgt := 1329) (r64_of _) (r64_of _) dL_law_1323 dL_law_1324 rfl (fun _ => ?_) (fun c9 => absurd rfl c9)
      refine e_goto (tgt := 2957) dL_law_1329 rfl ?_
      refine e_loc [(5, .int (iN i)), (4, .ref ad), (3, .ref ao), (2, .ref m), (1, .ref o), (0, .ref bs)] ⟨rfl, rfl, rfl, rfl, rfl, rfl, trivial⟩ ?_
      exact kk _ WW
set_option maxRecDepth 20000 in
theorem lc_20 (W9 : lwW G P E S b P2 E2 S2 F o m ao ad h) (hi : 0 ≤ i) (hi5 : i + 5 ≤ L) (hL : L ≤ 2560) (hk : k + 1 ≤ 601024) (hn : n + 6 ≤ 7293034)  (kk : ∀ h1, lwW G P E (s_add S (sv xs (i + 1)) (sv xs (i + 2)) (sv xs (i + 3))) b P2 E2 S2 F o m ao ad h1 → Ev (lwE G bs L xs ZZ) (k + 1) (n + 6) none h1 2957 [(5, .int (iN i)), (4, .ref ad), (3, .ref ao), (2, .ref m), (1, .ref o), (0, .ref bs)] []) : Ev (lwE G bs L xs ZZ) k n none h 1332 [(5, .int (iN i)), (4, .ref ad), (3, .ref ao), (2, .ref m), (1, .ref o), (0, .ref bs)] [] := by
  obtain ⟨D, ⟨x1, x2, x3, x4, x5, x6, x7, x8, x9, X⟩, ⟨sc, ar, Y, hR⟩, ⟨ag, fa⟩, ⟨gd, fd⟩⟩ := W9
  have kc9 : ((k_add S (sv xs (i + 1)) (sv xs (i + 2)) (sv xs (i + 3)))).1 ≤ 2 := by first | exact kc_add | exact kc_add _ | exact kc_add _ _ | exact kc_add _ _ _ | exact kc_add _ _ _ _ | exact kc_add _ _ _ _ _
  have rk : r32 ((((k_add S (sv xs (i + 1)) (sv xs (i + 2)) (sv xs (i + 3)))).1 : Nat) : Int) := ⟨by omega, by omega⟩
  refine e_aload_n dL_law_1332 rfl ?_
  refine e_aload_n dL_law_1333 rfl ?_
  refine e_iload dL_law_1334 rfl ?_
  refine e_iconst dL_law_1336 ?_
  refine e_iadd dL_law_1337 ?_
  refine e_sld (by omega) (by omega) hL dL_law_1338 ?_
  refine e_aload_n dL_law_1339 rfl ?_
  refine e_iload dL_law_1340 rfl ?_
  refine e_iconst dL_law_1342 ?_
  refine e_iadd dL_law_1343 ?_
  refine e_sld (by omega) (by omega) hL dL_law_1344 ?_
  refine e_aload_n dL_law_1345 rfl ?_
  refine e_iload dL_law_1346 rfl ?_
  refine e_iconst dL_law_1348 ?_
  refine e_iadd dL_law_1349 ?_
  refine e_sld (by omega) (by omega) hL dL_law_1350 ?_
  refine e_aload_n dL_law_1351 rfl ?_
  refine e_callH qcL_218 (H_add X fa (by obtain ⟨rfl, rfl, rfl⟩ := D; omega) (r32_sv _ _) (r32_sv _ _) (r32_sv _ _)) rfl rfl rfl (g_rm_of rfl hk hn) dL_law_1352 (fun E9 z9 h9 w => nomatch w.2.1) (fun v9 z9 h9 w => ?_)
  obtain ⟨rfl, w2, hc, ⟨l1, l2, l3, l4, l5, l6, l7, l8, l9, X1⟩, rfl⟩ := w
  have e2 : v9 = some (.int (iN ((((k_add S (sv xs (i + 1)) (sv xs (i + 2)) (sv xs (i + 3)))).1 : Nat) : Int))) := Sum.inl.inj w2
  subst e2
  refine (show Ev _ _ _ _ _ _ _ (.int (iN ((((k_add S (sv xs (i + 1)) (sv xs (i + 2)) (sv xs (i + 3)))).1 : Nat) : Int)) :: []) from ?_)
  obtain ⟨XC, Y1, ⟨g1, f1, v1⟩, f2⟩ := lw_aft D X1 Y fa fd
  generalize upL G _ _ _ _ = hh at XC Y1 f1 f2 ⊢
  refine e_istore dL_law_1355 rfl ?_
  refine e_aload_n dL_law_1357 rfl ?_
  refine e_aload_n dL_law_1358 rfl ?_
  refine e_iload dL_law_1359 rfl ?_
  refine e_iconst dL_law_1361 ?_
  refine e_iadd dL_law_1362 ?_
  refine e_sld (by omega) (by omega) hL dL_law_1363 ?_
  refine e_aload_n dL_law_1364 rfl ?_
  refine e_iload dL_law_1365 rfl ?_
  refine e_iconst dL_law_1367 ?_
  refine e_iadd dL_law_1368 ?_
  refine e_sld (by omega) (by omega) hL dL_law_1369 ?_
  refine e_aload_n dL_law_1370 rfl ?_
  refine e_iload dL_law_1371 rfl ?_
  refine e_iconst dL_law_1373 ?_
  refine e_iadd dL_law_1374 ?_
  refine e_sld (by omega) (by omega) hL dL_law_1375 ?_
  refine e_callV qcL_220 Y1.obj rfl rfl (M_add Y1 hR (r32_sv _ _) (r32_sv _ _) (r32_sv _ _)) rfl rfl rfl (g_rm_of rfl (by show k + 1 + 0 ≤ 601024; omega) (by show n + 6 + 0 ≤ 7293034; omega)) dL_law_1376 (fun E9 z9 h9 w => nomatch (show (Sum.inr _ : g_O) = Sum.inl _ from w.2.1)) (fun v9 z9 h9 w => ?_)
  obtain ⟨rfl, w2, sc2, ar2, Y2, R2, c2⟩ := w
  have e2 : v9 = some (.int (iN ((k_add S (sv xs (i + 1)) (sv xs (i + 2)) (sv xs (i + 3)))).2)) := Sum.inl.inj w2
  subst e2
  refine (show Ev _ _ _ _ _ _ _ (.int (iN ((k_add S (sv xs (i + 1)) (sv xs (i + 2)) (sv xs (i + 3)))).2) :: []) from ?_)
  obtain ⟨WW, f3, f4⟩ := lw_end D XC Y2 R2 f1 f2
  refine e_istore dL_law_1379 rfl ?_
  refine e_aload_n dL_law_1381 rfl ?_
  refine e_pureV qcL_149 Y2.obj rfl rfl (S_thrown Y2) rfl rfl rfl (g_rm_of rfl (by show k + 1 + 0 + 0 ≤ 601024; omega) (by show n + 6 + 0 + 0 ≤ 7293034; omega)) dL_law_1382 ?_
  rw [c2]
  refine e_iload dL_law_1385 rfl ?_
  refine e_icmp_eq (tgt := 1392) rk rk dL_law_1387 rfl (fun _ => ?_) (fun c9 => absurd rfl c9)
  refine e_iload dL_law_1392 rfl ?_
  refine e_if_ne (tgt := 1409) rk dL_law_1394 rfl (fun c_1394 => ?_) (fun c_1394 => ?_)
  · refine e_goto (tgt := 2957) dL_law_1409 rfl ?_
    refine e_loc [(5, .int (iN i)), (4, .ref ad), (3, .ref ao), (2, .ref m), (1, .ref o), (0, .ref bs)] ⟨rfl, rfl, rfl, rfl, rfl, rfl, trivial⟩ ?_
    exact kk _ WW
  · have hz : ((k_add S (sv xs (i + 1)) (sv xs (i + 2)) (sv xs (i + 3)))).1 = 0 := by omega
    refine e_aload_n dL_law_1397 rfl ?_
    refine e_iconst dL_law_1398 ?_
    refine e_laload f3 (by omega) (by omega) rfl dL_law_1399 ?_
    have e5 : g1 0 = w32 ((k_add S (sv xs (i + 1)) (sv xs (i + 2)) (sv xs (i + 3)))).2 := v1 hz
    refine (show Ev _ _ _ _ _ _ _ (.long (lI (g1 0)) :: []) from ?_)
    rw [e5]
    refine e_iload dL_law_1400 rfl ?_
    rw [← iN_w32 ((k_add S (sv xs (i + 1)) (sv xs (i + 2)) (sv xs (i + 3)))).2]
    refine e_i2l (r32_of _) dL_law_1402 ?_
    refine e_lif_eq (tgt := 1409) (r64_w32 _) (r64_w32 _) dL_law_1403 dL_law_1404 rfl (fun _ => ?_) (fun c9 => absurd rfl c9)
    refine e_goto (tgt := 2957) dL_law_1409 rfl ?_
    refine e_loc [(5, .int (iN i)), (4, .ref ad), (3, .ref ao), (2, .ref m), (1, .ref o), (0, .ref bs)] ⟨rfl, rfl, rfl, rfl, rfl, rfl, trivial⟩ ?_
    exact kk _ WW
set_option maxRecDepth 20000 in
theorem lc_21 (W9 : lwW G P E S b P2 E2 S2 F o m ao ad h) (hi : 0 ≤ i) (hi5 : i + 5 ≤ L) (hL : L ≤ 2560) (hk : k + 1 ≤ 601024) (hn : n + 6 ≤ 7293034)  (kk : ∀ h1, lwW G P E (s_clear S (sv xs (i + 1))) b P2 E2 S2 F o m ao ad h1 → Ev (lwE G bs L xs ZZ) (k + 1) (n + 6) none h1 2957 [(5, .int (iN i)), (4, .ref ad), (3, .ref ao), (2, .ref m), (1, .ref o), (0, .ref bs)] []) : Ev (lwE G bs L xs ZZ) k n none h 1412 [(5, .int (iN i)), (4, .ref ad), (3, .ref ao), (2, .ref m), (1, .ref o), (0, .ref bs)] [] := by
  obtain ⟨D, ⟨x1, x2, x3, x4, x5, x6, x7, x8, x9, X⟩, ⟨sc, ar, Y, hR⟩, ⟨ag, fa⟩, ⟨gd, fd⟩⟩ := W9
  have kc9 : ((k_clear S (sv xs (i + 1)))).1 ≤ 1 := by first | exact kc_clear | exact kc_clear _ | exact kc_clear _ _ | exact kc_clear _ _ _ | exact kc_clear _ _ _ _ | exact kc_clear _ _ _ _ _
  have rk : r32 ((((k_clear S (sv xs (i + 1)))).1 : Nat) : Int) := ⟨by omega, by omega⟩
  refine e_aload_n dL_law_1412 rfl ?_
  refine e_aload_n dL_law_1413 rfl ?_
  refine e_iload dL_law_1414 rfl ?_
  refine e_iconst dL_law_1416 ?_
  refine e_iadd dL_law_1417 ?_
  refine e_sld (by omega) (by omega) hL dL_law_1418 ?_
  refine e_aload_n dL_law_1419 rfl ?_
  refine e_callH qcL_221 (H_clear X fa (by obtain ⟨rfl, rfl, rfl⟩ := D; omega) (r32_sv _ _)) rfl rfl rfl (g_rm_of rfl hk hn) dL_law_1420 (fun E9 z9 h9 w => nomatch w.2.1) (fun v9 z9 h9 w => ?_)
  obtain ⟨rfl, w2, hc, ⟨l1, l2, l3, l4, l5, l6, l7, l8, l9, X1⟩, rfl⟩ := w
  have e2 : v9 = some (.int (iN ((((k_clear S (sv xs (i + 1)))).1 : Nat) : Int))) := Sum.inl.inj w2
  subst e2
  refine (show Ev _ _ _ _ _ _ _ (.int (iN ((((k_clear S (sv xs (i + 1)))).1 : Nat) : Int)) :: []) from ?_)
  obtain ⟨XC, Y1, ⟨g1, f1, v1⟩, f2⟩ := lw_aft D X1 Y fa fd
  generalize upL G _ _ _ _ = hh at XC Y1 f1 f2 ⊢
  refine e_istore dL_law_1423 rfl ?_
  refine e_aload_n dL_law_1425 rfl ?_
  refine e_aload_n dL_law_1426 rfl ?_
  refine e_iload dL_law_1427 rfl ?_
  refine e_iconst dL_law_1429 ?_
  refine e_iadd dL_law_1430 ?_
  refine e_sld (by omega) (by omega) hL dL_law_1431 ?_
  refine e_callV qcL_223 Y1.obj rfl rfl (M_clear Y1 hR (r32_sv _ _)) rfl rfl rfl (g_rm_of rfl (by show k + 1 + 0 ≤ 601024; omega) (by show n + 6 + 0 ≤ 7293034; omega)) dL_law_1432 (fun E9 z9 h9 w => nomatch (show (Sum.inr _ : g_O) = Sum.inl _ from w.2.1)) (fun v9 z9 h9 w => ?_)
  obtain ⟨rfl, w2, sc2, ar2, Y2, R2, c2⟩ := w
  have e2 : v9 = some (.int (iN ((k_clear S (sv xs (i + 1)))).2)) := Sum.inl.inj w2
  subst e2
  refine (show Ev _ _ _ _ _ _ _ (.int (iN ((k_clear S (sv xs (i + 1)))).2) :: []) from ?_)
  obtain ⟨WW, f3, f4⟩ := lw_end D XC Y2 R2 f1 f2
  refine e_istore dL_law_1435 rfl ?_
  refine e_aload_n dL_law_1437 rfl ?_
  refine e_pureV qcL_149 Y2.obj rfl rfl (S_thrown Y2) rfl rfl rfl (g_rm_of rfl (by show k + 1 + 0 + 0 ≤ 601024; omega) (by show n + 6 + 0 + 0 ≤ 7293034; omega)) dL_law_1438 ?_
  rw [c2]
  refine e_iload dL_law_1441 rfl ?_
  refine e_icmp_eq (tgt := 1448) rk rk dL_law_1443 rfl (fun _ => ?_) (fun c9 => absurd rfl c9)
  refine e_iload dL_law_1448 rfl ?_
  refine e_if_ne (tgt := 1465) rk dL_law_1450 rfl (fun c_1450 => ?_) (fun c_1450 => ?_)
  · refine e_goto (tgt := 2957) dL_law_1465 rfl ?_
    refine e_loc [(5, .int (iN i)), (4, .ref ad), (3, .ref ao), (2, .ref m), (1, .ref o), (0, .ref bs)] ⟨rfl, rfl, rfl, rfl, rfl, rfl, trivial⟩ ?_
    exact kk _ WW
  · have hz : ((k_clear S (sv xs (i + 1)))).1 = 0 := by omega
    refine e_aload_n dL_law_1453 rfl ?_
    refine e_iconst dL_law_1454 ?_
    refine e_laload f3 (by omega) (by omega) rfl dL_law_1455 ?_
    have e5 : g1 0 = w32 ((k_clear S (sv xs (i + 1)))).2 := v1 hz
    refine (show Ev _ _ _ _ _ _ _ (.long (lI (g1 0)) :: []) from ?_)
    rw [e5]
    refine e_iload dL_law_1456 rfl ?_
    rw [← iN_w32 ((k_clear S (sv xs (i + 1)))).2]
    refine e_i2l (r32_of _) dL_law_1458 ?_
    refine e_lif_eq (tgt := 1465) (r64_w32 _) (r64_w32 _) dL_law_1459 dL_law_1460 rfl (fun _ => ?_) (fun c9 => absurd rfl c9)
    refine e_goto (tgt := 2957) dL_law_1465 rfl ?_
    refine e_loc [(5, .int (iN i)), (4, .ref ad), (3, .ref ao), (2, .ref m), (1, .ref o), (0, .ref bs)] ⟨rfl, rfl, rfl, rfl, rfl, rfl, trivial⟩ ?_
    exact kk _ WW
def QM_isSimple_hgc (P E : PL) (S : Nat → PL) (b : Int) (P2 E2 : PL) (S2 : Nat → PL) (F : PL) : Prop := ∀ g, g < 4 → (gdM (S g) ↔ closes (S g))
set_option maxRecDepth 20000 in
theorem lc_22 (W9 : lwW G P E S b P2 E2 S2 F o m ao ad h) (hi : 0 ≤ i) (hi5 : i + 5 ≤ L) (hL : L ≤ 2560) (hk : k + 1 ≤ 601024) (hn : n + 6 ≤ 7293034) (Qq_QM_isSimple_hgc : QM_isSimple_hgc P E S b P2 E2 S2 F) (kk : ∀ h1, lwW G P E S b P2 E2 S2 F o m ao ad h1 → Ev (lwE G bs L xs ZZ) (k + 1) (n + 6) none h1 2957 [(5, .int (iN i)), (4, .ref ad), (3, .ref ao), (2, .ref m), (1, .ref o), (0, .ref bs)] []) : Ev (lwE G bs L xs ZZ) k n none h 1468 [(5, .int (iN i)), (4, .ref ad), (3, .ref ao), (2, .ref m), (1, .ref o), (0, .ref bs)] [] := by
  obtain ⟨D, ⟨x1, x2, x3, x4, x5, x6, x7, x8, x9, X⟩, ⟨sc, ar, Y, hR⟩, ⟨ag, fa⟩, ⟨gd, fd⟩⟩ := W9
  have kc9 : ((k_isSimple S (sv xs (i + 1)))).1 ≤ 1 := by first | exact kc_isSimple | exact kc_isSimple _ | exact kc_isSimple _ _ | exact kc_isSimple _ _ _ | exact kc_isSimple _ _ _ _ | exact kc_isSimple _ _ _ _ _
  have rk : r32 ((((k_isSimple S (sv xs (i + 1)))).1 : Nat) : Int) := ⟨by omega, by omega⟩
  refine e_aload_n dL_law_1468 rfl ?_
  refine e_aload_n dL_law_1469 rfl ?_
  refine e_iload dL_law_1470 rfl ?_
  refine e_iconst dL_law_1472 ?_
  refine e_iadd dL_law_1473 ?_
  refine e_sld (by omega) (by omega) hL dL_law_1474 ?_
  refine e_aload_n dL_law_1475 rfl ?_
  refine e_callH qcL_224 (H_isSimple X fa (by obtain ⟨rfl, rfl, rfl⟩ := D; omega) (r32_sv _ _)) rfl rfl rfl (g_rm_of rfl hk hn) dL_law_1476 (fun E9 z9 h9 w => nomatch w.2.1) (fun v9 z9 h9 w => ?_)
  obtain ⟨rfl, w2, hc, ⟨l1, l2, l3, l4, l5, l6, l7, l8, l9, X1⟩, rfl⟩ := w
  have e2 : v9 = some (.int (iN ((((k_isSimple S (sv xs (i + 1)))).1 : Nat) : Int))) := Sum.inl.inj w2
  subst e2
  refine (show Ev _ _ _ _ _ _ _ (.int (iN ((((k_isSimple S (sv xs (i + 1)))).1 : Nat) : Int)) :: []) from ?_)
  obtain ⟨XC, Y1, ⟨g1, f1, v1⟩, f2⟩ := lw_aft D X1 Y fa fd
  generalize upL G _ _ _ _ = hh at XC Y1 f1 f2 ⊢
  refine e_istore dL_law_1479 rfl ?_
  refine e_aload_n dL_law_1481 rfl ?_
  refine e_aload_n dL_law_1482 rfl ?_
  refine e_iload dL_law_1483 rfl ?_
  refine e_iconst dL_law_1485 ?_
  refine e_iadd dL_law_1486 ?_
  refine e_sld (by omega) (by omega) hL dL_law_1487 ?_
  refine e_callV qcL_226 Y1.obj rfl rfl (M_isSimple Y1 hR (r32_sv _ _) Qq_QM_isSimple_hgc) rfl rfl rfl (g_rm_of rfl (by show k + 1 + 0 ≤ 601024; omega) (by show n + 6 + 0 ≤ 7293034; omega)) dL_law_1488 (fun E9 z9 h9 w => nomatch (show (Sum.inr _ : g_O) = Sum.inl _ from w.2.1)) (fun v9 z9 h9 w => ?_)
  obtain ⟨rfl, w2, sc2, ar2, Y2, R2, c2⟩ := w
  have e2 : v9 = some (.int (iN ((k_isSimple S (sv xs (i + 1)))).2)) := Sum.inl.inj w2
  subst e2
  refine (show Ev _ _ _ _ _ _ _ (.int (iN ((k_isSimple S (sv xs (i + 1)))).2) :: []) from ?_)
  obtain ⟨WW, f3, f4⟩ := lw_end D XC Y2 R2 f1 f2
  refine e_istore dL_law_1491 rfl ?_
  refine e_aload_n dL_law_1493 rfl ?_
  refine e_pureV qcL_149 Y2.obj rfl rfl (S_thrown Y2) rfl rfl rfl (g_rm_of rfl (by show k + 1 + 0 + 0 ≤ 601024; omega) (by show n + 6 + 0 + 0 ≤ 7293034; omega)) dL_law_1494 ?_
  rw [c2]
  refine e_iload dL_law_1497 rfl ?_
  refine e_icmp_eq (tgt := 1504) rk rk dL_law_1499 rfl (fun _ => ?_) (fun c9 => absurd rfl c9)
  refine e_iload dL_law_1504 rfl ?_
  refine e_if_ne (tgt := 1528) rk dL_law_1506 rfl (fun c_1506 => ?_) (fun c_1506 => ?_)
  · refine e_goto (tgt := 2957) dL_law_1528 rfl ?_
    refine e_loc [(5, .int (iN i)), (4, .ref ad), (3, .ref ao), (2, .ref m), (1, .ref o), (0, .ref bs)] ⟨rfl, rfl, rfl, rfl, rfl, rfl, trivial⟩ ?_
    exact kk _ WW
  · have hz : ((k_isSimple S (sv xs (i + 1)))).1 = 0 := by omega
    refine e_aload_n dL_law_1509 rfl ?_
    refine e_iconst dL_law_1510 ?_
    refine e_laload f3 (by omega) (by omega) rfl dL_law_1511 ?_
    have e5 : g1 0 = (if w32 ((k_isSimple S (sv xs (i + 1)))).2 = 0 then (0 : Int) else 1) := v1 hz
    refine (show Ev _ _ _ _ _ _ _ (.long (lI (g1 0)) :: []) from ?_)
    rw [e5]
    refine e_iload dL_law_1512 rfl ?_
    rw [← iN_w32 ((k_isSimple S (sv xs (i + 1)))).2]
    refine e_if_eq (tgt := 1521) (r32_of _) dL_law_1514 rfl (fun c_1514 => ?_) (fun c_1514 => ?_)
    · rw [if_pos c_1514]
      refine e_lconst dL_law_1521 ?_
      refine e_lif_eq (tgt := 1528) ⟨by decide, by decide⟩ ⟨by decide, by decide⟩ dL_law_1522 dL_law_1523 rfl (fun _ => ?_) (fun c9 => absurd rfl c9)
      refine e_goto (tgt := 2957) dL_law_1528 rfl ?_
      refine e_loc [(5, .int (iN i)), (4, .ref ad), (3, .ref ao), (2, .ref m), (1, .ref o), (0, .ref bs)] ⟨rfl, rfl, rfl, rfl, rfl, rfl, trivial⟩ ?_
      exact kk _ WW
    · rw [if_neg c_1514]
      refine e_lconst dL_law_1517 ?_
      refine e_goto (tgt := 1522) dL_law_1518 rfl ?_
      refine e_lif_eq (tgt := 1528) ⟨by decide, by decide⟩ ⟨by decide, by decide⟩ dL_law_1522 dL_law_1523 rfl (fun _ => ?_) (fun c9 => absurd rfl c9)
      refine e_goto (tgt := 2957) dL_law_1528 rfl ?_
      refine e_loc [(5, .int (iN i)), (4, .ref ad), (3, .ref ao), (2, .ref m), (1, .ref o), (0, .ref bs)] ⟨rfl, rfl, rfl, rfl, rfl, rfl, trivial⟩ ?_
      exact kk _ WW
set_option maxRecDepth 20000 in
theorem lc_23 (W9 : lwW G P E S b P2 E2 S2 F o m ao ad h) (hi : 0 ≤ i) (hi5 : i + 5 ≤ L) (hL : L ≤ 2560) (hk : k + 1 ≤ 601024) (hn : n + 6 ≤ 7293034)  (kk : ∀ h1, lwW G P E S b P2 E2 S2 F o m ao ad h1 → Ev (lwE G bs L xs ZZ) (k + 1) (n + 6) none h1 2957 [(5, .int (iN i)), (4, .ref ad), (3, .ref ao), (2, .ref m), (1, .ref o), (0, .ref bs)] []) : Ev (lwE G bs L xs ZZ) k n none h 1531 [(5, .int (iN i)), (4, .ref ad), (3, .ref ao), (2, .ref m), (1, .ref o), (0, .ref bs)] [] := by
  obtain ⟨D, ⟨x1, x2, x3, x4, x5, x6, x7, x8, x9, X⟩, ⟨sc, ar, Y, hR⟩, ⟨ag, fa⟩, ⟨gd, fd⟩⟩ := W9
  have kc9 : ((k_polygonArea S (sv xs (i + 1)))).1 ≤ 1 := by first | exact kc_polygonArea | exact kc_polygonArea _ | exact kc_polygonArea _ _ | exact kc_polygonArea _ _ _ | exact kc_polygonArea _ _ _ _ | exact kc_polygonArea _ _ _ _ _
  have rk : r32 ((((k_polygonArea S (sv xs (i + 1)))).1 : Nat) : Int) := ⟨by omega, by omega⟩
  refine e_aload_n dL_law_1531 rfl ?_
  refine e_aload_n dL_law_1532 rfl ?_
  refine e_iload dL_law_1533 rfl ?_
  refine e_iconst dL_law_1535 ?_
  refine e_iadd dL_law_1536 ?_
  refine e_sld (by omega) (by omega) hL dL_law_1537 ?_
  refine e_aload_n dL_law_1538 rfl ?_
  refine e_callH qcL_227 (H_polygonArea X fa (by obtain ⟨rfl, rfl, rfl⟩ := D; omega) (r32_sv _ _)) rfl rfl rfl (g_rm_of rfl hk hn) dL_law_1539 (fun E9 z9 h9 w => nomatch w.2.1) (fun v9 z9 h9 w => ?_)
  obtain ⟨rfl, w2, hc, ⟨l1, l2, l3, l4, l5, l6, l7, l8, l9, X1⟩, rfl⟩ := w
  have e2 : v9 = some (.int (iN ((((k_polygonArea S (sv xs (i + 1)))).1 : Nat) : Int))) := Sum.inl.inj w2
  subst e2
  refine (show Ev _ _ _ _ _ _ _ (.int (iN ((((k_polygonArea S (sv xs (i + 1)))).1 : Nat) : Int)) :: []) from ?_)
  obtain ⟨XC, Y1, ⟨g1, f1, v1⟩, f2⟩ := lw_aft D X1 Y fa fd
  generalize upL G _ _ _ _ = hh at XC Y1 f1 f2 ⊢
  refine e_istore dL_law_1542 rfl ?_
  refine e_aload_n dL_law_1544 rfl ?_
  refine e_aload_n dL_law_1545 rfl ?_
  refine e_iload dL_law_1546 rfl ?_
  refine e_iconst dL_law_1548 ?_
  refine e_iadd dL_law_1549 ?_
  refine e_sld (by omega) (by omega) hL dL_law_1550 ?_
  refine e_callV qcL_229 Y1.obj rfl rfl (M_polygonArea Y1 hR (r32_sv _ _)) rfl rfl rfl (g_rm_of rfl (by show k + 1 + 0 ≤ 601024; omega) (by show n + 6 + 0 ≤ 7293034; omega)) dL_law_1551 (fun E9 z9 h9 w => nomatch (show (Sum.inr _ : g_O) = Sum.inl _ from w.2.1)) (fun v9 z9 h9 w => ?_)
  obtain ⟨rfl, w2, sc2, ar2, Y2, R2, c2⟩ := w
  have e2 : v9 = some (.int (iN ((k_polygonArea S (sv xs (i + 1)))).2)) := Sum.inl.inj w2
  subst e2
  refine (show Ev _ _ _ _ _ _ _ (.int (iN ((k_polygonArea S (sv xs (i + 1)))).2) :: []) from ?_)
  obtain ⟨WW, f3, f4⟩ := lw_end D XC Y2 R2 f1 f2
  refine e_istore dL_law_1554 rfl ?_
  refine e_aload_n dL_law_1556 rfl ?_
  refine e_pureV qcL_149 Y2.obj rfl rfl (S_thrown Y2) rfl rfl rfl (g_rm_of rfl (by show k + 1 + 0 + 0 ≤ 601024; omega) (by show n + 6 + 0 + 0 ≤ 7293034; omega)) dL_law_1557 ?_
  rw [c2]
  refine e_iload dL_law_1560 rfl ?_
  refine e_icmp_eq (tgt := 1567) rk rk dL_law_1562 rfl (fun _ => ?_) (fun c9 => absurd rfl c9)
  refine e_iload dL_law_1567 rfl ?_
  refine e_if_ne (tgt := 1584) rk dL_law_1569 rfl (fun c_1569 => ?_) (fun c_1569 => ?_)
  · refine e_goto (tgt := 2957) dL_law_1584 rfl ?_
    refine e_loc [(5, .int (iN i)), (4, .ref ad), (3, .ref ao), (2, .ref m), (1, .ref o), (0, .ref bs)] ⟨rfl, rfl, rfl, rfl, rfl, rfl, trivial⟩ ?_
    exact kk _ WW
  · have hz : ((k_polygonArea S (sv xs (i + 1)))).1 = 0 := by omega
    refine e_aload_n dL_law_1572 rfl ?_
    refine e_iconst dL_law_1573 ?_
    refine e_laload f3 (by omega) (by omega) rfl dL_law_1574 ?_
    have e5 : g1 0 = w32 ((k_polygonArea S (sv xs (i + 1)))).2 := v1 hz
    refine (show Ev _ _ _ _ _ _ _ (.long (lI (g1 0)) :: []) from ?_)
    rw [e5]
    refine e_iload dL_law_1575 rfl ?_
    rw [← iN_w32 ((k_polygonArea S (sv xs (i + 1)))).2]
    refine e_i2l (r32_of _) dL_law_1577 ?_
    refine e_lif_eq (tgt := 1584) (r64_w32 _) (r64_w32 _) dL_law_1578 dL_law_1579 rfl (fun _ => ?_) (fun c9 => absurd rfl c9)
    refine e_goto (tgt := 2957) dL_law_1584 rfl ?_
    refine e_loc [(5, .int (iN i)), (4, .ref ad), (3, .ref ao), (2, .ref m), (1, .ref o), (0, .ref bs)] ⟨rfl, rfl, rfl, rfl, rfl, rfl, trivial⟩ ?_
    exact kk _ WW
def QM_polygonEdge_hgc (P E : PL) (S : Nat → PL) (b : Int) (P2 E2 : PL) (S2 : Nat → PL) (F : PL) : Prop := ∀ g, g < 4 → (gdM (S g) ↔ closes (S g))
set_option maxRecDepth 20000 in
theorem lc_24 (W9 : lwW G P E S b P2 E2 S2 F o m ao ad h) (hi : 0 ≤ i) (hi5 : i + 5 ≤ L) (hL : L ≤ 2560) (hk : k + 1 ≤ 601024) (hn : n + 6 ≤ 7293034) (Qq_QM_polygonEdge_hgc : QM_polygonEdge_hgc P E S b P2 E2 S2 F) (kk : ∀ h1, lwW G P E S b P2 E2 S2 F o m ao ad h1 → Ev (lwE G bs L xs ZZ) (k + 1) (n + 6) none h1 2957 [(5, .int (iN i)), (4, .ref ad), (3, .ref ao), (2, .ref m), (1, .ref o), (0, .ref bs)] []) : Ev (lwE G bs L xs ZZ) k n none h 1587 [(5, .int (iN i)), (4, .ref ad), (3, .ref ao), (2, .ref m), (1, .ref o), (0, .ref bs)] [] := by
  obtain ⟨D, ⟨x1, x2, x3, x4, x5, x6, x7, x8, x9, X⟩, ⟨sc, ar, Y, hR⟩, ⟨ag, fa⟩, ⟨gd, fd⟩⟩ := W9
  have kc9 : ((k_polygonEdge S (sv xs (i + 1)))).1 ≤ 2 := by first | exact kc_polygonEdge | exact kc_polygonEdge _ | exact kc_polygonEdge _ _ | exact kc_polygonEdge _ _ _ | exact kc_polygonEdge _ _ _ _ | exact kc_polygonEdge _ _ _ _ _
  have rk : r32 ((((k_polygonEdge S (sv xs (i + 1)))).1 : Nat) : Int) := ⟨by omega, by omega⟩
  refine e_aload_n dL_law_1587 rfl ?_
  refine e_aload_n dL_law_1588 rfl ?_
  refine e_iload dL_law_1589 rfl ?_
  refine e_iconst dL_law_1591 ?_
  refine e_iadd dL_law_1592 ?_
  refine e_sld (by omega) (by omega) hL dL_law_1593 ?_
  refine e_aload_n dL_law_1594 rfl ?_
  refine e_callH qcL_230 (H_polygonEdge X fa (by obtain ⟨rfl, rfl, rfl⟩ := D; omega) (r32_sv _ _)) rfl rfl rfl (g_rm_of rfl hk hn) dL_law_1595 (fun E9 z9 h9 w => nomatch w.2.1) (fun v9 z9 h9 w => ?_)
  obtain ⟨rfl, w2, hc, ⟨l1, l2, l3, l4, l5, l6, l7, l8, l9, X1⟩, rfl⟩ := w
  have e2 : v9 = some (.int (iN ((((k_polygonEdge S (sv xs (i + 1)))).1 : Nat) : Int))) := Sum.inl.inj w2
  subst e2
  refine (show Ev _ _ _ _ _ _ _ (.int (iN ((((k_polygonEdge S (sv xs (i + 1)))).1 : Nat) : Int)) :: []) from ?_)
  obtain ⟨XC, Y1, ⟨g1, f1, v1⟩, f2⟩ := lw_aft D X1 Y fa fd
  generalize upL G _ _ _ _ = hh at XC Y1 f1 f2 ⊢
  refine e_istore dL_law_1598 rfl ?_
  refine e_aload_n dL_law_1600 rfl ?_
  refine e_aload_n dL_law_1601 rfl ?_
  refine e_iload dL_law_1602 rfl ?_
  refine e_iconst dL_law_1604 ?_
  refine e_iadd dL_law_1605 ?_
  refine e_sld (by omega) (by omega) hL dL_law_1606 ?_
  refine e_callV qcL_232 Y1.obj rfl rfl (M_polygonEdge Y1 hR (r32_sv _ _) Qq_QM_polygonEdge_hgc) rfl rfl rfl (g_rm_of rfl (by show k + 1 + 0 ≤ 601024; omega) (by show n + 6 + 0 ≤ 7293034; omega)) dL_law_1607 (fun E9 z9 h9 w => nomatch (show (Sum.inr _ : g_O) = Sum.inl _ from w.2.1)) (fun v9 z9 h9 w => ?_)
  obtain ⟨rfl, w2, sc2, ar2, Y2, R2, c2⟩ := w
  have e2 : v9 = some (.int (iN ((k_polygonEdge S (sv xs (i + 1)))).2)) := Sum.inl.inj w2
  subst e2
  refine (show Ev _ _ _ _ _ _ _ (.int (iN ((k_polygonEdge S (sv xs (i + 1)))).2) :: []) from ?_)
  obtain ⟨WW, f3, f4⟩ := lw_end D XC Y2 R2 f1 f2
  refine e_istore dL_law_1610 rfl ?_
  refine e_aload_n dL_law_1612 rfl ?_
  refine e_pureV qcL_149 Y2.obj rfl rfl (S_thrown Y2) rfl rfl rfl (g_rm_of rfl (by show k + 1 + 0 + 0 ≤ 601024; omega) (by show n + 6 + 0 + 0 ≤ 7293034; omega)) dL_law_1613 ?_
  rw [c2]
  refine e_iload dL_law_1616 rfl ?_
  refine e_icmp_eq (tgt := 1623) rk rk dL_law_1618 rfl (fun _ => ?_) (fun c9 => absurd rfl c9)
  refine e_iload dL_law_1623 rfl ?_
  refine e_if_ne (tgt := 1640) rk dL_law_1625 rfl (fun c_1625 => ?_) (fun c_1625 => ?_)
  · refine e_goto (tgt := 2957) dL_law_1640 rfl ?_
    refine e_loc [(5, .int (iN i)), (4, .ref ad), (3, .ref ao), (2, .ref m), (1, .ref o), (0, .ref bs)] ⟨rfl, rfl, rfl, rfl, rfl, rfl, trivial⟩ ?_
    exact kk _ WW
  · have hz : ((k_polygonEdge S (sv xs (i + 1)))).1 = 0 := by omega
    refine e_aload_n dL_law_1628 rfl ?_
    refine e_iconst dL_law_1629 ?_
    refine e_laload f3 (by omega) (by omega) rfl dL_law_1630 ?_
    have e5 : g1 0 = w32 ((k_polygonEdge S (sv xs (i + 1)))).2 := v1 hz
    refine (show Ev _ _ _ _ _ _ _ (.long (lI (g1 0)) :: []) from ?_)
    rw [e5]
    refine e_iload dL_law_1631 rfl ?_
    rw [← iN_w32 ((k_polygonEdge S (sv xs (i + 1)))).2]
    refine e_i2l (r32_of _) dL_law_1633 ?_
    refine e_lif_eq (tgt := 1640) (r64_w32 _) (r64_w32 _) dL_law_1634 dL_law_1635 rfl (fun _ => ?_) (fun c9 => absurd rfl c9)
    refine e_goto (tgt := 2957) dL_law_1640 rfl ?_
    refine e_loc [(5, .int (iN i)), (4, .ref ad), (3, .ref ao), (2, .ref m), (1, .ref o), (0, .ref bs)] ⟨rfl, rfl, rfl, rfl, rfl, rfl, trivial⟩ ?_
    exact kk _ WW
def QM_polygonInner_hgc (P E : PL) (S : Nat → PL) (b : Int) (P2 E2 : PL) (S2 : Nat → PL) (F : PL) : Prop := ∀ g, g < 4 → (gdM (S g) ↔ closes (S g))
def QM_polygonInner_hm (P E : PL) (S : Nat → PL) (b : Int) (P2 E2 : PL) (S2 : Nat → PL) (F : PL) : Prop := ∀ g : Nat, g < 4 → closes (S g) → (piY (S g) 401 : Int) = pin (S g)
set_option maxRecDepth 20000 in
theorem lc_25 (W9 : lwW G P E S b P2 E2 S2 F o m ao ad h) (hi : 0 ≤ i) (hi5 : i + 5 ≤ L) (hL : L ≤ 2560) (hk : k + 1 ≤ 601024) (hn : n + 6 ≤ 7293034) (Qq_QM_polygonInner_hgc : QM_polygonInner_hgc P E S b P2 E2 S2 F) (Qq_QM_polygonInner_hm : QM_polygonInner_hm P E S b P2 E2 S2 F) (kk : ∀ h1, lwW G P E S b P2 E2 S2 F o m ao ad h1 → Ev (lwE G bs L xs ZZ) (k + 1) (n + 6) none h1 2957 [(5, .int (iN i)), (4, .ref ad), (3, .ref ao), (2, .ref m), (1, .ref o), (0, .ref bs)] []) : Ev (lwE G bs L xs ZZ) k n none h 1643 [(5, .int (iN i)), (4, .ref ad), (3, .ref ao), (2, .ref m), (1, .ref o), (0, .ref bs)] [] := by
  obtain ⟨D, ⟨x1, x2, x3, x4, x5, x6, x7, x8, x9, X⟩, ⟨sc, ar, Y, hR⟩, ⟨ag, fa⟩, ⟨gd, fd⟩⟩ := W9
  have kc9 : ((k_polygonInner S (sv xs (i + 1)))).1 ≤ 2 := by first | exact kc_polygonInner | exact kc_polygonInner _ | exact kc_polygonInner _ _ | exact kc_polygonInner _ _ _ | exact kc_polygonInner _ _ _ _ | exact kc_polygonInner _ _ _ _ _
  have rk : r32 ((((k_polygonInner S (sv xs (i + 1)))).1 : Nat) : Int) := ⟨by omega, by omega⟩
  refine e_aload_n dL_law_1643 rfl ?_
  refine e_aload_n dL_law_1644 rfl ?_
  refine e_iload dL_law_1645 rfl ?_
  refine e_iconst dL_law_1647 ?_
  refine e_iadd dL_law_1648 ?_
  refine e_sld (by omega) (by omega) hL dL_law_1649 ?_
  refine e_aload_n dL_law_1650 rfl ?_
  refine e_callH qcL_233 (H_polygonInner X fa (by obtain ⟨rfl, rfl, rfl⟩ := D; omega) (r32_sv _ _)) rfl rfl rfl (g_rm_of rfl hk hn) dL_law_1651 (fun E9 z9 h9 w => nomatch w.2.1) (fun v9 z9 h9 w => ?_)
  obtain ⟨rfl, w2, hc, ⟨l1, l2, l3, l4, l5, l6, l7, l8, l9, X1⟩, rfl⟩ := w
  have e2 : v9 = some (.int (iN ((((k_polygonInner S (sv xs (i + 1)))).1 : Nat) : Int))) := Sum.inl.inj w2
  subst e2
  refine (show Ev _ _ _ _ _ _ _ (.int (iN ((((k_polygonInner S (sv xs (i + 1)))).1 : Nat) : Int)) :: []) from ?_)
  obtain ⟨XC, Y1, ⟨g1, f1, v1⟩, f2⟩ := lw_aft D X1 Y fa fd
  generalize upL G _ _ _ _ = hh at XC Y1 f1 f2 ⊢
  refine e_istore dL_law_1654 rfl ?_
  refine e_aload_n dL_law_1656 rfl ?_
  refine e_aload_n dL_law_1657 rfl ?_
  refine e_iload dL_law_1658 rfl ?_
  refine e_iconst dL_law_1660 ?_
  refine e_iadd dL_law_1661 ?_
  refine e_sld (by omega) (by omega) hL dL_law_1662 ?_
  refine e_callV qcL_235 Y1.obj rfl rfl (M_polygonInner Y1 hR (r32_sv _ _) Qq_QM_polygonInner_hgc Qq_QM_polygonInner_hm) rfl rfl rfl (g_rm_of rfl (by show k + 1 + 0 ≤ 601024; omega) (by show n + 6 + 0 ≤ 7293034; omega)) dL_law_1663 (fun E9 z9 h9 w => nomatch (show (Sum.inr _ : g_O) = Sum.inl _ from w.2.1)) (fun v9 z9 h9 w => ?_)
  obtain ⟨rfl, w2, sc2, ar2, Y2, R2, c2⟩ := w
  have e2 : v9 = some (.int (iN ((k_polygonInner S (sv xs (i + 1)))).2)) := Sum.inl.inj w2
  subst e2
  refine (show Ev _ _ _ _ _ _ _ (.int (iN ((k_polygonInner S (sv xs (i + 1)))).2) :: []) from ?_)
  obtain ⟨WW, f3, f4⟩ := lw_end D XC Y2 R2 f1 f2
  refine e_istore dL_law_1666 rfl ?_
  refine e_aload_n dL_law_1668 rfl ?_
  refine e_pureV qcL_149 Y2.obj rfl rfl (S_thrown Y2) rfl rfl rfl (g_rm_of rfl (by show k + 1 + 0 + 0 ≤ 601024; omega) (by show n + 6 + 0 + 0 ≤ 7293034; omega)) dL_law_1669 ?_
  rw [c2]
  refine e_iload dL_law_1672 rfl ?_
  refine e_icmp_eq (tgt := 1679) rk rk dL_law_1674 rfl (fun _ => ?_) (fun c9 => absurd rfl c9)
  refine e_iload dL_law_1679 rfl ?_
  refine e_if_ne (tgt := 1696) rk dL_law_1681 rfl (fun c_1681 => ?_) (fun c_1681 => ?_)
  · refine e_goto (tgt := 2957) dL_law_1696 rfl ?_
    refine e_loc [(5, .int (iN i)), (4, .ref ad), (3, .ref ao), (2, .ref m), (1, .ref o), (0, .ref bs)] ⟨rfl, rfl, rfl, rfl, rfl, rfl, trivial⟩ ?_
    exact kk _ WW
  · have hz : ((k_polygonInner S (sv xs (i + 1)))).1 = 0 := by omega
    refine e_aload_n dL_law_1684 rfl ?_
    refine e_iconst dL_law_1685 ?_
    refine e_laload f3 (by omega) (by omega) rfl dL_law_1686 ?_
    have e5 : g1 0 = w32 ((k_polygonInner S (sv xs (i + 1)))).2 := v1 hz
    refine (show Ev _ _ _ _ _ _ _ (.long (lI (g1 0)) :: []) from ?_)
    rw [e5]
    refine e_iload dL_law_1687 rfl ?_
    rw [← iN_w32 ((k_polygonInner S (sv xs (i + 1)))).2]
    refine e_i2l (r32_of _) dL_law_1689 ?_
    refine e_lif_eq (tgt := 1696) (r64_w32 _) (r64_w32 _) dL_law_1690 dL_law_1691 rfl (fun _ => ?_) (fun c9 => absurd rfl c9)
    refine e_goto (tgt := 2957) dL_law_1696 rfl ?_
    refine e_loc [(5, .int (iN i)), (4, .ref ad), (3, .ref ao), (2, .ref m), (1, .ref o), (0, .ref bs)] ⟨rfl, rfl, rfl, rfl, rfl, rfl, trivial⟩ ?_
    exact kk _ WW
def QM_polygonLies_hgc (P E : PL) (S : Nat → PL) (b : Int) (P2 E2 : PL) (S2 : Nat → PL) (F : PL) : Prop := ∀ g, g < 4 → (gdM (S g) ↔ closes (S g))
def QM_polygonLies_hm (P E : PL) (S : Nat → PL) (b : Int) (P2 E2 : PL) (S2 : Nat → PL) (F : PL) : Prop := ∀ (x : Int) (y : Int), ∀ g : Nat, g < 4 → ¬ nrOK x y → wI (S g) 1 x y = -1
set_option maxRecDepth 20000 in
theorem lc_26 (W9 : lwW G P E S b P2 E2 S2 F o m ao ad h) (hi : 0 ≤ i) (hi5 : i + 5 ≤ L) (hL : L ≤ 2560) (hk : k + 1 ≤ 601024) (hn : n + 6 ≤ 7293034) (Qq_QM_polygonLies_hgc : QM_polygonLies_hgc P E S b P2 E2 S2 F) (Qq_QM_polygonLies_hm : QM_polygonLies_hm P E S b P2 E2 S2 F) (kk : ∀ h1, lwW G P E S b P2 E2 S2 F o m ao ad h1 → Ev (lwE G bs L xs ZZ) (k + 1) (n + 6) none h1 2957 [(5, .int (iN i)), (4, .ref ad), (3, .ref ao), (2, .ref m), (1, .ref o), (0, .ref bs)] []) : Ev (lwE G bs L xs ZZ) k n none h 1699 [(5, .int (iN i)), (4, .ref ad), (3, .ref ao), (2, .ref m), (1, .ref o), (0, .ref bs)] [] := by
  obtain ⟨D, ⟨x1, x2, x3, x4, x5, x6, x7, x8, x9, X⟩, ⟨sc, ar, Y, hR⟩, ⟨ag, fa⟩, ⟨gd, fd⟩⟩ := W9
  have kc9 : ((k_polygonLies S (sv xs (i + 1)) (sv xs (i + 2)) (sv xs (i + 3)))).1 ≤ 2 := by first | exact kc_polygonLies | exact kc_polygonLies _ | exact kc_polygonLies _ _ | exact kc_polygonLies _ _ _ | exact kc_polygonLies _ _ _ _ | exact kc_polygonLies _ _ _ _ _
  have rk : r32 ((((k_polygonLies S (sv xs (i + 1)) (sv xs (i + 2)) (sv xs (i + 3)))).1 : Nat) : Int) := ⟨by omega, by omega⟩
  refine e_aload_n dL_law_1699 rfl ?_
  refine e_aload_n dL_law_1700 rfl ?_
  refine e_iload dL_law_1701 rfl ?_
  refine e_iconst dL_law_1703 ?_
  refine e_iadd dL_law_1704 ?_
  refine e_sld (by omega) (by omega) hL dL_law_1705 ?_
  refine e_aload_n dL_law_1706 rfl ?_
  refine e_iload dL_law_1707 rfl ?_
  refine e_iconst dL_law_1709 ?_
  refine e_iadd dL_law_1710 ?_
  refine e_sld (by omega) (by omega) hL dL_law_1711 ?_
  refine e_aload_n dL_law_1712 rfl ?_
  refine e_iload dL_law_1713 rfl ?_
  refine e_iconst dL_law_1715 ?_
  refine e_iadd dL_law_1716 ?_
  refine e_sld (by omega) (by omega) hL dL_law_1717 ?_
  refine e_aload_n dL_law_1718 rfl ?_
  refine e_callH qcL_236 (H_polygonLies X fa (by obtain ⟨rfl, rfl, rfl⟩ := D; omega) (r32_sv _ _) (r32_sv _ _) (r32_sv _ _)) rfl rfl rfl (g_rm_of rfl hk hn) dL_law_1719 (fun E9 z9 h9 w => nomatch w.2.1) (fun v9 z9 h9 w => ?_)
  obtain ⟨rfl, w2, hc, ⟨l1, l2, l3, l4, l5, l6, l7, l8, l9, X1⟩, rfl⟩ := w
  have e2 : v9 = some (.int (iN ((((k_polygonLies S (sv xs (i + 1)) (sv xs (i + 2)) (sv xs (i + 3)))).1 : Nat) : Int))) := Sum.inl.inj w2
  subst e2
  refine (show Ev _ _ _ _ _ _ _ (.int (iN ((((k_polygonLies S (sv xs (i + 1)) (sv xs (i + 2)) (sv xs (i + 3)))).1 : Nat) : Int)) :: []) from ?_)
  obtain ⟨XC, Y1, ⟨g1, f1, v1⟩, f2⟩ := lw_aft D X1 Y fa fd
  generalize upL G _ _ _ _ = hh at XC Y1 f1 f2 ⊢
  refine e_istore dL_law_1722 rfl ?_
  refine e_aload_n dL_law_1724 rfl ?_
  refine e_aload_n dL_law_1725 rfl ?_
  refine e_iload dL_law_1726 rfl ?_
  refine e_iconst dL_law_1728 ?_
  refine e_iadd dL_law_1729 ?_
  refine e_sld (by omega) (by omega) hL dL_law_1730 ?_
  refine e_aload_n dL_law_1731 rfl ?_
  refine e_iload dL_law_1732 rfl ?_
  refine e_iconst dL_law_1734 ?_
  refine e_iadd dL_law_1735 ?_
  refine e_sld (by omega) (by omega) hL dL_law_1736 ?_
  refine e_aload_n dL_law_1737 rfl ?_
  refine e_iload dL_law_1738 rfl ?_
  refine e_iconst dL_law_1740 ?_
  refine e_iadd dL_law_1741 ?_
  refine e_sld (by omega) (by omega) hL dL_law_1742 ?_
  refine e_callV qcL_238 Y1.obj rfl rfl (M_polygonLies Y1 hR (r32_sv _ _) (r32_sv _ _) (r32_sv _ _) Qq_QM_polygonLies_hgc (Qq_QM_polygonLies_hm _ _)) rfl rfl rfl (g_rm_of rfl (by show k + 1 + 0 ≤ 601024; omega) (by show n + 6 + 0 ≤ 7293034; omega)) dL_law_1743 (fun E9 z9 h9 w => nomatch (show (Sum.inr _ : g_O) = Sum.inl _ from w.2.1)) (fun v9 z9 h9 w => ?_)
  obtain ⟨rfl, w2, sc2, ar2, Y2, R2, c2⟩ := w
  have e2 : v9 = some (.int (iN ((k_polygonLies S (sv xs (i + 1)) (sv xs (i + 2)) (sv xs (i + 3)))).2)) := Sum.inl.inj w2
  subst e2
  refine (show Ev _ _ _ _ _ _ _ (.int (iN ((k_polygonLies S (sv xs (i + 1)) (sv xs (i + 2)) (sv xs (i + 3)))).2) :: []) from ?_)
  obtain ⟨WW, f3, f4⟩ := lw_end D XC Y2 R2 f1 f2
  refine e_istore dL_law_1746 rfl ?_
  refine e_aload_n dL_law_1748 rfl ?_
  refine e_pureV qcL_149 Y2.obj rfl rfl (S_thrown Y2) rfl rfl rfl (g_rm_of rfl (by show k + 1 + 0 + 0 ≤ 601024; omega) (by show n + 6 + 0 + 0 ≤ 7293034; omega)) dL_law_1749 ?_
  rw [c2]
  refine e_iload dL_law_1752 rfl ?_
  refine e_icmp_eq (tgt := 1759) rk rk dL_law_1754 rfl (fun _ => ?_) (fun c9 => absurd rfl c9)
  refine e_iload dL_law_1759 rfl ?_
  refine e_if_ne (tgt := 1776) rk dL_law_1761 rfl (fun c_1761 => ?_) (fun c_1761 => ?_)
  · refine e_goto (tgt := 2957) dL_law_1776 rfl ?_
    refine e_loc [(5, .int (iN i)), (4, .ref ad), (3, .ref ao), (2, .ref m), (1, .ref o), (0, .ref bs)] ⟨rfl, rfl, rfl, rfl, rfl, rfl, trivial⟩ ?_
    exact kk _ WW
  · have hz : ((k_polygonLies S (sv xs (i + 1)) (sv xs (i + 2)) (sv xs (i + 3)))).1 = 0 := by omega
    refine e_aload_n dL_law_1764 rfl ?_
    refine e_iconst dL_law_1765 ?_
    refine e_laload f3 (by omega) (by omega) rfl dL_law_1766 ?_
    have e5 : g1 0 = w32 ((k_polygonLies S (sv xs (i + 1)) (sv xs (i + 2)) (sv xs (i + 3)))).2 := v1 hz
    refine (show Ev _ _ _ _ _ _ _ (.long (lI (g1 0)) :: []) from ?_)
    rw [e5]
    refine e_iload dL_law_1767 rfl ?_
    rw [← iN_w32 ((k_polygonLies S (sv xs (i + 1)) (sv xs (i + 2)) (sv xs (i + 3)))).2]
    refine e_i2l (r32_of _) dL_law_1769 ?_
    refine e_lif_eq (tgt := 1776) (r64_w32 _) (r64_w32 _) dL_law_1770 dL_law_1771 rfl (fun _ => ?_) (fun c9 => absurd rfl c9)
    refine e_goto (tgt := 2957) dL_law_1776 rfl ?_
    refine e_loc [(5, .int (iN i)), (4, .ref ad), (3, .ref ao), (2, .ref m), (1, .ref o), (0, .ref bs)] ⟨rfl, rfl, rfl, rfl, rfl, rfl, trivial⟩ ?_
    exact kk _ WW
def QM_holds_hgc (P E : PL) (S : Nat → PL) (b : Int) (P2 E2 : PL) (S2 : Nat → PL) (F : PL) : Prop := ∀ g, g < 4 → (gdM (S g) ↔ closes (S g))
set_option maxRecDepth 20000 in
theorem lc_27 (W9 : lwW G P E S b P2 E2 S2 F o m ao ad h) (hi : 0 ≤ i) (hi5 : i + 5 ≤ L) (hL : L ≤ 2560) (hk : k + 1 ≤ 601024) (hn : n + 6 ≤ 7293034) (Qq_QM_holds_hgc : QM_holds_hgc P E S b P2 E2 S2 F) (kk : ∀ h1, lwW G P E S b P2 E2 S2 F o m ao ad h1 → Ev (lwE G bs L xs ZZ) (k + 1) (n + 6) none h1 2957 [(5, .int (iN i)), (4, .ref ad), (3, .ref ao), (2, .ref m), (1, .ref o), (0, .ref bs)] []) : Ev (lwE G bs L xs ZZ) k n none h 1779 [(5, .int (iN i)), (4, .ref ad), (3, .ref ao), (2, .ref m), (1, .ref o), (0, .ref bs)] [] := by
  obtain ⟨D, ⟨x1, x2, x3, x4, x5, x6, x7, x8, x9, X⟩, ⟨sc, ar, Y, hR⟩, ⟨ag, fa⟩, ⟨gd, fd⟩⟩ := W9
  have kc9 : ((k_holds P S (sv xs (i + 1)) (sv xs (i + 2)))).1 ≤ 2 := by first | exact kc_holds | exact kc_holds _ | exact kc_holds _ _ | exact kc_holds _ _ _ | exact kc_holds _ _ _ _ | exact kc_holds _ _ _ _ _
  have rk : r32 ((((k_holds P S (sv xs (i + 1)) (sv xs (i + 2)))).1 : Nat) : Int) := ⟨by omega, by omega⟩
  refine e_aload_n dL_law_1779 rfl ?_
  refine e_aload_n dL_law_1780 rfl ?_
  refine e_iload dL_law_1781 rfl ?_
  refine e_iconst dL_law_1783 ?_
  refine e_iadd dL_law_1784 ?_
  refine e_sld (by omega) (by omega) hL dL_law_1785 ?_
  refine e_aload_n dL_law_1786 rfl ?_
  refine e_iload dL_law_1787 rfl ?_
  refine e_iconst dL_law_1789 ?_
  refine e_iadd dL_law_1790 ?_
  refine e_sld (by omega) (by omega) hL dL_law_1791 ?_
  refine e_aload_n dL_law_1792 rfl ?_
  refine e_callH qcL_239 (H_holds X fa (by obtain ⟨rfl, rfl, rfl⟩ := D; omega) (r32_sv _ _) (r32_sv _ _)) rfl rfl rfl (g_rm_of rfl hk hn) dL_law_1793 (fun E9 z9 h9 w => nomatch w.2.1) (fun v9 z9 h9 w => ?_)
  obtain ⟨rfl, w2, hc, ⟨l1, l2, l3, l4, l5, l6, l7, l8, l9, X1⟩, rfl⟩ := w
  have e2 : v9 = some (.int (iN ((((k_holds P S (sv xs (i + 1)) (sv xs (i + 2)))).1 : Nat) : Int))) := Sum.inl.inj w2
  subst e2
  refine (show Ev _ _ _ _ _ _ _ (.int (iN ((((k_holds P S (sv xs (i + 1)) (sv xs (i + 2)))).1 : Nat) : Int)) :: []) from ?_)
  obtain ⟨XC, Y1, ⟨g1, f1, v1⟩, f2⟩ := lw_aft D X1 Y fa fd
  generalize upL G _ _ _ _ = hh at XC Y1 f1 f2 ⊢
  refine e_istore dL_law_1796 rfl ?_
  refine e_aload_n dL_law_1798 rfl ?_
  refine e_aload_n dL_law_1799 rfl ?_
  refine e_iload dL_law_1800 rfl ?_
  refine e_iconst dL_law_1802 ?_
  refine e_iadd dL_law_1803 ?_
  refine e_sld (by omega) (by omega) hL dL_law_1804 ?_
  refine e_aload_n dL_law_1805 rfl ?_
  refine e_iload dL_law_1806 rfl ?_
  refine e_iconst dL_law_1808 ?_
  refine e_iadd dL_law_1809 ?_
  refine e_sld (by omega) (by omega) hL dL_law_1810 ?_
  refine e_callV qcL_241 Y1.obj rfl rfl (M_holds Y1 hR (r32_sv _ _) (r32_sv _ _) Qq_QM_holds_hgc) rfl rfl rfl (g_rm_of rfl (by show k + 1 + 0 ≤ 601024; omega) (by show n + 6 + 0 ≤ 7293034; omega)) dL_law_1811 (fun E9 z9 h9 w => nomatch (show (Sum.inr _ : g_O) = Sum.inl _ from w.2.1)) (fun v9 z9 h9 w => ?_)
  obtain ⟨rfl, w2, sc2, ar2, Y2, R2, c2⟩ := w
  have e2 : v9 = some (.int (iN ((k_holds P S (sv xs (i + 1)) (sv xs (i + 2)))).2)) := Sum.inl.inj w2
  subst e2
  refine (show Ev _ _ _ _ _ _ _ (.int (iN ((k_holds P S (sv xs (i + 1)) (sv xs (i + 2)))).2) :: []) from ?_)
  obtain ⟨WW, f3, f4⟩ := lw_end D XC Y2 R2 f1 f2
  refine e_istore dL_law_1814 rfl ?_
  refine e_aload_n dL_law_1816 rfl ?_
  refine e_pureV qcL_149 Y2.obj rfl rfl (S_thrown Y2) rfl rfl rfl (g_rm_of rfl (by show k + 1 + 0 + 0 ≤ 601024; omega) (by show n + 6 + 0 + 0 ≤ 7293034; omega)) dL_law_1817 ?_
  rw [c2]
  refine e_iload dL_law_1820 rfl ?_
  refine e_icmp_eq (tgt := 1827) rk rk dL_law_1822 rfl (fun _ => ?_) (fun c9 => absurd rfl c9)
  refine e_iload dL_law_1827 rfl ?_
  refine e_if_ne (tgt := 1844) rk dL_law_1829 rfl (fun c_1829 => ?_) (fun c_1829 => ?_)
  · refine e_goto (tgt := 2957) dL_law_1844 rfl ?_
    refine e_loc [(5, .int (iN i)), (4, .ref ad), (3, .ref ao), (2, .ref m), (1, .ref o), (0, .ref bs)] ⟨rfl, rfl, rfl, rfl, rfl, rfl, trivial⟩ ?_
    exact kk _ WW
  · have hz : ((k_holds P S (sv xs (i + 1)) (sv xs (i + 2)))).1 = 0 := by omega
    refine e_aload_n dL_law_1832 rfl ?_
    refine e_iconst dL_law_1833 ?_
    refine e_laload f3 (by omega) (by omega) rfl dL_law_1834 ?_
    have e5 : g1 0 = w32 ((k_holds P S (sv xs (i + 1)) (sv xs (i + 2)))).2 := v1 hz
    refine (show Ev _ _ _ _ _ _ _ (.long (lI (g1 0)) :: []) from ?_)
    rw [e5]
    refine e_iload dL_law_1835 rfl ?_
    rw [← iN_w32 ((k_holds P S (sv xs (i + 1)) (sv xs (i + 2)))).2]
    refine e_i2l (r32_of _) dL_law_1837 ?_
    refine e_lif_eq (tgt := 1844) (r64_w32 _) (r64_w32 _) dL_law_1838 dL_law_1839 rfl (fun _ => ?_) (fun c9 => absurd rfl c9)
    refine e_goto (tgt := 2957) dL_law_1844 rfl ?_
    refine e_loc [(5, .int (iN i)), (4, .ref ad), (3, .ref ao), (2, .ref m), (1, .ref o), (0, .ref bs)] ⟨rfl, rfl, rfl, rfl, rfl, rfl, trivial⟩ ?_
    exact kk _ WW
def QM_triangles_hgc (P E : PL) (S : Nat → PL) (b : Int) (P2 E2 : PL) (S2 : Nat → PL) (F : PL) : Prop := ∀ g, g < 4 → (gdM (S g) ↔ closes (S g))
def QM_triangles_hd (P E : PL) (S : Nat → PL) (b : Int) (P2 E2 : PL) (S2 : Nat → PL) (F : PL) : Prop := ∀ g : Nat, g < 4 → closes (S g) → da (S g) ≠ 0
def QM_triangles_hmk (P E : PL) (S : Nat → PL) (b : Int) (P2 E2 : PL) (S2 : Nat → PL) (F : PL) : Prop := ∀ g : Nat, g < 4 → ∀ i, i < (S g).length → pM (S g) i = (i : Int)
set_option maxRecDepth 20000 in
theorem lc_28 (W9 : lwW G P E S b P2 E2 S2 F o m ao ad h) (hi : 0 ≤ i) (hi5 : i + 5 ≤ L) (hL : L ≤ 2560) (hk : k + 1 ≤ 601024) (hn : n + 6 ≤ 7293034) (Qq_QM_triangles_hgc : QM_triangles_hgc P E S b P2 E2 S2 F) (Qq_QM_triangles_hd : QM_triangles_hd P E S b P2 E2 S2 F) (Qq_QM_triangles_hmk : QM_triangles_hmk P E S b P2 E2 S2 F) (kk : ∀ h1, lwW G P E S b P2 E2 S2 F o m ao ad h1 → Ev (lwE G bs L xs ZZ) (k + 1) (n + 6) none h1 2957 [(5, .int (iN i)), (4, .ref ad), (3, .ref ao), (2, .ref m), (1, .ref o), (0, .ref bs)] []) : Ev (lwE G bs L xs ZZ) k n none h 1847 [(5, .int (iN i)), (4, .ref ad), (3, .ref ao), (2, .ref m), (1, .ref o), (0, .ref bs)] [] := by
  obtain ⟨D, ⟨x1, x2, x3, x4, x5, x6, x7, x8, x9, X⟩, ⟨sc, ar, Y, hR⟩, ⟨ag, fa⟩, ⟨gd, fd⟩⟩ := W9
  have kc9 : ((k_triangles S (sv xs (i + 1)))).1 ≤ 2 := by first | exact kc_triangles | exact kc_triangles _ | exact kc_triangles _ _ | exact kc_triangles _ _ _ | exact kc_triangles _ _ _ _ | exact kc_triangles _ _ _ _ _
  have rk : r32 ((((k_triangles S (sv xs (i + 1)))).1 : Nat) : Int) := ⟨by omega, by omega⟩
  refine e_aload_n dL_law_1847 rfl ?_
  refine e_aload_n dL_law_1848 rfl ?_
  refine e_iload dL_law_1849 rfl ?_
  refine e_iconst dL_law_1851 ?_
  refine e_iadd dL_law_1852 ?_
  refine e_sld (by omega) (by omega) hL dL_law_1853 ?_
  refine e_aload_n dL_law_1854 rfl ?_
  refine e_callH qcL_242 (H_triangles X fa (by obtain ⟨rfl, rfl, rfl⟩ := D; omega) (r32_sv _ _)) rfl rfl rfl (g_rm_of rfl hk hn) dL_law_1855 (fun E9 z9 h9 w => nomatch w.2.1) (fun v9 z9 h9 w => ?_)
  obtain ⟨rfl, w2, hc, ⟨l1, l2, l3, l4, l5, l6, l7, l8, l9, X1⟩, rfl⟩ := w
  have e2 : v9 = some (.int (iN ((((k_triangles S (sv xs (i + 1)))).1 : Nat) : Int))) := Sum.inl.inj w2
  subst e2
  refine (show Ev _ _ _ _ _ _ _ (.int (iN ((((k_triangles S (sv xs (i + 1)))).1 : Nat) : Int)) :: []) from ?_)
  obtain ⟨XC, Y1, ⟨g1, f1, v1⟩, f2⟩ := lw_aft D X1 Y fa fd
  generalize upL G _ _ _ _ = hh at XC Y1 f1 f2 ⊢
  refine e_istore dL_law_1858 rfl ?_
  refine e_aload_n dL_law_1860 rfl ?_
  refine e_aload_n dL_law_1861 rfl ?_
  refine e_iload dL_law_1862 rfl ?_
  refine e_iconst dL_law_1864 ?_
  refine e_iadd dL_law_1865 ?_
  refine e_sld (by omega) (by omega) hL dL_law_1866 ?_
  refine e_callV qcL_244 Y1.obj rfl rfl (M_triangles Y1 hR (r32_sv _ _) Qq_QM_triangles_hgc Qq_QM_triangles_hd Qq_QM_triangles_hmk) rfl rfl rfl (g_rm_of rfl (by show k + 1 + 0 ≤ 601024; omega) (by show n + 6 + 0 ≤ 7293034; omega)) dL_law_1867 (fun E9 z9 h9 w => nomatch (show (Sum.inr _ : g_O) = Sum.inl _ from w.2.1)) (fun v9 z9 h9 w => ?_)
  obtain ⟨rfl, w2, sc2, ar2, Y2, R2, c2⟩ := w
  have e2 : v9 = some (.int (iN ((k_triangles S (sv xs (i + 1)))).2)) := Sum.inl.inj w2
  subst e2
  refine (show Ev _ _ _ _ _ _ _ (.int (iN ((k_triangles S (sv xs (i + 1)))).2) :: []) from ?_)
  obtain ⟨WW, f3, f4⟩ := lw_end D XC Y2 R2 f1 f2
  refine e_istore dL_law_1870 rfl ?_
  refine e_aload_n dL_law_1872 rfl ?_
  refine e_pureV qcL_149 Y2.obj rfl rfl (S_thrown Y2) rfl rfl rfl (g_rm_of rfl (by show k + 1 + 0 + 0 ≤ 601024; omega) (by show n + 6 + 0 + 0 ≤ 7293034; omega)) dL_law_1873 ?_
  rw [c2]
  refine e_iload dL_law_1876 rfl ?_
  refine e_icmp_eq (tgt := 1883) rk rk dL_law_1878 rfl (fun _ => ?_) (fun c9 => absurd rfl c9)
  refine e_iload dL_law_1883 rfl ?_
  refine e_if_ne (tgt := 1900) rk dL_law_1885 rfl (fun c_1885 => ?_) (fun c_1885 => ?_)
  · refine e_goto (tgt := 2957) dL_law_1900 rfl ?_
    refine e_loc [(5, .int (iN i)), (4, .ref ad), (3, .ref ao), (2, .ref m), (1, .ref o), (0, .ref bs)] ⟨rfl, rfl, rfl, rfl, rfl, rfl, trivial⟩ ?_
    exact kk _ WW
  · have hz : ((k_triangles S (sv xs (i + 1)))).1 = 0 := by omega
    refine e_aload_n dL_law_1888 rfl ?_
    refine e_iconst dL_law_1889 ?_
    refine e_laload f3 (by omega) (by omega) rfl dL_law_1890 ?_
    have e5 : g1 0 = w32 ((k_triangles S (sv xs (i + 1)))).2 := v1 hz
    refine (show Ev _ _ _ _ _ _ _ (.long (lI (g1 0)) :: []) from ?_)
    rw [e5]
    refine e_iload dL_law_1891 rfl ?_
    rw [← iN_w32 ((k_triangles S (sv xs (i + 1)))).2]
    refine e_i2l (r32_of _) dL_law_1893 ?_
    refine e_lif_eq (tgt := 1900) (r64_w32 _) (r64_w32 _) dL_law_1894 dL_law_1895 rfl (fun _ => ?_) (fun c9 => absurd rfl c9)
    refine e_goto (tgt := 2957) dL_law_1900 rfl ?_
    refine e_loc [(5, .int (iN i)), (4, .ref ad), (3, .ref ao), (2, .ref m), (1, .ref o), (0, .ref bs)] ⟨rfl, rfl, rfl, rfl, rfl, rfl, trivial⟩ ?_
    exact kk _ WW
def QM_triangleAt_hgc (P E : PL) (S : Nat → PL) (b : Int) (P2 E2 : PL) (S2 : Nat → PL) (F : PL) : Prop := ∀ g, g < 4 → (gdM (S g) ↔ closes (S g))
def QM_triangleAt_hd (P E : PL) (S : Nat → PL) (b : Int) (P2 E2 : PL) (S2 : Nat → PL) (F : PL) : Prop := ∀ g : Nat, g < 4 → closes (S g) → da (S g) ≠ 0
def QM_triangleAt_hmk (P E : PL) (S : Nat → PL) (b : Int) (P2 E2 : PL) (S2 : Nat → PL) (F : PL) : Prop := ∀ g : Nat, g < 4 → ∀ i, i < (S g).length → pM (S g) i = (i : Int)
set_option maxRecDepth 20000 in
theorem lc_29 (W9 : lwW G P E S b P2 E2 S2 F o m ao ad h) (hi : 0 ≤ i) (hi5 : i + 5 ≤ L) (hL : L ≤ 2560) (hk : k + 1 ≤ 601024) (hn : n + 6 ≤ 7293034) (Qq_QM_triangleAt_hgc : QM_triangleAt_hgc P E S b P2 E2 S2 F) (Qq_QM_triangleAt_hd : QM_triangleAt_hd P E S b P2 E2 S2 F) (Qq_QM_triangleAt_hmk : QM_triangleAt_hmk P E S b P2 E2 S2 F) (kk : ∀ h1, lwW G P E S b P2 E2 S2 F o m ao ad h1 → Ev (lwE G bs L xs ZZ) (k + 1) (n + 6) none h1 2957 [(5, .int (iN i)), (4, .ref ad), (3, .ref ao), (2, .ref m), (1, .ref o), (0, .ref bs)] []) : Ev (lwE G bs L xs ZZ) k n none h 1903 [(5, .int (iN i)), (4, .ref ad), (3, .ref ao), (2, .ref m), (1, .ref o), (0, .ref bs)] [] := by
  obtain ⟨D, ⟨x1, x2, x3, x4, x5, x6, x7, x8, x9, X⟩, ⟨sc, ar, Y, hR⟩, ⟨ag, fa⟩, ⟨gd, fd⟩⟩ := W9
  have kc9 : ((k_triangleAt S (sv xs (i + 1)) (sv xs (i + 2)))).1 ≤ 3 := by first | exact kc_triangleAt | exact kc_triangleAt _ | exact kc_triangleAt _ _ | exact kc_triangleAt _ _ _ | exact kc_triangleAt _ _ _ _ | exact kc_triangleAt _ _ _ _ _
  have rk : r32 ((((k_triangleAt S (sv xs (i + 1)) (sv xs (i + 2)))).1 : Nat) : Int) := ⟨by omega, by omega⟩
  refine e_aload_n dL_law_1903 rfl ?_
  refine e_aload_n dL_law_1904 rfl ?_
  refine e_iload dL_law_1905 rfl ?_
  refine e_iconst dL_law_1907 ?_
  refine e_iadd dL_law_1908 ?_
  refine e_sld (by omega) (by omega) hL dL_law_1909 ?_
  refine e_aload_n dL_law_1910 rfl ?_
  refine e_iload dL_law_1911 rfl ?_
  refine e_iconst dL_law_1913 ?_
  refine e_iadd dL_law_1914 ?_
  refine e_sld (by omega) (by omega) hL dL_law_1915 ?_
  refine e_aload_n dL_law_1916 rfl ?_
  refine e_callH qcL_245 (H_triangleAt X fa (by obtain ⟨rfl, rfl, rfl⟩ := D; omega) (r32_sv _ _) (r32_sv _ _)) rfl rfl rfl (g_rm_of rfl hk hn) dL_law_1917 (fun E9 z9 h9 w => nomatch w.2.1) (fun v9 z9 h9 w => ?_)
  obtain ⟨rfl, w2, hc, ⟨l1, l2, l3, l4, l5, l6, l7, l8, l9, X1⟩, rfl⟩ := w
  have e2 : v9 = some (.int (iN ((((k_triangleAt S (sv xs (i + 1)) (sv xs (i + 2)))).1 : Nat) : Int))) := Sum.inl.inj w2
  subst e2
  refine (show Ev _ _ _ _ _ _ _ (.int (iN ((((k_triangleAt S (sv xs (i + 1)) (sv xs (i + 2)))).1 : Nat) : Int)) :: []) from ?_)
  obtain ⟨XC, Y1, ⟨g1, f1, v1⟩, f2⟩ := lw_aft D X1 Y fa fd
  generalize upL G _ _ _ _ = hh at XC Y1 f1 f2 ⊢
  refine e_istore dL_law_1920 rfl ?_
  refine e_aload_n dL_law_1922 rfl ?_
  refine e_aload_n dL_law_1923 rfl ?_
  refine e_iload dL_law_1924 rfl ?_
  refine e_iconst dL_law_1926 ?_
  refine e_iadd dL_law_1927 ?_
  refine e_sld (by omega) (by omega) hL dL_law_1928 ?_
  refine e_aload_n dL_law_1929 rfl ?_
  refine e_iload dL_law_1930 rfl ?_
  refine e_iconst dL_law_1932 ?_
  refine e_iadd dL_law_1933 ?_
  refine e_sld (by omega) (by omega) hL dL_law_1934 ?_
  refine e_callV qcL_247 Y1.obj rfl rfl (M_triangleAt Y1 hR (r32_sv _ _) (r32_sv _ _) Qq_QM_triangleAt_hgc Qq_QM_triangleAt_hd Qq_QM_triangleAt_hmk) rfl rfl rfl (g_rm_of rfl (by show k + 1 + 0 ≤ 601024; omega) (by show n + 6 + 0 ≤ 7293034; omega)) dL_law_1935 (fun E9 z9 h9 w => nomatch (show (Sum.inr _ : g_O) = Sum.inl _ from w.2.1)) (fun v9 z9 h9 w => ?_)
  obtain ⟨rfl, w2, sc2, ar2, Y2, R2, c2⟩ := w
  have e2 : v9 = some (.int (iN ((k_triangleAt S (sv xs (i + 1)) (sv xs (i + 2)))).2)) := Sum.inl.inj w2
  subst e2
  refine (show Ev _ _ _ _ _ _ _ (.int (iN ((k_triangleAt S (sv xs (i + 1)) (sv xs (i + 2)))).2) :: []) from ?_)
  obtain ⟨WW, f3, f4⟩ := lw_end D XC Y2 R2 f1 f2
  refine e_istore dL_law_1938 rfl ?_
  refine e_aload_n dL_law_1940 rfl ?_
  refine e_pureV qcL_149 Y2.obj rfl rfl (S_thrown Y2) rfl rfl rfl (g_rm_of rfl (by show k + 1 + 0 + 0 ≤ 601024; omega) (by show n + 6 + 0 + 0 ≤ 7293034; omega)) dL_law_1941 ?_
  rw [c2]
  refine e_iload dL_law_1944 rfl ?_
  refine e_icmp_eq (tgt := 1951) rk rk dL_law_1946 rfl (fun _ => ?_) (fun c9 => absurd rfl c9)
  refine e_iload dL_law_1951 rfl ?_
  refine e_if_ne (tgt := 1968) rk dL_law_1953 rfl (fun c_1953 => ?_) (fun c_1953 => ?_)
  · refine e_goto (tgt := 2957) dL_law_1968 rfl ?_
    refine e_loc [(5, .int (iN i)), (4, .ref ad), (3, .ref ao), (2, .ref m), (1, .ref o), (0, .ref bs)] ⟨rfl, rfl, rfl, rfl, rfl, rfl, trivial⟩ ?_
    exact kk _ WW
  · have hz : ((k_triangleAt S (sv xs (i + 1)) (sv xs (i + 2)))).1 = 0 := by omega
    refine e_aload_n dL_law_1956 rfl ?_
    refine e_iconst dL_law_1957 ?_
    refine e_laload f3 (by omega) (by omega) rfl dL_law_1958 ?_
    have e5 : g1 0 = w32 ((k_triangleAt S (sv xs (i + 1)) (sv xs (i + 2)))).2 := v1 hz
    refine (show Ev _ _ _ _ _ _ _ (.long (lI (g1 0)) :: []) from ?_)
    rw [e5]
    refine e_iload dL_law_1959 rfl ?_
    rw [← iN_w32 ((k_triangleAt S (sv xs (i + 1)) (sv xs (i + 2)))).2]
    refine e_i2l (r32_of _) dL_law_1961 ?_
    refine e_lif_eq (tgt := 1968) (r64_w32 _) (r64_w32 _) dL_law_1962 dL_law_1963 rfl (fun _ => ?_) (fun c9 => absurd rfl c9)
    refine e_goto (tgt := 2957) dL_law_1968 rfl ?_
    refine e_loc [(5, .int (iN i)), (4, .ref ad), (3, .ref ao), (2, .ref m), (1, .ref o), (0, .ref bs)] ⟨rfl, rfl, rfl, rfl, rfl, rfl, trivial⟩ ?_
    exact kk _ WW
def QM_sees_hgc (P E : PL) (S : Nat → PL) (b : Int) (P2 E2 : PL) (S2 : Nat → PL) (F : PL) : Prop := ∀ g, g < 4 → (gdM (S g) ↔ closes (S g))
def QM_sees_hm (P E : PL) (S : Nat → PL) (b : Int) (P2 E2 : PL) (S2 : Nat → PL) (F : PL) : Prop := ∀ g : Nat, g < 4 → closes (S g) → ∀ a c : Nat, a < (S g).length → c < (S g).length → (dsM (S g) a c ↔ opn (S g) a c)
set_option maxRecDepth 20000 in
theorem lc_30 (W9 : lwW G P E S b P2 E2 S2 F o m ao ad h) (hi : 0 ≤ i) (hi5 : i + 5 ≤ L) (hL : L ≤ 2560) (hk : k + 1 ≤ 601024) (hn : n + 6 ≤ 7293034) (Qq_QM_sees_hgc : QM_sees_hgc P E S b P2 E2 S2 F) (Qq_QM_sees_hm : QM_sees_hm P E S b P2 E2 S2 F) (kk : ∀ h1, lwW G P E S b P2 E2 S2 F o m ao ad h1 → Ev (lwE G bs L xs ZZ) (k + 1) (n + 6) none h1 2957 [(5, .int (iN i)), (4, .ref ad), (3, .ref ao), (2, .ref m), (1, .ref o), (0, .ref bs)] []) : Ev (lwE G bs L xs ZZ) k n none h 1971 [(5, .int (iN i)), (4, .ref ad), (3, .ref ao), (2, .ref m), (1, .ref o), (0, .ref bs)] [] := by
  obtain ⟨D, ⟨x1, x2, x3, x4, x5, x6, x7, x8, x9, X⟩, ⟨sc, ar, Y, hR⟩, ⟨ag, fa⟩, ⟨gd, fd⟩⟩ := W9
  have kc9 : ((k_sees S (sv xs (i + 1)) (sv xs (i + 2)) (sv xs (i + 3)))).1 ≤ 3 := by first | exact kc_sees | exact kc_sees _ | exact kc_sees _ _ | exact kc_sees _ _ _ | exact kc_sees _ _ _ _ | exact kc_sees _ _ _ _ _
  have rk : r32 ((((k_sees S (sv xs (i + 1)) (sv xs (i + 2)) (sv xs (i + 3)))).1 : Nat) : Int) := ⟨by omega, by omega⟩
  refine e_aload_n dL_law_1971 rfl ?_
  refine e_aload_n dL_law_1972 rfl ?_
  refine e_iload dL_law_1973 rfl ?_
  refine e_iconst dL_law_1975 ?_
  refine e_iadd dL_law_1976 ?_
  refine e_sld (by omega) (by omega) hL dL_law_1977 ?_
  refine e_aload_n dL_law_1978 rfl ?_
  refine e_iload dL_law_1979 rfl ?_
  refine e_iconst dL_law_1981 ?_
  refine e_iadd dL_law_1982 ?_
  refine e_sld (by omega) (by omega) hL dL_law_1983 ?_
  refine e_aload_n dL_law_1984 rfl ?_
  refine e_iload dL_law_1985 rfl ?_
  refine e_iconst dL_law_1987 ?_
  refine e_iadd dL_law_1988 ?_
  refine e_sld (by omega) (by omega) hL dL_law_1989 ?_
  refine e_aload_n dL_law_1990 rfl ?_
  refine e_callH qcL_248 (H_sees X fa (by obtain ⟨rfl, rfl, rfl⟩ := D; omega) (r32_sv _ _) (r32_sv _ _) (r32_sv _ _)) rfl rfl rfl (g_rm_of rfl hk hn) dL_law_1991 (fun E9 z9 h9 w => nomatch w.2.1) (fun v9 z9 h9 w => ?_)
  obtain ⟨rfl, w2, hc, ⟨l1, l2, l3, l4, l5, l6, l7, l8, l9, X1⟩, rfl⟩ := w
  have e2 : v9 = some (.int (iN ((((k_sees S (sv xs (i + 1)) (sv xs (i + 2)) (sv xs (i + 3)))).1 : Nat) : Int))) := Sum.inl.inj w2
  subst e2
  refine (show Ev _ _ _ _ _ _ _ (.int (iN ((((k_sees S (sv xs (i + 1)) (sv xs (i + 2)) (sv xs (i + 3)))).1 : Nat) : Int)) :: []) from ?_)
  obtain ⟨XC, Y1, ⟨g1, f1, v1⟩, f2⟩ := lw_aft D X1 Y fa fd
  generalize upL G _ _ _ _ = hh at XC Y1 f1 f2 ⊢
  refine e_istore dL_law_1994 rfl ?_
  refine e_aload_n dL_law_1996 rfl ?_
  refine e_aload_n dL_law_1997 rfl ?_
  refine e_iload dL_law_1998 rfl ?_
  refine e_iconst dL_law_2000 ?_
  refine e_iadd dL_law_2001 ?_
  refine e_sld (by omega) (by omega) hL dL_law_2002 ?_
  refine e_aload_n dL_law_2003 rfl ?_
  refine e_iload dL_law_2004 rfl ?_
  refine e_iconst dL_law_2006 ?_
  refine e_iadd dL_law_2007 ?_
  refine e_sld (by omega) (by omega) hL dL_law_2008 ?_
  refine e_aload_n dL_law_2009 rfl ?_
  refine e_iload dL_law_2010 rfl ?_
  refine e_iconst dL_law_2012 ?_
  refine e_iadd dL_law_2013 ?_
  refine e_sld (by omega) (by omega) hL dL_law_2014 ?_
  refine e_callV qcL_250 Y1.obj rfl rfl (M_sees Y1 hR (r32_sv _ _) (r32_sv _ _) (r32_sv _ _) Qq_QM_sees_hgc Qq_QM_sees_hm) rfl rfl rfl (g_rm_of rfl (by show k + 1 + 0 ≤ 601024; omega) (by show n + 6 + 0 ≤ 7293034; omega)) dL_law_2015 (fun E9 z9 h9 w => nomatch (show (Sum.inr _ : g_O) = Sum.inl _ from w.2.1)) (fun v9 z9 h9 w => ?_)
  obtain ⟨rfl, w2, sc2, ar2, Y2, R2, c2⟩ := w
  have e2 : v9 = some (.int (iN ((k_sees S (sv xs (i + 1)) (sv xs (i + 2)) (sv xs (i + 3)))).2)) := Sum.inl.inj w2
  subst e2
  refine (show Ev _ _ _ _ _ _ _ (.int (iN ((k_sees S (sv xs (i + 1)) (sv xs (i + 2)) (sv xs (i + 3)))).2) :: []) from ?_)
  obtain ⟨WW, f3, f4⟩ := lw_end D XC Y2 R2 f1 f2
  refine e_istore dL_law_2018 rfl ?_
  refine e_aload_n dL_law_2020 rfl ?_
  refine e_pureV qcL_149 Y2.obj rfl rfl (S_thrown Y2) rfl rfl rfl (g_rm_of rfl (by show k + 1 + 0 + 0 ≤ 601024; omega) (by show n + 6 + 0 + 0 ≤ 7293034; omega)) dL_law_2021 ?_
  rw [c2]
  refine e_iload dL_law_2024 rfl ?_
  refine e_icmp_eq (tgt := 2031) rk rk dL_law_2026 rfl (fun _ => ?_) (fun c9 => absurd rfl c9)
  refine e_iload dL_law_2031 rfl ?_
  refine e_if_ne (tgt := 2055) rk dL_law_2033 rfl (fun c_2033 => ?_) (fun c_2033 => ?_)
  · refine e_goto (tgt := 2957) dL_law_2055 rfl ?_
    refine e_loc [(5, .int (iN i)), (4, .ref ad), (3, .ref ao), (2, .ref m), (1, .ref o), (0, .ref bs)] ⟨rfl, rfl, rfl, rfl, rfl, rfl, trivial⟩ ?_
    exact kk _ WW
  · have hz : ((k_sees S (sv xs (i + 1)) (sv xs (i + 2)) (sv xs (i + 3)))).1 = 0 := by omega
    refine e_aload_n dL_law_2036 rfl ?_
    refine e_iconst dL_law_2037 ?_
    refine e_laload f3 (by omega) (by omega) rfl dL_law_2038 ?_
    have e5 : g1 0 = (if w32 ((k_sees S (sv xs (i + 1)) (sv xs (i + 2)) (sv xs (i + 3)))).2 = 0 then (0 : Int) else 1) := v1 hz
    refine (show Ev _ _ _ _ _ _ _ (.long (lI (g1 0)) :: []) from ?_)
    rw [e5]
    refine e_iload dL_law_2039 rfl ?_
    rw [← iN_w32 ((k_sees S (sv xs (i + 1)) (sv xs (i + 2)) (sv xs (i + 3)))).2]
    refine e_if_eq (tgt := 2048) (r32_of _) dL_law_2041 rfl (fun c_2041 => ?_) (fun c_2041 => ?_)
    · rw [if_pos c_2041]
      refine e_lconst dL_law_2048 ?_
      refine e_lif_eq (tgt := 2055) ⟨by decide, by decide⟩ ⟨by decide, by decide⟩ dL_law_2049 dL_law_2050 rfl (fun _ => ?_) (fun c9 => absurd rfl c9)
      refine e_goto (tgt := 2957) dL_law_2055 rfl ?_
      refine e_loc [(5, .int (iN i)), (4, .ref ad), (3, .ref ao), (2, .ref m), (1, .ref o), (0, .ref bs)] ⟨rfl, rfl, rfl, rfl, rfl, rfl, trivial⟩ ?_
      exact kk _ WW
    · rw [if_neg c_2041]
      refine e_lconst dL_law_2044 ?_
      refine e_goto (tgt := 2049) dL_law_2045 rfl ?_
      refine e_lif_eq (tgt := 2055) ⟨by decide, by decide⟩ ⟨by decide, by decide⟩ dL_law_2049 dL_law_2050 rfl (fun _ => ?_) (fun c9 => absurd rfl c9)
      refine e_goto (tgt := 2957) dL_law_2055 rfl ?_
      refine e_loc [(5, .int (iN i)), (4, .ref ad), (3, .ref ao), (2, .ref m), (1, .ref o), (0, .ref bs)] ⟨rfl, rfl, rfl, rfl, rfl, rfl, trivial⟩ ?_
      exact kk _ WW
def QM_view_hgc (P E : PL) (S : Nat → PL) (b : Int) (P2 E2 : PL) (S2 : Nat → PL) (F : PL) : Prop := ∀ g, g < 4 → (gdM (S g) ↔ closes (S g))
def QM_view_hm (P E : PL) (S : Nat → PL) (b : Int) (P2 E2 : PL) (S2 : Nat → PL) (F : PL) : Prop := ∀ g : Nat, g < 4 → closes (S g) → ∀ a c : Nat, a < (S g).length → c < (S g).length → (dsM (S g) a c ↔ opn (S g) a c)
set_option maxRecDepth 20000 in
theorem lc_31 (W9 : lwW G P E S b P2 E2 S2 F o m ao ad h) (hi : 0 ≤ i) (hi5 : i + 5 ≤ L) (hL : L ≤ 2560) (hk : k + 1 ≤ 601024) (hn : n + 6 ≤ 7293034) (Qq_QM_view_hgc : QM_view_hgc P E S b P2 E2 S2 F) (Qq_QM_view_hm : QM_view_hm P E S b P2 E2 S2 F) (kk : ∀ h1, lwW G P E S b P2 E2 S2 F o m ao ad h1 → Ev (lwE G bs L xs ZZ) (k + 1) (n + 6) none h1 2957 [(5, .int (iN i)), (4, .ref ad), (3, .ref ao), (2, .ref m), (1, .ref o), (0, .ref bs)] []) : Ev (lwE G bs L xs ZZ) k n none h 2058 [(5, .int (iN i)), (4, .ref ad), (3, .ref ao), (2, .ref m), (1, .ref o), (0, .ref bs)] [] := by
  obtain ⟨D, ⟨x1, x2, x3, x4, x5, x6, x7, x8, x9, X⟩, ⟨sc, ar, Y, hR⟩, ⟨ag, fa⟩, ⟨gd, fd⟩⟩ := W9
  have kc9 : ((k_view S (sv xs (i + 1)) (sv xs (i + 2)))).1 ≤ 3 := by first | exact kc_view | exact kc_view _ | exact kc_view _ _ | exact kc_view _ _ _ | exact kc_view _ _ _ _ | exact kc_view _ _ _ _ _
  have rk : r32 ((((k_view S (sv xs (i + 1)) (sv xs (i + 2)))).1 : Nat) : Int) := ⟨by omega, by omega⟩
  refine e_aload_n dL_law_2058 rfl ?_
  refine e_aload_n dL_law_2059 rfl ?_
  refine e_iload dL_law_2060 rfl ?_
  refine e_iconst dL_law_2062 ?_
  refine e_iadd dL_law_2063 ?_
  refine e_sld (by omega) (by omega) hL dL_law_2064 ?_
  refine e_aload_n dL_law_2065 rfl ?_
  refine e_iload dL_law_2066 rfl ?_
  refine e_iconst dL_law_2068 ?_
  refine e_iadd dL_law_2069 ?_
  refine e_sld (by omega) (by omega) hL dL_law_2070 ?_
  refine e_aload_n dL_law_2071 rfl ?_
  refine e_callH qcL_251 (H_view X fa (by obtain ⟨rfl, rfl, rfl⟩ := D; omega) (r32_sv _ _) (r32_sv _ _)) rfl rfl rfl (g_rm_of rfl hk hn) dL_law_2072 (fun E9 z9 h9 w => nomatch w.2.1) (fun v9 z9 h9 w => ?_)
  obtain ⟨rfl, w2, hc, ⟨l1, l2, l3, l4, l5, l6, l7, l8, l9, X1⟩, rfl⟩ := w
  have e2 : v9 = some (.int (iN ((((k_view S (sv xs (i + 1)) (sv xs (i + 2)))).1 : Nat) : Int))) := Sum.inl.inj w2
  subst e2
  refine (show Ev _ _ _ _ _ _ _ (.int (iN ((((k_view S (sv xs (i + 1)) (sv xs (i + 2)))).1 : Nat) : Int)) :: []) from ?_)
  obtain ⟨XC, Y1, ⟨g1, f1, v1⟩, f2⟩ := lw_aft D X1 Y fa fd
  generalize upL G _ _ _ _ = hh at XC Y1 f1 f2 ⊢
  refine e_istore dL_law_2075 rfl ?_
  refine e_aload_n dL_law_2077 rfl ?_
  refine e_aload_n dL_law_2078 rfl ?_
  refine e_iload dL_law_2079 rfl ?_
  refine e_iconst dL_law_2081 ?_
  refine e_iadd dL_law_2082 ?_
  refine e_sld (by omega) (by omega) hL dL_law_2083 ?_
  refine e_aload_n dL_law_2084 rfl ?_
  refine e_iload dL_law_2085 rfl ?_
  refine e_iconst dL_law_2087 ?_
  refine e_iadd dL_law_2088 ?_
  refine e_sld (by omega) (by omega) hL dL_law_2089 ?_
  refine e_callV qcL_253 Y1.obj rfl rfl (M_view Y1 hR (r32_sv _ _) (r32_sv _ _) Qq_QM_view_hgc Qq_QM_view_hm) rfl rfl rfl (g_rm_of rfl (by show k + 1 + 0 ≤ 601024; omega) (by show n + 6 + 0 ≤ 7293034; omega)) dL_law_2090 (fun E9 z9 h9 w => nomatch (show (Sum.inr _ : g_O) = Sum.inl _ from w.2.1)) (fun v9 z9 h9 w => ?_)
  obtain ⟨rfl, w2, sc2, ar2, Y2, R2, c2⟩ := w
  have e2 : v9 = some (.int (iN ((k_view S (sv xs (i + 1)) (sv xs (i + 2)))).2)) := Sum.inl.inj w2
  subst e2
  refine (show Ev _ _ _ _ _ _ _ (.int (iN ((k_view S (sv xs (i + 1)) (sv xs (i + 2)))).2) :: []) from ?_)
  obtain ⟨WW, f3, f4⟩ := lw_end D XC Y2 R2 f1 f2
  refine e_istore dL_law_2093 rfl ?_
  refine e_aload_n dL_law_2095 rfl ?_
  refine e_pureV qcL_149 Y2.obj rfl rfl (S_thrown Y2) rfl rfl rfl (g_rm_of rfl (by show k + 1 + 0 + 0 ≤ 601024; omega) (by show n + 6 + 0 + 0 ≤ 7293034; omega)) dL_law_2096 ?_
  rw [c2]
  refine e_iload dL_law_2099 rfl ?_
  refine e_icmp_eq (tgt := 2106) rk rk dL_law_2101 rfl (fun _ => ?_) (fun c9 => absurd rfl c9)
  refine e_iload dL_law_2106 rfl ?_
  refine e_if_ne (tgt := 2123) rk dL_law_2108 rfl (fun c_2108 => ?_) (fun c_2108 => ?_)
  · refine e_goto (tgt := 2957) dL_law_2123 rfl ?_
    refine e_loc [(5, .int (iN i)), (4, .ref ad), (3, .ref ao), (2, .ref m), (1, .ref o), (0, .ref bs)] ⟨rfl, rfl, rfl, rfl, rfl, rfl, trivial⟩ ?_
    exact kk _ WW
  · have hz : ((k_view S (sv xs (i + 1)) (sv xs (i + 2)))).1 = 0 := by omega
    refine e_aload_n dL_law_2111 rfl ?_
    refine e_iconst dL_law_2112 ?_
    refine e_laload f3 (by omega) (by omega) rfl dL_law_2113 ?_
    have e5 : g1 0 = w32 ((k_view S (sv xs (i + 1)) (sv xs (i + 2)))).2 := v1 hz
    refine (show Ev _ _ _ _ _ _ _ (.long (lI (g1 0)) :: []) from ?_)
    rw [e5]
    refine e_iload dL_law_2114 rfl ?_
    rw [← iN_w32 ((k_view S (sv xs (i + 1)) (sv xs (i + 2)))).2]
    refine e_i2l (r32_of _) dL_law_2116 ?_
    refine e_lif_eq (tgt := 2123) (r64_w32 _) (r64_w32 _) dL_law_2117 dL_law_2118 rfl (fun _ => ?_) (fun c9 => absurd rfl c9)
    refine e_goto (tgt := 2957) dL_law_2123 rfl ?_
    refine e_loc [(5, .int (iN i)), (4, .ref ad), (3, .ref ao), (2, .ref m), (1, .ref o), (0, .ref bs)] ⟨rfl, rfl, rfl, rfl, rfl, rfl, trivial⟩ ?_
    exact kk _ WW
def QC_line_ev (P E : PL) (S : Nat → PL) (b : Int) (P2 E2 : PL) (S2 : Nat → PL) (F : PL) : Prop := E.length % 2 = 0
set_option maxRecDepth 20000 in
theorem lc_32 (W9 : lwW G P E S b P2 E2 S2 F o m ao ad h) (hi : 0 ≤ i) (hi5 : i + 5 ≤ L) (hL : L ≤ 2560) (hk : k + 1 ≤ 601024) (hn : n + 6 ≤ 7293034) (Qq_QC_line_ev : QC_line_ev P E S b P2 E2 S2 F) (kk : ∀ h1, lwW G P (s_line E (sv xs (i + 1)) (sv xs (i + 2)) (sv xs (i + 3)) (sv xs (i + 4))) S b P2 E2 S2 F o m ao ad h1 → Ev (lwE G bs L xs ZZ) (k + 1) (n + 6) none h1 2957 [(5, .int (iN i)), (4, .ref ad), (3, .ref ao), (2, .ref m), (1, .ref o), (0, .ref bs)] []) : Ev (lwE G bs L xs ZZ) k n none h 2126 [(5, .int (iN i)), (4, .ref ad), (3, .ref ao), (2, .ref m), (1, .ref o), (0, .ref bs)] [] := by
  obtain ⟨D, ⟨x1, x2, x3, x4, x5, x6, x7, x8, x9, X⟩, ⟨sc, ar, Y, hR⟩, ⟨ag, fa⟩, ⟨gd, fd⟩⟩ := W9
  have kc9 : ((k_line E (sv xs (i + 1)) (sv xs (i + 2)) (sv xs (i + 3)) (sv xs (i + 4)))).1 ≤ 2 := by first | exact kc_line | exact kc_line _ | exact kc_line _ _ | exact kc_line _ _ _ | exact kc_line _ _ _ _ | exact kc_line _ _ _ _ _
  have rk : r32 ((((k_line E (sv xs (i + 1)) (sv xs (i + 2)) (sv xs (i + 3)) (sv xs (i + 4)))).1 : Nat) : Int) := ⟨by omega, by omega⟩
  refine e_aload_n dL_law_2126 rfl ?_
  refine e_aload_n dL_law_2127 rfl ?_
  refine e_iload dL_law_2128 rfl ?_
  refine e_iconst dL_law_2130 ?_
  refine e_iadd dL_law_2131 ?_
  refine e_sld (by omega) (by omega) hL dL_law_2132 ?_
  refine e_aload_n dL_law_2133 rfl ?_
  refine e_iload dL_law_2134 rfl ?_
  refine e_iconst dL_law_2136 ?_
  refine e_iadd dL_law_2137 ?_
  refine e_sld (by omega) (by omega) hL dL_law_2138 ?_
  refine e_aload_n dL_law_2139 rfl ?_
  refine e_iload dL_law_2140 rfl ?_
  refine e_iconst dL_law_2142 ?_
  refine e_iadd dL_law_2143 ?_
  refine e_sld (by omega) (by omega) hL dL_law_2144 ?_
  refine e_aload_n dL_law_2145 rfl ?_
  refine e_iload dL_law_2146 rfl ?_
  refine e_iconst dL_law_2148 ?_
  refine e_iadd dL_law_2149 ?_
  refine e_sld (by omega) (by omega) hL dL_law_2150 ?_
  refine e_aload_n dL_law_2151 rfl ?_
  refine e_callH qcL_254 (H_line X fa (by obtain ⟨rfl, rfl, rfl⟩ := D; omega) (r32_sv _ _) (r32_sv _ _) (r32_sv _ _) (r32_sv _ _) Qq_QC_line_ev) rfl rfl rfl (g_rm_of rfl hk hn) dL_law_2152 (fun E9 z9 h9 w => nomatch w.2.1) (fun v9 z9 h9 w => ?_)
  obtain ⟨rfl, w2, hc, ⟨l1, l2, l3, l4, l5, l6, l7, l8, l9, X1⟩, rfl⟩ := w
  have e2 : v9 = some (.int (iN ((((k_line E (sv xs (i + 1)) (sv xs (i + 2)) (sv xs (i + 3)) (sv xs (i + 4)))).1 : Nat) : Int))) := Sum.inl.inj w2
  subst e2
  refine (show Ev _ _ _ _ _ _ _ (.int (iN ((((k_line E (sv xs (i + 1)) (sv xs (i + 2)) (sv xs (i + 3)) (sv xs (i + 4)))).1 : Nat) : Int)) :: []) from ?_)
  obtain ⟨XC, Y1, ⟨g1, f1, v1⟩, f2⟩ := lw_aft D X1 Y fa fd
  generalize upL G _ _ _ _ = hh at XC Y1 f1 f2 ⊢
  refine e_istore dL_law_2155 rfl ?_
  refine e_aload_n dL_law_2157 rfl ?_
  refine e_aload_n dL_law_2158 rfl ?_
  refine e_iload dL_law_2159 rfl ?_
  refine e_iconst dL_law_2161 ?_
  refine e_iadd dL_law_2162 ?_
  refine e_sld (by omega) (by omega) hL dL_law_2163 ?_
  refine e_aload_n dL_law_2164 rfl ?_
  refine e_iload dL_law_2165 rfl ?_
  refine e_iconst dL_law_2167 ?_
  refine e_iadd dL_law_2168 ?_
  refine e_sld (by omega) (by omega) hL dL_law_2169 ?_
  refine e_aload_n dL_law_2170 rfl ?_
  refine e_iload dL_law_2171 rfl ?_
  refine e_iconst dL_law_2173 ?_
  refine e_iadd dL_law_2174 ?_
  refine e_sld (by omega) (by omega) hL dL_law_2175 ?_
  refine e_aload_n dL_law_2176 rfl ?_
  refine e_iload dL_law_2177 rfl ?_
  refine e_iconst dL_law_2179 ?_
  refine e_iadd dL_law_2180 ?_
  refine e_sld (by omega) (by omega) hL dL_law_2181 ?_
  refine e_callV qcL_257 Y1.obj rfl rfl (M_line Y1 hR (r32_sv _ _) (r32_sv _ _) (r32_sv _ _) (r32_sv _ _)) rfl rfl rfl (g_rm_of rfl (by show k + 1 + 0 ≤ 601024; omega) (by show n + 6 + 0 ≤ 7293034; omega)) dL_law_2182 (fun E9 z9 h9 w => nomatch (show (Sum.inr _ : g_O) = Sum.inl _ from w.2.1)) (fun v9 z9 h9 w => ?_)
  obtain ⟨rfl, w2, sc2, ar2, Y2, R2, c2⟩ := w
  have e2 : v9 = some (.int (iN ((k_line E (sv xs (i + 1)) (sv xs (i + 2)) (sv xs (i + 3)) (sv xs (i + 4)))).2)) := Sum.inl.inj w2
  subst e2
  refine (show Ev _ _ _ _ _ _ _ (.int (iN ((k_line E (sv xs (i + 1)) (sv xs (i + 2)) (sv xs (i + 3)) (sv xs (i + 4)))).2) :: []) from ?_)
  obtain ⟨WW, f3, f4⟩ := lw_end D XC Y2 R2 f1 f2
  refine e_istore dL_law_2185 rfl ?_
  refine e_aload_n dL_law_2187 rfl ?_
  refine e_pureV qcL_149 Y2.obj rfl rfl (S_thrown Y2) rfl rfl rfl (g_rm_of rfl (by show k + 1 + 0 + 0 ≤ 601024; omega) (by show n + 6 + 0 + 0 ≤ 7293034; omega)) dL_law_2188 ?_
  rw [c2]
  refine e_iload dL_law_2191 rfl ?_
  refine e_icmp_eq (tgt := 2198) rk rk dL_law_2193 rfl (fun _ => ?_) (fun c9 => absurd rfl c9)
  refine e_iload dL_law_2198 rfl ?_
  refine e_if_ne (tgt := 2215) rk dL_law_2200 rfl (fun c_2200 => ?_) (fun c_2200 => ?_)
  · refine e_goto (tgt := 2957) dL_law_2215 rfl ?_
    refine e_loc [(5, .int (iN i)), (4, .ref ad), (3, .ref ao), (2, .ref m), (1, .ref o), (0, .ref bs)] ⟨rfl, rfl, rfl, rfl, rfl, rfl, trivial⟩ ?_
    exact kk _ WW
  · have hz : ((k_line E (sv xs (i + 1)) (sv xs (i + 2)) (sv xs (i + 3)) (sv xs (i + 4)))).1 = 0 := by omega
    refine e_aload_n dL_law_2203 rfl ?_
    refine e_iconst dL_law_2204 ?_
    refine e_laload f3 (by omega) (by omega) rfl dL_law_2205 ?_
    have e5 : g1 0 = w32 ((k_line E (sv xs (i + 1)) (sv xs (i + 2)) (sv xs (i + 3)) (sv xs (i + 4)))).2 := v1 hz
    refine (show Ev _ _ _ _ _ _ _ (.long (lI (g1 0)) :: []) from ?_)
    rw [e5]
    refine e_iload dL_law_2206 rfl ?_
    rw [← iN_w32 ((k_line E (sv xs (i + 1)) (sv xs (i + 2)) (sv xs (i + 3)) (sv xs (i + 4)))).2]
    refine e_i2l (r32_of _) dL_law_2208 ?_
    refine e_lif_eq (tgt := 2215) (r64_w32 _) (r64_w32 _) dL_law_2209 dL_law_2210 rfl (fun _ => ?_) (fun c9 => absurd rfl c9)
    refine e_goto (tgt := 2957) dL_law_2215 rfl ?_
    refine e_loc [(5, .int (iN i)), (4, .ref ad), (3, .ref ao), (2, .ref m), (1, .ref o), (0, .ref bs)] ⟨rfl, rfl, rfl, rfl, rfl, rfl, trivial⟩ ?_
    exact kk _ WW
set_option maxRecDepth 20000 in
theorem lc_33 (W9 : lwW G P E S b P2 E2 S2 F o m ao ad h) (hi : 0 ≤ i) (hi5 : i + 5 ≤ L) (hL : L ≤ 2560) (hk : k + 1 ≤ 601024) (hn : n + 6 ≤ 7293034)  (kk : ∀ h1, lwW G P [] S b P2 E2 S2 F o m ao ad h1 → Ev (lwE G bs L xs ZZ) (k + 1) (n + 6) none h1 2957 [(5, .int (iN i)), (4, .ref ad), (3, .ref ao), (2, .ref m), (1, .ref o), (0, .ref bs)] []) : Ev (lwE G bs L xs ZZ) k n none h 2218 [(5, .int (iN i)), (4, .ref ad), (3, .ref ao), (2, .ref m), (1, .ref o), (0, .ref bs)] [] := by
  obtain ⟨D, ⟨x1, x2, x3, x4, x5, x6, x7, x8, x9, X⟩, ⟨sc, ar, Y, hR⟩, ⟨ag, fa⟩, ⟨gd, fd⟩⟩ := W9
  refine e_aload_n dL_law_2218 rfl ?_
  refine e_callV qcL_258 X.obj rfl rfl (C_clearLines X ) rfl rfl rfl (g_rm_of rfl hk hn) dL_law_2219 (fun E9 z9 h9 w => nomatch (show (Sum.inr _ : g_O) = Sum.inl _ from w.2.1)) (fun v9 z9 h9 w => ?_)
  obtain ⟨rfl, w2, l1, l2, l3, l4, l5, l6, l7, l8, l9, X1⟩ := w
  have e2 : v9 = some (.int (iN (((E.length / 2 : Nat) : Int)))) := Sum.inl.inj w2
  subst e2
  refine (show Ev _ _ _ _ _ _ _ (.int (iN (((E.length / 2 : Nat) : Int))) :: []) from ?_)
  obtain ⟨XC, Y1, f1, f2⟩ := lw_aft0 D X1 Y fa fd
  refine e_aload_n dL_law_2222 rfl ?_
  refine e_callV qcL_261 Y1.obj rfl rfl (M_clearLines Y1 hR ) rfl rfl rfl (g_rm_of rfl (by show k + 1 + 0 ≤ 601024; omega) (by show n + 6 + 0 ≤ 7293034; omega)) dL_law_2223 (fun E9 z9 h9 w => nomatch (show (Sum.inr _ : g_O) = Sum.inl _ from w.2.1)) (fun v9 z9 h9 w => ?_)
  obtain ⟨rfl, w2, sc2, ar2, Y2, R2, c2⟩ := w
  have e2 : v9 = some (.int (iN (((E.length / 2 : Nat) : Int)))) := Sum.inl.inj w2
  subst e2
  refine (show Ev _ _ _ _ _ _ _ (.int (iN (((E.length / 2 : Nat) : Int))) :: .int (iN (((E.length / 2 : Nat) : Int))) :: []) from ?_)
  obtain ⟨WW, f3, f4⟩ := lw_end D XC Y2 R2 f1 f2
  rw [← iN_w32 (((E.length / 2 : Nat) : Int))]
  refine e_icmp_eq (tgt := 2957) (r32_of _) (r32_of _) dL_law_2226 rfl (fun _ => ?_) (fun c9 => absurd rfl c9)
  refine e_loc [(5, .int (iN i)), (4, .ref ad), (3, .ref ao), (2, .ref m), (1, .ref o), (0, .ref bs)] ⟨rfl, rfl, rfl, rfl, rfl, rfl, trivial⟩ ?_
  exact kk _ WW
set_option maxRecDepth 20000 in
theorem lc_34 (W9 : lwW G P E S b P2 E2 S2 F o m ao ad h) (hi : 0 ≤ i) (hi5 : i + 5 ≤ L) (hL : L ≤ 2560) (hk : k + 1 ≤ 601024) (hn : n + 6 ≤ 7293034)  (kk : ∀ h1, lwW G P E S b P2 E2 S2 F o m ao ad h1 → Ev (lwE G bs L xs ZZ) (k + 1) (n + 6) none h1 2957 [(5, .int (iN i)), (4, .ref ad), (3, .ref ao), (2, .ref m), (1, .ref o), (0, .ref bs)] []) : Ev (lwE G bs L xs ZZ) k n none h 2231 [(5, .int (iN i)), (4, .ref ad), (3, .ref ao), (2, .ref m), (1, .ref o), (0, .ref bs)] [] := by
  obtain ⟨D, ⟨x1, x2, x3, x4, x5, x6, x7, x8, x9, X⟩, ⟨sc, ar, Y, hR⟩, ⟨ag, fa⟩, ⟨gd, fd⟩⟩ := W9
  have kc9 : ((k_cross E (sv xs (i + 1)) (sv xs (i + 2)))).1 ≤ 1 := by first | exact kc_cross | exact kc_cross _ | exact kc_cross _ _ | exact kc_cross _ _ _ | exact kc_cross _ _ _ _ | exact kc_cross _ _ _ _ _
  have rk : r32 ((((k_cross E (sv xs (i + 1)) (sv xs (i + 2)))).1 : Nat) : Int) := ⟨by omega, by omega⟩
  refine e_aload_n dL_law_2231 rfl ?_
  refine e_aload_n dL_law_2232 rfl ?_
  refine e_iload dL_law_2233 rfl ?_
  refine e_iconst dL_law_2235 ?_
  refine e_iadd dL_law_2236 ?_
  refine e_sld (by omega) (by omega) hL dL_law_2237 ?_
  refine e_aload_n dL_law_2238 rfl ?_
  refine e_iload dL_law_2239 rfl ?_
  refine e_iconst dL_law_2241 ?_
  refine e_iadd dL_law_2242 ?_
  refine e_sld (by omega) (by omega) hL dL_law_2243 ?_
  refine e_aload_n dL_law_2244 rfl ?_
  refine e_callH qcL_262 (H_cross X fa (by obtain ⟨rfl, rfl, rfl⟩ := D; omega) (r32_sv _ _) (r32_sv _ _)) rfl rfl rfl (g_rm_of rfl hk hn) dL_law_2245 (fun E9 z9 h9 w => nomatch w.2.1) (fun v9 z9 h9 w => ?_)
  obtain ⟨rfl, w2, hc, ⟨l1, l2, l3, l4, l5, l6, l7, l8, l9, X1⟩, rfl⟩ := w
  have e2 : v9 = some (.int (iN ((((k_cross E (sv xs (i + 1)) (sv xs (i + 2)))).1 : Nat) : Int))) := Sum.inl.inj w2
  subst e2
  refine (show Ev _ _ _ _ _ _ _ (.int (iN ((((k_cross E (sv xs (i + 1)) (sv xs (i + 2)))).1 : Nat) : Int)) :: []) from ?_)
  obtain ⟨XC, Y1, ⟨g1, f1, v1⟩, f2⟩ := lw_aft D X1 Y fa fd
  generalize upL G _ _ _ _ = hh at XC Y1 f1 f2 ⊢
  refine e_istore dL_law_2248 rfl ?_
  refine e_aload_n dL_law_2250 rfl ?_
  refine e_aload_n dL_law_2251 rfl ?_
  refine e_iload dL_law_2252 rfl ?_
  refine e_iconst dL_law_2254 ?_
  refine e_iadd dL_law_2255 ?_
  refine e_sld (by omega) (by omega) hL dL_law_2256 ?_
  refine e_aload_n dL_law_2257 rfl ?_
  refine e_iload dL_law_2258 rfl ?_
  refine e_iconst dL_law_2260 ?_
  refine e_iadd dL_law_2261 ?_
  refine e_sld (by omega) (by omega) hL dL_law_2262 ?_
  refine e_callV qcL_264 Y1.obj rfl rfl (M_cross Y1 hR (r32_sv _ _) (r32_sv _ _)) rfl rfl rfl (g_rm_of rfl (by show k + 1 + 0 ≤ 601024; omega) (by show n + 6 + 0 ≤ 7293034; omega)) dL_law_2263 (fun E9 z9 h9 w => nomatch (show (Sum.inr _ : g_O) = Sum.inl _ from w.2.1)) (fun v9 z9 h9 w => ?_)
  obtain ⟨rfl, w2, sc2, ar2, Y2, R2, c2⟩ := w
  have e2 : v9 = some (.int (iN ((k_cross E (sv xs (i + 1)) (sv xs (i + 2)))).2)) := Sum.inl.inj w2
  subst e2
  refine (show Ev _ _ _ _ _ _ _ (.int (iN ((k_cross E (sv xs (i + 1)) (sv xs (i + 2)))).2) :: []) from ?_)
  obtain ⟨WW, f3, f4⟩ := lw_end D XC Y2 R2 f1 f2
  refine e_istore dL_law_2266 rfl ?_
  refine e_aload_n dL_law_2268 rfl ?_
  refine e_pureV qcL_149 Y2.obj rfl rfl (S_thrown Y2) rfl rfl rfl (g_rm_of rfl (by show k + 1 + 0 + 0 ≤ 601024; omega) (by show n + 6 + 0 + 0 ≤ 7293034; omega)) dL_law_2269 ?_
  rw [c2]
  refine e_iload dL_law_2272 rfl ?_
  refine e_icmp_eq (tgt := 2279) rk rk dL_law_2274 rfl (fun _ => ?_) (fun c9 => absurd rfl c9)
  refine e_iload dL_law_2279 rfl ?_
  refine e_if_ne (tgt := 2303) rk dL_law_2281 rfl (fun c_2281 => ?_) (fun c_2281 => ?_)
  · refine e_goto (tgt := 2957) dL_law_2303 rfl ?_
    refine e_loc [(5, .int (iN i)), (4, .ref ad), (3, .ref ao), (2, .ref m), (1, .ref o), (0, .ref bs)] ⟨rfl, rfl, rfl, rfl, rfl, rfl, trivial⟩ ?_
    exact kk _ WW
  · have hz : ((k_cross E (sv xs (i + 1)) (sv xs (i + 2)))).1 = 0 := by omega
    refine e_aload_n dL_law_2284 rfl ?_
    refine e_iconst dL_law_2285 ?_
    refine e_laload f3 (by omega) (by omega) rfl dL_law_2286 ?_
    have e5 : g1 0 = (if w32 ((k_cross E (sv xs (i + 1)) (sv xs (i + 2)))).2 = 0 then (0 : Int) else 1) := v1 hz
    refine (show Ev _ _ _ _ _ _ _ (.long (lI (g1 0)) :: []) from ?_)
    rw [e5]
    refine e_iload dL_law_2287 rfl ?_
    rw [← iN_w32 ((k_cross E (sv xs (i + 1)) (sv xs (i + 2)))).2]
    refine e_if_eq (tgt := 2296) (r32_of _) dL_law_2289 rfl (fun c_2289 => ?_) (fun c_2289 => ?_)
    · rw [if_pos c_2289]
      refine e_lconst dL_law_2296 ?_
      refine e_lif_eq (tgt := 2303) ⟨by decide, by decide⟩ ⟨by decide, by decide⟩ dL_law_2297 dL_law_2298 rfl (fun _ => ?_) (fun c9 => absurd rfl c9)
      refine e_goto (tgt := 2957) dL_law_2303 rfl ?_
      refine e_loc [(5, .int (iN i)), (4, .ref ad), (3, .ref ao), (2, .ref m), (1, .ref o), (0, .ref bs)] ⟨rfl, rfl, rfl, rfl, rfl, rfl, trivial⟩ ?_
      exact kk _ WW
    · rw [if_neg c_2289]
      refine e_lconst dL_law_2292 ?_
      refine e_goto (tgt := 2297) dL_law_2293 rfl ?_
      refine e_lif_eq (tgt := 2303) ⟨by decide, by decide⟩ ⟨by decide, by decide⟩ dL_law_2297 dL_law_2298 rfl (fun _ => ?_) (fun c9 => absurd rfl c9)
      refine e_goto (tgt := 2957) dL_law_2303 rfl ?_
      refine e_loc [(5, .int (iN i)), (4, .ref ad), (3, .ref ao), (2, .ref m), (1, .ref o), (0, .ref bs)] ⟨rfl, rfl, rfl, rfl, rfl, rfl, trivial⟩ ?_
      exact kk _ WW
set_option maxRecDepth 20000 in
theorem lc_35 (W9 : lwW G P E S b P2 E2 S2 F o m ao ad h) (hi : 0 ≤ i) (hi5 : i + 5 ≤ L) (hL : L ≤ 2560) (hk : k + 1 ≤ 601024) (hn : n + 6 ≤ 7293034)  (kk : ∀ h1, lwW G P E S b P2 E2 S2 F o m ao ad h1 → Ev (lwE G bs L xs ZZ) (k + 1) (n + 6) none h1 2957 [(5, .int (iN i)), (4, .ref ad), (3, .ref ao), (2, .ref m), (1, .ref o), (0, .ref bs)] []) : Ev (lwE G bs L xs ZZ) k n none h 2306 [(5, .int (iN i)), (4, .ref ad), (3, .ref ao), (2, .ref m), (1, .ref o), (0, .ref bs)] [] := by
  obtain ⟨D, ⟨x1, x2, x3, x4, x5, x6, x7, x8, x9, X⟩, ⟨sc, ar, Y, hR⟩, ⟨ag, fa⟩, ⟨gd, fd⟩⟩ := W9
  refine e_aload_n dL_law_2306 rfl ?_
  refine e_callV qcL_265 X.obj rfl rfl (C_crossings X ) rfl rfl rfl (g_rm_of rfl hk hn) dL_law_2307 (fun E9 z9 h9 w => nomatch (show (Sum.inr _ : g_O) = Sum.inl _ from w.2.1)) (fun v9 z9 h9 w => ?_)
  obtain ⟨rfl, w2, l1, l2, l3, l4, l5, l6, l7, l8, l9, X1⟩ := w
  have e2 : v9 = some (.int (iN ((coN E (E.length / 2) : Int)))) := Sum.inl.inj w2
  subst e2
  refine (show Ev _ _ _ _ _ _ _ (.int (iN ((coN E (E.length / 2) : Int))) :: []) from ?_)
  obtain ⟨XC, Y1, f1, f2⟩ := lw_aft0 D X1 Y fa fd
  refine e_aload_n dL_law_2310 rfl ?_
  refine e_callV qcL_268 Y1.obj rfl rfl (M_crossings Y1 hR ) rfl rfl rfl (g_rm_of rfl (by show k + 1 + 0 ≤ 601024; omega) (by show n + 6 + 0 ≤ 7293034; omega)) dL_law_2311 (fun E9 z9 h9 w => nomatch (show (Sum.inr _ : g_O) = Sum.inl _ from w.2.1)) (fun v9 z9 h9 w => ?_)
  obtain ⟨rfl, w2, sc2, ar2, Y2, R2, c2⟩ := w
  have e2 : v9 = some (.int (iN ((coN E (E.length / 2) : Int)))) := Sum.inl.inj w2
  subst e2
  refine (show Ev _ _ _ _ _ _ _ (.int (iN ((coN E (E.length / 2) : Int))) :: .int (iN ((coN E (E.length / 2) : Int))) :: []) from ?_)
  obtain ⟨WW, f3, f4⟩ := lw_end D XC Y2 R2 f1 f2
  rw [← iN_w32 ((coN E (E.length / 2) : Int))]
  refine e_icmp_eq (tgt := 2957) (r32_of _) (r32_of _) dL_law_2314 rfl (fun _ => ?_) (fun c9 => absurd rfl c9)
  refine e_loc [(5, .int (iN i)), (4, .ref ad), (3, .ref ao), (2, .ref m), (1, .ref o), (0, .ref bs)] ⟨rfl, rfl, rfl, rfl, rfl, rfl, trivial⟩ ?_
  exact kk _ WW
set_option maxRecDepth 20000 in
theorem lc_36 (W9 : lwW G P E S b P2 E2 S2 F o m ao ad h) (hi : 0 ≤ i) (hi5 : i + 5 ≤ L) (hL : L ≤ 2560) (hk : k + 1 ≤ 601024) (hn : n + 6 ≤ 7293034)  (kk : ∀ h1, lwW G P E S b P2 E2 S2 F o m ao ad h1 → Ev (lwE G bs L xs ZZ) (k + 1) (n + 6) none h1 2957 [(5, .int (iN i)), (4, .ref ad), (3, .ref ao), (2, .ref m), (1, .ref o), (0, .ref bs)] []) : Ev (lwE G bs L xs ZZ) k n none h 2319 [(5, .int (iN i)), (4, .ref ad), (3, .ref ao), (2, .ref m), (1, .ref o), (0, .ref bs)] [] := by
  obtain ⟨D, ⟨x1, x2, x3, x4, x5, x6, x7, x8, x9, X⟩, ⟨sc, ar, Y, hR⟩, ⟨ag, fa⟩, ⟨gd, fd⟩⟩ := W9
  have kc9 : ((k_crossingAt E (sv xs (i + 1)))).1 ≤ 1 := by first | exact kc_crossingAt | exact kc_crossingAt _ | exact kc_crossingAt _ _ | exact kc_crossingAt _ _ _ | exact kc_crossingAt _ _ _ _ | exact kc_crossingAt _ _ _ _ _
  have rk : r32 ((((k_crossingAt E (sv xs (i + 1)))).1 : Nat) : Int) := ⟨by omega, by omega⟩
  refine e_aload_n dL_law_2319 rfl ?_
  refine e_aload_n dL_law_2320 rfl ?_
  refine e_iload dL_law_2321 rfl ?_
  refine e_iconst dL_law_2323 ?_
  refine e_iadd dL_law_2324 ?_
  refine e_sld (by omega) (by omega) hL dL_law_2325 ?_
  refine e_aload_n dL_law_2326 rfl ?_
  refine e_callH qcL_269 (H_crossingAt X fa (by obtain ⟨rfl, rfl, rfl⟩ := D; omega) (r32_sv _ _)) rfl rfl rfl (g_rm_of rfl hk hn) dL_law_2327 (fun E9 z9 h9 w => nomatch w.2.1) (fun v9 z9 h9 w => ?_)
  obtain ⟨rfl, w2, hc, ⟨l1, l2, l3, l4, l5, l6, l7, l8, l9, X1⟩, rfl⟩ := w
  have e2 : v9 = some (.int (iN ((((k_crossingAt E (sv xs (i + 1)))).1 : Nat) : Int))) := Sum.inl.inj w2
  subst e2
  refine (show Ev _ _ _ _ _ _ _ (.int (iN ((((k_crossingAt E (sv xs (i + 1)))).1 : Nat) : Int)) :: []) from ?_)
  obtain ⟨XC, Y1, ⟨g1, f1, v1⟩, f2⟩ := lw_aft D X1 Y fa fd
  generalize upL G _ _ _ _ = hh at XC Y1 f1 f2 ⊢
  refine e_istore dL_law_2330 rfl ?_
  refine e_aload_n dL_law_2332 rfl ?_
  refine e_aload_n dL_law_2333 rfl ?_
  refine e_iload dL_law_2334 rfl ?_
  refine e_iconst dL_law_2336 ?_
  refine e_iadd dL_law_2337 ?_
  refine e_sld (by omega) (by omega) hL dL_law_2338 ?_
  refine e_callV qcL_271 Y1.obj rfl rfl (M_crossingAt Y1 hR (r32_sv _ _)) rfl rfl rfl (g_rm_of rfl (by show k + 1 + 0 ≤ 601024; omega) (by show n + 6 + 0 ≤ 7293034; omega)) dL_law_2339 (fun E9 z9 h9 w => nomatch (show (Sum.inr _ : g_O) = Sum.inl _ from w.2.1)) (fun v9 z9 h9 w => ?_)
  obtain ⟨rfl, w2, sc2, ar2, Y2, R2, c2⟩ := w
  have e2 : v9 = some (.int (iN ((k_crossingAt E (sv xs (i + 1)))).2)) := Sum.inl.inj w2
  subst e2
  refine (show Ev _ _ _ _ _ _ _ (.int (iN ((k_crossingAt E (sv xs (i + 1)))).2) :: []) from ?_)
  obtain ⟨WW, f3, f4⟩ := lw_end D XC Y2 R2 f1 f2
  refine e_istore dL_law_2342 rfl ?_
  refine e_aload_n dL_law_2344 rfl ?_
  refine e_pureV qcL_149 Y2.obj rfl rfl (S_thrown Y2) rfl rfl rfl (g_rm_of rfl (by show k + 1 + 0 + 0 ≤ 601024; omega) (by show n + 6 + 0 + 0 ≤ 7293034; omega)) dL_law_2345 ?_
  rw [c2]
  refine e_iload dL_law_2348 rfl ?_
  refine e_icmp_eq (tgt := 2355) rk rk dL_law_2350 rfl (fun _ => ?_) (fun c9 => absurd rfl c9)
  refine e_iload dL_law_2355 rfl ?_
  refine e_if_ne (tgt := 2372) rk dL_law_2357 rfl (fun c_2357 => ?_) (fun c_2357 => ?_)
  · refine e_goto (tgt := 2957) dL_law_2372 rfl ?_
    refine e_loc [(5, .int (iN i)), (4, .ref ad), (3, .ref ao), (2, .ref m), (1, .ref o), (0, .ref bs)] ⟨rfl, rfl, rfl, rfl, rfl, rfl, trivial⟩ ?_
    exact kk _ WW
  · have hz : ((k_crossingAt E (sv xs (i + 1)))).1 = 0 := by omega
    refine e_aload_n dL_law_2360 rfl ?_
    refine e_iconst dL_law_2361 ?_
    refine e_laload f3 (by omega) (by omega) rfl dL_law_2362 ?_
    have e5 : g1 0 = w32 ((k_crossingAt E (sv xs (i + 1)))).2 := v1 hz
    refine (show Ev _ _ _ _ _ _ _ (.long (lI (g1 0)) :: []) from ?_)
    rw [e5]
    refine e_iload dL_law_2363 rfl ?_
    rw [← iN_w32 ((k_crossingAt E (sv xs (i + 1)))).2]
    refine e_i2l (r32_of _) dL_law_2365 ?_
    refine e_lif_eq (tgt := 2372) (r64_w32 _) (r64_w32 _) dL_law_2366 dL_law_2367 rfl (fun _ => ?_) (fun c9 => absurd rfl c9)
    refine e_goto (tgt := 2957) dL_law_2372 rfl ?_
    refine e_loc [(5, .int (iN i)), (4, .ref ad), (3, .ref ao), (2, .ref m), (1, .ref o), (0, .ref bs)] ⟨rfl, rfl, rfl, rfl, rfl, rfl, trivial⟩ ?_
    exact kk _ WW
set_option maxRecDepth 20000 in
theorem lc_37 (W9 : lwW G P E S b P2 E2 S2 F o m ao ad h) (hi : 0 ≤ i) (hi5 : i + 5 ≤ L) (hL : L ≤ 2560) (hk : k + 1 ≤ 601024) (hn : n + 6 ≤ 7293034)  (kk : ∀ h1, lwW G P E S b P2 E2 S2 F o m ao ad h1 → Ev (lwE G bs L xs ZZ) (k + 1) (n + 6) none h1 2957 [(5, .int (iN i)), (4, .ref ad), (3, .ref ao), (2, .ref m), (1, .ref o), (0, .ref bs)] []) : Ev (lwE G bs L xs ZZ) k n none h 2375 [(5, .int (iN i)), (4, .ref ad), (3, .ref ao), (2, .ref m), (1, .ref o), (0, .ref bs)] [] := by
  obtain ⟨D, ⟨x1, x2, x3, x4, x5, x6, x7, x8, x9, X⟩, ⟨sc, ar, Y, hR⟩, ⟨ag, fa⟩, ⟨gd, fd⟩⟩ := W9
  by_cases hu : sv xs (i + 2) = 0
  · have kc9 : ((k_pair P (sv xs (i + 1)) False)).1 ≤ 2 := by first | exact kc_pair | exact kc_pair _ | exact kc_pair _ _ | exact kc_pair _ _ _ | exact kc_pair _ _ _ _ | exact kc_pair _ _ _ _ _
    have rk : r32 ((((k_pair P (sv xs (i + 1)) False)).1 : Nat) : Int) := ⟨by omega, by omega⟩
    refine e_aload_n dL_law_2375 rfl ?_
    refine e_aload_n dL_law_2376 rfl ?_
    refine e_iload dL_law_2377 rfl ?_
    refine e_iconst dL_law_2379 ?_
    refine e_iadd dL_law_2380 ?_
    refine e_sld (by omega) (by omega) hL dL_law_2381 ?_
    refine e_aload_n dL_law_2382 rfl ?_
    refine e_iload dL_law_2383 rfl ?_
    refine e_iconst dL_law_2385 ?_
    refine e_iadd dL_law_2386 ?_
    refine e_sld (by omega) (by omega) hL dL_law_2387 ?_
    refine e_if_eq (tgt := 2395) (r32_sv _ _) dL_law_2388 rfl (fun c9 => ?_) (fun c9 => absurd hu c9)
    refine e_iconst dL_law_2395 ?_
    refine e_aload_n dL_law_2396 rfl ?_
    refine e_callH qcL_272 (H_pair X fa (by obtain ⟨rfl, rfl, rfl⟩ := D; omega) (u := False) (r32_sv _ _)) rfl rfl rfl (g_rm_of rfl hk hn) dL_law_2397 (fun E9 z9 h9 w => nomatch w.2.1) (fun v9 z9 h9 w => ?_)
    obtain ⟨rfl, w2, hc, ⟨l1, l2, l3, l4, l5, l6, l7, l8, l9, X1⟩, rfl⟩ := w
    have e2 : v9 = some (.int (iN ((((k_pair P (sv xs (i + 1)) False)).1 : Nat) : Int))) := Sum.inl.inj w2
    subst e2
    refine (show Ev _ _ _ _ _ _ _ (.int (iN ((((k_pair P (sv xs (i + 1)) False)).1 : Nat) : Int)) :: []) from ?_)
    obtain ⟨XC, Y1, ⟨g1, f1, v1⟩, f2⟩ := lw_aft D X1 Y fa fd
    generalize upL G _ _ _ _ = hh at XC Y1 f1 f2 ⊢
    refine e_istore dL_law_2400 rfl ?_
    refine e_aload_n dL_law_2402 rfl ?_
    refine e_aload_n dL_law_2403 rfl ?_
    refine e_iload dL_law_2404 rfl ?_
    refine e_iconst dL_law_2406 ?_
    refine e_iadd dL_law_2407 ?_
    refine e_sld (by omega) (by omega) hL dL_law_2408 ?_
    refine e_aload_n dL_law_2409 rfl ?_
    refine e_iload dL_law_2410 rfl ?_
    refine e_iconst dL_law_2412 ?_
    refine e_iadd dL_law_2413 ?_
    refine e_sld (by omega) (by omega) hL dL_law_2414 ?_
    refine e_if_eq (tgt := 2422) (r32_sv _ _) dL_law_2415 rfl (fun c9 => ?_) (fun c9 => absurd hu c9)
    refine e_iconst dL_law_2422 ?_
    refine e_callV qcL_274 Y1.obj rfl rfl (M_pair Y1 hR (u := False) (r32_sv _ _)) rfl rfl rfl (g_rm_of rfl (by show k + 1 + 0 ≤ 601024; omega) (by show n + 6 + 0 ≤ 7293034; omega)) dL_law_2423 (fun E9 z9 h9 w => nomatch (show (Sum.inr _ : g_O) = Sum.inl _ from w.2.1)) (fun v9 z9 h9 w => ?_)
    obtain ⟨rfl, w2, sc2, ar2, Y2, R2, c2⟩ := w
    have e2 : v9 = some (.int (iN ((k_pair P (sv xs (i + 1)) False)).2)) := Sum.inl.inj w2
    subst e2
    refine (show Ev _ _ _ _ _ _ _ (.int (iN ((k_pair P (sv xs (i + 1)) False)).2) :: []) from ?_)
    obtain ⟨WW, f3, f4⟩ := lw_end D XC Y2 R2 f1 f2
    refine e_istore dL_law_2426 rfl ?_
    refine e_aload_n dL_law_2428 rfl ?_
    refine e_pureV qcL_149 Y2.obj rfl rfl (S_thrown Y2) rfl rfl rfl (g_rm_of rfl (by show k + 1 + 0 + 0 ≤ 601024; omega) (by show n + 6 + 0 + 0 ≤ 7293034; omega)) dL_law_2429 ?_
    rw [c2]
    refine e_iload dL_law_2432 rfl ?_
    refine e_icmp_eq (tgt := 2439) rk rk dL_law_2434 rfl (fun _ => ?_) (fun c9 => absurd rfl c9)
    refine e_iload dL_law_2439 rfl ?_
    refine e_if_ne (tgt := 2456) rk dL_law_2441 rfl (fun c_2441 => ?_) (fun c_2441 => ?_)
    · refine e_goto (tgt := 2957) dL_law_2456 rfl ?_
      refine e_loc [(5, .int (iN i)), (4, .ref ad), (3, .ref ao), (2, .ref m), (1, .ref o), (0, .ref bs)] ⟨rfl, rfl, rfl, rfl, rfl, rfl, trivial⟩ ?_
      exact kk _ WW
    · have hz : ((k_pair P (sv xs (i + 1)) False)).1 = 0 := by omega
      refine e_aload_n dL_law_2444 rfl ?_
      refine e_iconst dL_law_2445 ?_
      refine e_laload f3 (by omega) (by omega) rfl dL_law_2446 ?_
      have e5 : g1 0 = w32 ((k_pair P (sv xs (i + 1)) False)).2 := v1 hz
      refine (show Ev _ _ _ _ _ _ _ (.long (lI (g1 0)) :: []) from ?_)
      rw [e5]
      refine e_iload dL_law_2447 rfl ?_
      rw [← iN_w32 ((k_pair P (sv xs (i + 1)) False)).2]
      refine e_i2l (r32_of _) dL_law_2449 ?_
      refine e_lif_eq (tgt := 2456) (r64_w32 _) (r64_w32 _) dL_law_2450 dL_law_2451 rfl (fun _ => ?_) (fun c9 => absurd rfl c9)
      refine e_goto (tgt := 2957) dL_law_2456 rfl ?_
      refine e_loc [(5, .int (iN i)), (4, .ref ad), (3, .ref ao), (2, .ref m), (1, .ref o), (0, .ref bs)] ⟨rfl, rfl, rfl, rfl, rfl, rfl, trivial⟩ ?_
      exact kk _ WW
  · have kc9 : ((k_pair P (sv xs (i + 1)) True)).1 ≤ 2 := by first | exact kc_pair | exact kc_pair _ | exact kc_pair _ _ | exact kc_pair _ _ _ | exact kc_pair _ _ _ _ | exact kc_pair _ _ _ _ _
    have rk : r32 ((((k_pair P (sv xs (i + 1)) True)).1 : Nat) : Int) := ⟨by omega, by omega⟩
    refine e_aload_n dL_law_2375 rfl ?_
    refine e_aload_n dL_law_2376 rfl ?_
    refine e_iload dL_law_2377 rfl ?_
    refine e_iconst dL_law_2379 ?_
    refine e_iadd dL_law_2380 ?_
    refine e_sld (by omega) (by omega) hL dL_law_2381 ?_
    refine e_aload_n dL_law_2382 rfl ?_
    refine e_iload dL_law_2383 rfl ?_
    refine e_iconst dL_law_2385 ?_
    refine e_iadd dL_law_2386 ?_
    refine e_sld (by omega) (by omega) hL dL_law_2387 ?_
    refine e_if_eq (tgt := 2395) (r32_sv _ _) dL_law_2388 rfl (fun c9 => absurd c9 hu) (fun c9 => ?_)
    refine e_iconst dL_law_2391 ?_
    refine e_goto (tgt := 2396) dL_law_2392 rfl ?_
    refine e_aload_n dL_law_2396 rfl ?_
    refine e_callH qcL_272 (H_pair X fa (by obtain ⟨rfl, rfl, rfl⟩ := D; omega) (u := True) (r32_sv _ _)) rfl rfl rfl (g_rm_of rfl hk hn) dL_law_2397 (fun E9 z9 h9 w => nomatch w.2.1) (fun v9 z9 h9 w => ?_)
    obtain ⟨rfl, w2, hc, ⟨l1, l2, l3, l4, l5, l6, l7, l8, l9, X1⟩, rfl⟩ := w
    have e2 : v9 = some (.int (iN ((((k_pair P (sv xs (i + 1)) True)).1 : Nat) : Int))) := Sum.inl.inj w2
    subst e2
    refine (show Ev _ _ _ _ _ _ _ (.int (iN ((((k_pair P (sv xs (i + 1)) True)).1 : Nat) : Int)) :: []) from ?_)
    obtain ⟨XC, Y1, ⟨g1, f1, v1⟩, f2⟩ := lw_aft D X1 Y fa fd
    generalize upL G _ _ _ _ = hh at XC Y1 f1 f2 ⊢
    refine e_istore dL_law_2400 rfl ?_
    refine e_aload_n dL_law_2402 rfl ?_
    refine e_aload_n dL_law_2403 rfl ?_
    refine e_iload dL_law_2404 rfl ?_
    refine e_iconst dL_law_2406 ?_
    refine e_iadd dL_law_2407 ?_
    refine e_sld (by omega) (by omega) hL dL_law_2408 ?_
    refine e_aload_n dL_law_2409 rfl ?_
    refine e_iload dL_law_2410 rfl ?_
    refine e_iconst dL_law_2412 ?_
    refine e_iadd dL_law_2413 ?_
    refine e_sld (by omega) (by omega) hL dL_law_2414 ?_
    refine e_if_eq (tgt := 2422) (r32_sv _ _) dL_law_2415 rfl (fun c9 => absurd c9 hu) (fun c9 => ?_)
    refine e_iconst dL_law_2418 ?_
    refine e_goto (tgt := 2423) dL_law_2419 rfl ?_
    refine e_callV qcL_274 Y1.obj rfl rfl (M_pair Y1 hR (u := True) (r32_sv _ _)) rfl rfl rfl (g_rm_of rfl (by show k + 1 + 0 ≤ 601024; omega) (by show n + 6 + 0 ≤ 7293034; omega)) dL_law_2423 (fun E9 z9 h9 w => nomatch (show (Sum.inr _ : g_O) = Sum.inl _ from w.2.1)) (fun v9 z9 h9 w => ?_)
    obtain ⟨rfl, w2, sc2, ar2, Y2, R2, c2⟩ := w
    have e2 : v9 = some (.int (iN ((k_pair P (sv xs (i + 1)) True)).2)) := Sum.inl.inj w2
    subst e2
    refine (show Ev _ _ _ _ _ _ _ (.int (iN ((k_pair P (sv xs (i + 1)) True)).2) :: []) from ?_)
    obtain ⟨WW, f3, f4⟩ := lw_end D XC Y2 R2 f1 f2
    refine e_istore dL_law_2426 rfl ?_
    refine e_aload_n dL_law_2428 rfl ?_
    refine e_pureV qcL_149 Y2.obj rfl rfl (S_thrown Y2) rfl rfl rfl (g_rm_of rfl (by show k + 1 + 0 + 0 ≤ 601024; omega) (by show n + 6 + 0 + 0 ≤ 7293034; omega)) dL_law_2429 ?_
    rw [c2]
    refine e_iload dL_law_2432 rfl ?_
    refine e_icmp_eq (tgt := 2439) rk rk dL_law_2434 rfl (fun _ => ?_) (fun c9 => absurd rfl c9)
    refine e_iload dL_law_2439 rfl ?_
    refine e_if_ne (tgt := 2456) rk dL_law_2441 rfl (fun c_2441 => ?_) (fun c_2441 => ?_)
    · refine e_goto (tgt := 2957) dL_law_2456 rfl ?_
      refine e_loc [(5, .int (iN i)), (4, .ref ad), (3, .ref ao), (2, .ref m), (1, .ref o), (0, .ref bs)] ⟨rfl, rfl, rfl, rfl, rfl, rfl, trivial⟩ ?_
      exact kk _ WW
    · have hz : ((k_pair P (sv xs (i + 1)) True)).1 = 0 := by omega
      refine e_aload_n dL_law_2444 rfl ?_
      refine e_iconst dL_law_2445 ?_
      refine e_laload f3 (by omega) (by omega) rfl dL_law_2446 ?_
      have e5 : g1 0 = w32 ((k_pair P (sv xs (i + 1)) True)).2 := v1 hz
      refine (show Ev _ _ _ _ _ _ _ (.long (lI (g1 0)) :: []) from ?_)
      rw [e5]
      refine e_iload dL_law_2447 rfl ?_
      rw [← iN_w32 ((k_pair P (sv xs (i + 1)) True)).2]
      refine e_i2l (r32_of _) dL_law_2449 ?_
      refine e_lif_eq (tgt := 2456) (r64_w32 _) (r64_w32 _) dL_law_2450 dL_law_2451 rfl (fun _ => ?_) (fun c9 => absurd rfl c9)
      refine e_goto (tgt := 2957) dL_law_2456 rfl ?_
      refine e_loc [(5, .int (iN i)), (4, .ref ad), (3, .ref ao), (2, .ref m), (1, .ref o), (0, .ref bs)] ⟨rfl, rfl, rfl, rfl, rfl, rfl, trivial⟩ ?_
      exact kk _ WW
def QC_distance_hh (P E : PL) (S : Nat → PL) (b : Int) (P2 E2 : PL) (S2 : Nat → PL) (F : PL) : Prop := ∀ (a : Int) (u : Prop) [Decidable u], 2 ≤ cntN P a P.length → 0 ≤ (exI P a u P.length).1 ∧ (exI P a u P.length).1 ≤ 10000 ∧ exT P a u / 100 < P.length ∧ exT P a u % 100 < P.length
def QM_distance_hh (P E : PL) (S : Nat → PL) (b : Int) (P2 E2 : PL) (S2 : Nat → PL) (F : PL) : Prop := ∀ (a : Int) (u : Prop) [Decidable u], 2 ≤ cntN P a P.length → 0 ≤ (exI P a u P.length).1 ∧ (exI P a u P.length).1 ≤ 10000 ∧ exT P a u / 100 < P.length ∧ exT P a u % 100 < P.length
set_option maxRecDepth 20000 in
theorem lc_38 (W9 : lwW G P E S b P2 E2 S2 F o m ao ad h) (hi : 0 ≤ i) (hi5 : i + 5 ≤ L) (hL : L ≤ 2560) (hk : k + 1 ≤ 601024) (hn : n + 6 ≤ 7293034) (Qq_QC_distance_hh : QC_distance_hh P E S b P2 E2 S2 F) (Qq_QM_distance_hh : QM_distance_hh P E S b P2 E2 S2 F) (kk : ∀ h1, lwW G P E S b P2 E2 S2 F o m ao ad h1 → Ev (lwE G bs L xs ZZ) (k + 1) (n + 6) none h1 2957 [(5, .int (iN i)), (4, .ref ad), (3, .ref ao), (2, .ref m), (1, .ref o), (0, .ref bs)] []) : Ev (lwE G bs L xs ZZ) k n none h 2459 [(5, .int (iN i)), (4, .ref ad), (3, .ref ao), (2, .ref m), (1, .ref o), (0, .ref bs)] [] := by
  obtain ⟨D, ⟨x1, x2, x3, x4, x5, x6, x7, x8, x9, X⟩, ⟨sc, ar, Y, hR⟩, ⟨ag, fa⟩, ⟨gd, fd⟩⟩ := W9
  by_cases hu : sv xs (i + 2) = 0
  · have kc9 : ((k_distance P (sv xs (i + 1)) False)).1 ≤ 2 := by first | exact kc_distance | exact kc_distance _ | exact kc_distance _ _ | exact kc_distance _ _ _ | exact kc_distance _ _ _ _ | exact kc_distance _ _ _ _ _
    have rk : r32 ((((k_distance P (sv xs (i + 1)) False)).1 : Nat) : Int) := ⟨by omega, by omega⟩
    refine e_aload_n dL_law_2459 rfl ?_
    refine e_aload_n dL_law_2460 rfl ?_
    refine e_iload dL_law_2461 rfl ?_
    refine e_iconst dL_law_2463 ?_
    refine e_iadd dL_law_2464 ?_
    refine e_sld (by omega) (by omega) hL dL_law_2465 ?_
    refine e_aload_n dL_law_2466 rfl ?_
    refine e_iload dL_law_2467 rfl ?_
    refine e_iconst dL_law_2469 ?_
    refine e_iadd dL_law_2470 ?_
    refine e_sld (by omega) (by omega) hL dL_law_2471 ?_
    refine e_if_eq (tgt := 2479) (r32_sv _ _) dL_law_2472 rfl (fun c9 => ?_) (fun c9 => absurd hu c9)
    refine e_iconst dL_law_2479 ?_
    refine e_aload_n dL_law_2480 rfl ?_
    refine e_callH qcL_275 (H_distance X fa (by obtain ⟨rfl, rfl, rfl⟩ := D; omega) (u := False) (r32_sv _ _) (Qq_QC_distance_hh _ False)) rfl rfl rfl (g_rm_of rfl hk hn) dL_law_2481 (fun E9 z9 h9 w => nomatch w.2.1) (fun v9 z9 h9 w => ?_)
    obtain ⟨rfl, w2, hc, ⟨l1, l2, l3, l4, l5, l6, l7, l8, l9, X1⟩, rfl⟩ := w
    have e2 : v9 = some (.int (iN ((((k_distance P (sv xs (i + 1)) False)).1 : Nat) : Int))) := Sum.inl.inj w2
    subst e2
    refine (show Ev _ _ _ _ _ _ _ (.int (iN ((((k_distance P (sv xs (i + 1)) False)).1 : Nat) : Int)) :: []) from ?_)
    obtain ⟨XC, Y1, ⟨g1, f1, v1⟩, f2⟩ := lw_aft D X1 Y fa fd
    generalize upL G _ _ _ _ = hh at XC Y1 f1 f2 ⊢
    refine e_istore dL_law_2484 rfl ?_
    refine e_aload_n dL_law_2486 rfl ?_
    refine e_aload_n dL_law_2487 rfl ?_
    refine e_iload dL_law_2488 rfl ?_
    refine e_iconst dL_law_2490 ?_
    refine e_iadd dL_law_2491 ?_
    refine e_sld (by omega) (by omega) hL dL_law_2492 ?_
    refine e_aload_n dL_law_2493 rfl ?_
    refine e_iload dL_law_2494 rfl ?_
    refine e_iconst dL_law_2496 ?_
    refine e_iadd dL_law_2497 ?_
    refine e_sld (by omega) (by omega) hL dL_law_2498 ?_
    refine e_if_eq (tgt := 2506) (r32_sv _ _) dL_law_2499 rfl (fun c9 => ?_) (fun c9 => absurd hu c9)
    refine e_iconst dL_law_2506 ?_
    refine e_callV qcL_277 Y1.obj rfl rfl (M_distance Y1 hR (u := False) (r32_sv _ _) (Qq_QM_distance_hh _ False)) rfl rfl rfl (g_rm_of rfl (by show k + 1 + 0 ≤ 601024; omega) (by show n + 6 + 0 ≤ 7293034; omega)) dL_law_2507 (fun E9 z9 h9 w => nomatch (show (Sum.inr _ : g_O) = Sum.inl _ from w.2.1)) (fun v9 z9 h9 w => ?_)
    obtain ⟨rfl, w2, sc2, ar2, Y2, R2, c2⟩ := w
    have e2 : v9 = some (.int (iN ((k_distance P (sv xs (i + 1)) False)).2)) := Sum.inl.inj w2
    subst e2
    refine (show Ev _ _ _ _ _ _ _ (.int (iN ((k_distance P (sv xs (i + 1)) False)).2) :: []) from ?_)
    obtain ⟨WW, f3, f4⟩ := lw_end D XC Y2 R2 f1 f2
    refine e_istore dL_law_2510 rfl ?_
    refine e_aload_n dL_law_2512 rfl ?_
    refine e_pureV qcL_149 Y2.obj rfl rfl (S_thrown Y2) rfl rfl rfl (g_rm_of rfl (by show k + 1 + 0 + 0 ≤ 601024; omega) (by show n + 6 + 0 + 0 ≤ 7293034; omega)) dL_law_2513 ?_
    rw [c2]
    refine e_iload dL_law_2516 rfl ?_
    refine e_icmp_eq (tgt := 2523) rk rk dL_law_2518 rfl (fun _ => ?_) (fun c9 => absurd rfl c9)
    refine e_iload dL_law_2523 rfl ?_
    refine e_if_ne (tgt := 2540) rk dL_law_2525 rfl (fun c_2525 => ?_) (fun c_2525 => ?_)
    · refine e_goto (tgt := 2957) dL_law_2540 rfl ?_
      refine e_loc [(5, .int (iN i)), (4, .ref ad), (3, .ref ao), (2, .ref m), (1, .ref o), (0, .ref bs)] ⟨rfl, rfl, rfl, rfl, rfl, rfl, trivial⟩ ?_
      exact kk _ WW
    · have hz : ((k_distance P (sv xs (i + 1)) False)).1 = 0 := by omega
      refine e_aload_n dL_law_2528 rfl ?_
      refine e_iconst dL_law_2529 ?_
      refine e_laload f3 (by omega) (by omega) rfl dL_law_2530 ?_
      have e5 : g1 0 = w32 ((k_distance P (sv xs (i + 1)) False)).2 := v1 hz
      refine (show Ev _ _ _ _ _ _ _ (.long (lI (g1 0)) :: []) from ?_)
      rw [e5]
      refine e_iload dL_law_2531 rfl ?_
      rw [← iN_w32 ((k_distance P (sv xs (i + 1)) False)).2]
      refine e_i2l (r32_of _) dL_law_2533 ?_
      refine e_lif_eq (tgt := 2540) (r64_w32 _) (r64_w32 _) dL_law_2534 dL_law_2535 rfl (fun _ => ?_) (fun c9 => absurd rfl c9)
      refine e_goto (tgt := 2957) dL_law_2540 rfl ?_
      refine e_loc [(5, .int (iN i)), (4, .ref ad), (3, .ref ao), (2, .ref m), (1, .ref o), (0, .ref bs)] ⟨rfl, rfl, rfl, rfl, rfl, rfl, trivial⟩ ?_
      exact kk _ WW
  · have kc9 : ((k_distance P (sv xs (i + 1)) True)).1 ≤ 2 := by first | exact kc_distance | exact kc_distance _ | exact kc_distance _ _ | exact kc_distance _ _ _ | exact kc_distance _ _ _ _ | exact kc_distance _ _ _ _ _
    have rk : r32 ((((k_distance P (sv xs (i + 1)) True)).1 : Nat) : Int) := ⟨by omega, by omega⟩
    refine e_aload_n dL_law_2459 rfl ?_
    refine e_aload_n dL_law_2460 rfl ?_
    refine e_iload dL_law_2461 rfl ?_
    refine e_iconst dL_law_2463 ?_
    refine e_iadd dL_law_2464 ?_
    refine e_sld (by omega) (by omega) hL dL_law_2465 ?_
    refine e_aload_n dL_law_2466 rfl ?_
    refine e_iload dL_law_2467 rfl ?_
    refine e_iconst dL_law_2469 ?_
    refine e_iadd dL_law_2470 ?_
    refine e_sld (by omega) (by omega) hL dL_law_2471 ?_
    refine e_if_eq (tgt := 2479) (r32_sv _ _) dL_law_2472 rfl (fun c9 => absurd c9 hu) (fun c9 => ?_)
    refine e_iconst dL_law_2475 ?_
    refine e_goto (tgt := 2480) dL_law_2476 rfl ?_
    refine e_aload_n dL_law_2480 rfl ?_
    refine e_callH qcL_275 (H_distance X fa (by obtain ⟨rfl, rfl, rfl⟩ := D; omega) (u := True) (r32_sv _ _) (Qq_QC_distance_hh _ True)) rfl rfl rfl (g_rm_of rfl hk hn) dL_law_2481 (fun E9 z9 h9 w => nomatch w.2.1) (fun v9 z9 h9 w => ?_)
    obtain ⟨rfl, w2, hc, ⟨l1, l2, l3, l4, l5, l6, l7, l8, l9, X1⟩, rfl⟩ := w
    have e2 : v9 = some (.int (iN ((((k_distance P (sv xs (i + 1)) True)).1 : Nat) : Int))) := Sum.inl.inj w2
    subst e2
    refine (show Ev _ _ _ _ _ _ _ (.int (iN ((((k_distance P (sv xs (i + 1)) True)).1 : Nat) : Int)) :: []) from ?_)
    obtain ⟨XC, Y1, ⟨g1, f1, v1⟩, f2⟩ := lw_aft D X1 Y fa fd
    generalize upL G _ _ _ _ = hh at XC Y1 f1 f2 ⊢
    refine e_istore dL_law_2484 rfl ?_
    refine e_aload_n dL_law_2486 rfl ?_
    refine e_aload_n dL_law_2487 rfl ?_
    refine e_iload dL_law_2488 rfl ?_
    refine e_iconst dL_law_2490 ?_
    refine e_iadd dL_law_2491 ?_
    refine e_sld (by omega) (by omega) hL dL_law_2492 ?_
    refine e_aload_n dL_law_2493 rfl ?_
    refine e_iload dL_law_2494 rfl ?_
    refine e_iconst dL_law_2496 ?_
    refine e_iadd dL_law_2497 ?_
    refine e_sld (by omega) (by omega) hL dL_law_2498 ?_
    refine e_if_eq (tgt := 2506) (r32_sv _ _) dL_law_2499 rfl (fun c9 => absurd c9 hu) (fun c9 => ?_)
    refine e_iconst dL_law_2502 ?_
    refine e_goto (tgt := 2507) dL_law_2503 rfl ?_
    refine e_callV qcL_277 Y1.obj rfl rfl (M_distance Y1 hR (u := True) (r32_sv _ _) (Qq_QM_distance_hh _ True)) rfl rfl rfl (g_rm_of rfl (by show k + 1 + 0 ≤ 601024; omega) (by show n + 6 + 0 ≤ 7293034; omega)) dL_law_2507 (fun E9 z9 h9 w => nomatch (show (Sum.inr _ : g_O) = Sum.inl _ from w.2.1)) (fun v9 z9 h9 w => ?_)
    obtain ⟨rfl, w2, sc2, ar2, Y2, R2, c2⟩ := w
    have e2 : v9 = some (.int (iN ((k_distance P (sv xs (i + 1)) True)).2)) := Sum.inl.inj w2
    subst e2
    refine (show Ev _ _ _ _ _ _ _ (.int (iN ((k_distance P (sv xs (i + 1)) True)).2) :: []) from ?_)
    obtain ⟨WW, f3, f4⟩ := lw_end D XC Y2 R2 f1 f2
    refine e_istore dL_law_2510 rfl ?_
    refine e_aload_n dL_law_2512 rfl ?_
    refine e_pureV qcL_149 Y2.obj rfl rfl (S_thrown Y2) rfl rfl rfl (g_rm_of rfl (by show k + 1 + 0 + 0 ≤ 601024; omega) (by show n + 6 + 0 + 0 ≤ 7293034; omega)) dL_law_2513 ?_
    rw [c2]
    refine e_iload dL_law_2516 rfl ?_
    refine e_icmp_eq (tgt := 2523) rk rk dL_law_2518 rfl (fun _ => ?_) (fun c9 => absurd rfl c9)
    refine e_iload dL_law_2523 rfl ?_
    refine e_if_ne (tgt := 2540) rk dL_law_2525 rfl (fun c_2525 => ?_) (fun c_2525 => ?_)
    · refine e_goto (tgt := 2957) dL_law_2540 rfl ?_
      refine e_loc [(5, .int (iN i)), (4, .ref ad), (3, .ref ao), (2, .ref m), (1, .ref o), (0, .ref bs)] ⟨rfl, rfl, rfl, rfl, rfl, rfl, trivial⟩ ?_
      exact kk _ WW
    · have hz : ((k_distance P (sv xs (i + 1)) True)).1 = 0 := by omega
      refine e_aload_n dL_law_2528 rfl ?_
      refine e_iconst dL_law_2529 ?_
      refine e_laload f3 (by omega) (by omega) rfl dL_law_2530 ?_
      have e5 : g1 0 = w32 ((k_distance P (sv xs (i + 1)) True)).2 := v1 hz
      refine (show Ev _ _ _ _ _ _ _ (.long (lI (g1 0)) :: []) from ?_)
      rw [e5]
      refine e_iload dL_law_2531 rfl ?_
      rw [← iN_w32 ((k_distance P (sv xs (i + 1)) True)).2]
      refine e_i2l (r32_of _) dL_law_2533 ?_
      refine e_lif_eq (tgt := 2540) (r64_w32 _) (r64_w32 _) dL_law_2534 dL_law_2535 rfl (fun _ => ?_) (fun c9 => absurd rfl c9)
      refine e_goto (tgt := 2957) dL_law_2540 rfl ?_
      refine e_loc [(5, .int (iN i)), (4, .ref ad), (3, .ref ao), (2, .ref m), (1, .ref o), (0, .ref bs)] ⟨rfl, rfl, rfl, rfl, rfl, rfl, trivial⟩ ?_
      exact kk _ WW
def QM_box_hm (P E : PL) (S : Nat → PL) (b : Int) (P2 E2 : PL) (S2 : Nat → PL) (F : PL) : Prop := ∀ (a : Int), cntN P a P.length ≠ 0 → ∀ w : Nat, w < 4 → ∃ q, bxN P a w P.length = some q ∧ bxV P w q = bnd (putN P a [] P.length) w (putN P a [] P.length).length
set_option maxRecDepth 20000 in
theorem lc_39 (W9 : lwW G P E S b P2 E2 S2 F o m ao ad h) (hi : 0 ≤ i) (hi5 : i + 5 ≤ L) (hL : L ≤ 2560) (hk : k + 1 ≤ 601024) (hn : n + 6 ≤ 7293034) (Qq_QM_box_hm : QM_box_hm P E S b P2 E2 S2 F) (kk : ∀ h1, lwW G P E S b P2 E2 S2 F o m ao ad h1 → Ev (lwE G bs L xs ZZ) (k + 1) (n + 6) none h1 2957 [(5, .int (iN i)), (4, .ref ad), (3, .ref ao), (2, .ref m), (1, .ref o), (0, .ref bs)] []) : Ev (lwE G bs L xs ZZ) k n none h 2543 [(5, .int (iN i)), (4, .ref ad), (3, .ref ao), (2, .ref m), (1, .ref o), (0, .ref bs)] [] := by
  obtain ⟨D, ⟨x1, x2, x3, x4, x5, x6, x7, x8, x9, X⟩, ⟨sc, ar, Y, hR⟩, ⟨ag, fa⟩, ⟨gd, fd⟩⟩ := W9
  have kc9 : ((k_box P (sv xs (i + 1)) (sv xs (i + 2)))).1 ≤ 2 := by first | exact kc_box | exact kc_box _ | exact kc_box _ _ | exact kc_box _ _ _ | exact kc_box _ _ _ _ | exact kc_box _ _ _ _ _
  have rk : r32 ((((k_box P (sv xs (i + 1)) (sv xs (i + 2)))).1 : Nat) : Int) := ⟨by omega, by omega⟩
  refine e_aload_n dL_law_2543 rfl ?_
  refine e_aload_n dL_law_2544 rfl ?_
  refine e_iload dL_law_2545 rfl ?_
  refine e_iconst dL_law_2547 ?_
  refine e_iadd dL_law_2548 ?_
  refine e_sld (by omega) (by omega) hL dL_law_2549 ?_
  refine e_aload_n dL_law_2550 rfl ?_
  refine e_iload dL_law_2551 rfl ?_
  refine e_iconst dL_law_2553 ?_
  refine e_iadd dL_law_2554 ?_
  refine e_sld (by omega) (by omega) hL dL_law_2555 ?_
  refine e_aload_n dL_law_2556 rfl ?_
  refine e_callH qcL_278 (H_box X fa (by obtain ⟨rfl, rfl, rfl⟩ := D; omega) (r32_sv _ _) (r32_sv _ _)) rfl rfl rfl (g_rm_of rfl hk hn) dL_law_2557 (fun E9 z9 h9 w => nomatch w.2.1) (fun v9 z9 h9 w => ?_)
  obtain ⟨rfl, w2, hc, ⟨l1, l2, l3, l4, l5, l6, l7, l8, l9, X1⟩, rfl⟩ := w
  have e2 : v9 = some (.int (iN ((((k_box P (sv xs (i + 1)) (sv xs (i + 2)))).1 : Nat) : Int))) := Sum.inl.inj w2
  subst e2
  refine (show Ev _ _ _ _ _ _ _ (.int (iN ((((k_box P (sv xs (i + 1)) (sv xs (i + 2)))).1 : Nat) : Int)) :: []) from ?_)
  obtain ⟨XC, Y1, ⟨g1, f1, v1⟩, f2⟩ := lw_aft D X1 Y fa fd
  generalize upL G _ _ _ _ = hh at XC Y1 f1 f2 ⊢
  refine e_istore dL_law_2560 rfl ?_
  refine e_aload_n dL_law_2562 rfl ?_
  refine e_aload_n dL_law_2563 rfl ?_
  refine e_iload dL_law_2564 rfl ?_
  refine e_iconst dL_law_2566 ?_
  refine e_iadd dL_law_2567 ?_
  refine e_sld (by omega) (by omega) hL dL_law_2568 ?_
  refine e_aload_n dL_law_2569 rfl ?_
  refine e_iload dL_law_2570 rfl ?_
  refine e_iconst dL_law_2572 ?_
  refine e_iadd dL_law_2573 ?_
  refine e_sld (by omega) (by omega) hL dL_law_2574 ?_
  refine e_callV qcL_280 Y1.obj rfl rfl (M_box Y1 hR (r32_sv _ _) (r32_sv _ _) (Qq_QM_box_hm _)) rfl rfl rfl (g_rm_of rfl (by show k + 1 + 0 ≤ 601024; omega) (by show n + 6 + 0 ≤ 7293034; omega)) dL_law_2575 (fun E9 z9 h9 w => nomatch (show (Sum.inr _ : g_O) = Sum.inl _ from w.2.1)) (fun v9 z9 h9 w => ?_)
  obtain ⟨rfl, w2, sc2, ar2, Y2, R2, c2⟩ := w
  have e2 : v9 = some (.int (iN ((k_box P (sv xs (i + 1)) (sv xs (i + 2)))).2)) := Sum.inl.inj w2
  subst e2
  refine (show Ev _ _ _ _ _ _ _ (.int (iN ((k_box P (sv xs (i + 1)) (sv xs (i + 2)))).2) :: []) from ?_)
  obtain ⟨WW, f3, f4⟩ := lw_end D XC Y2 R2 f1 f2
  refine e_istore dL_law_2578 rfl ?_
  refine e_aload_n dL_law_2580 rfl ?_
  refine e_pureV qcL_149 Y2.obj rfl rfl (S_thrown Y2) rfl rfl rfl (g_rm_of rfl (by show k + 1 + 0 + 0 ≤ 601024; omega) (by show n + 6 + 0 + 0 ≤ 7293034; omega)) dL_law_2581 ?_
  rw [c2]
  refine e_iload dL_law_2584 rfl ?_
  refine e_icmp_eq (tgt := 2591) rk rk dL_law_2586 rfl (fun _ => ?_) (fun c9 => absurd rfl c9)
  refine e_iload dL_law_2591 rfl ?_
  refine e_if_ne (tgt := 2608) rk dL_law_2593 rfl (fun c_2593 => ?_) (fun c_2593 => ?_)
  · refine e_goto (tgt := 2957) dL_law_2608 rfl ?_
    refine e_loc [(5, .int (iN i)), (4, .ref ad), (3, .ref ao), (2, .ref m), (1, .ref o), (0, .ref bs)] ⟨rfl, rfl, rfl, rfl, rfl, rfl, trivial⟩ ?_
    exact kk _ WW
  · have hz : ((k_box P (sv xs (i + 1)) (sv xs (i + 2)))).1 = 0 := by omega
    refine e_aload_n dL_law_2596 rfl ?_
    refine e_iconst dL_law_2597 ?_
    refine e_laload f3 (by omega) (by omega) rfl dL_law_2598 ?_
    have e5 : g1 0 = w32 ((k_box P (sv xs (i + 1)) (sv xs (i + 2)))).2 := v1 hz
    refine (show Ev _ _ _ _ _ _ _ (.long (lI (g1 0)) :: []) from ?_)
    rw [e5]
    refine e_iload dL_law_2599 rfl ?_
    rw [← iN_w32 ((k_box P (sv xs (i + 1)) (sv xs (i + 2)))).2]
    refine e_i2l (r32_of _) dL_law_2601 ?_
    refine e_lif_eq (tgt := 2608) (r64_w32 _) (r64_w32 _) dL_law_2602 dL_law_2603 rfl (fun _ => ?_) (fun c9 => absurd rfl c9)
    refine e_goto (tgt := 2957) dL_law_2608 rfl ?_
    refine e_loc [(5, .int (iN i)), (4, .ref ad), (3, .ref ao), (2, .ref m), (1, .ref o), (0, .ref bs)] ⟨rfl, rfl, rfl, rfl, rfl, rfl, trivial⟩ ?_
    exact kk _ WW
def QM_fence_hm (P E : PL) (S : Nat → PL) (b : Int) (P2 E2 : PL) (S2 : Nat → PL) (F : PL) : Prop := ∀ (a : Int), ∀ q : Nat, 1 ≤ q → q ≤ (putN P a [] P.length).length → feP P (oyN P a P.length) a q P.length = fnO (putN P a [] P.length) q (putN P a [] P.length).length
set_option maxRecDepth 20000 in
theorem lc_40 (W9 : lwW G P E S b P2 E2 S2 F o m ao ad h) (hi : 0 ≤ i) (hi5 : i + 5 ≤ L) (hL : L ≤ 2560) (hk : k + 1 ≤ 601024) (hn : n + 6 ≤ 7293034) (Qq_QM_fence_hm : QM_fence_hm P E S b P2 E2 S2 F) (kk : ∀ h1, lwW G P E S b P2 E2 S2 F o m ao ad h1 → Ev (lwE G bs L xs ZZ) (k + 1) (n + 6) none h1 2957 [(5, .int (iN i)), (4, .ref ad), (3, .ref ao), (2, .ref m), (1, .ref o), (0, .ref bs)] []) : Ev (lwE G bs L xs ZZ) k n none h 2611 [(5, .int (iN i)), (4, .ref ad), (3, .ref ao), (2, .ref m), (1, .ref o), (0, .ref bs)] [] := by
  obtain ⟨D, ⟨x1, x2, x3, x4, x5, x6, x7, x8, x9, X⟩, ⟨sc, ar, Y, hR⟩, ⟨ag, fa⟩, ⟨gd, fd⟩⟩ := W9
  have kc9 : ((k_fence P (sv xs (i + 1)) (sv xs (i + 2)))).1 ≤ 2 := by first | exact kc_fence | exact kc_fence _ | exact kc_fence _ _ | exact kc_fence _ _ _ | exact kc_fence _ _ _ _ | exact kc_fence _ _ _ _ _
  have rk : r32 ((((k_fence P (sv xs (i + 1)) (sv xs (i + 2)))).1 : Nat) : Int) := ⟨by omega, by omega⟩
  refine e_aload_n dL_law_2611 rfl ?_
  refine e_aload_n dL_law_2612 rfl ?_
  refine e_iload dL_law_2613 rfl ?_
  refine e_iconst dL_law_2615 ?_
  refine e_iadd dL_law_2616 ?_
  refine e_sld (by omega) (by omega) hL dL_law_2617 ?_
  refine e_aload_n dL_law_2618 rfl ?_
  refine e_iload dL_law_2619 rfl ?_
  refine e_iconst dL_law_2621 ?_
  refine e_iadd dL_law_2622 ?_
  refine e_sld (by omega) (by omega) hL dL_law_2623 ?_
  refine e_aload_n dL_law_2624 rfl ?_
  refine e_callH qcL_281 (H_fence X fa (by obtain ⟨rfl, rfl, rfl⟩ := D; omega) (r32_sv _ _) (r32_sv _ _)) rfl rfl rfl (g_rm_of rfl hk hn) dL_law_2625 (fun E9 z9 h9 w => nomatch w.2.1) (fun v9 z9 h9 w => ?_)
  obtain ⟨rfl, w2, hc, ⟨l1, l2, l3, l4, l5, l6, l7, l8, l9, X1⟩, rfl⟩ := w
  have e2 : v9 = some (.int (iN ((((k_fence P (sv xs (i + 1)) (sv xs (i + 2)))).1 : Nat) : Int))) := Sum.inl.inj w2
  subst e2
  refine (show Ev _ _ _ _ _ _ _ (.int (iN ((((k_fence P (sv xs (i + 1)) (sv xs (i + 2)))).1 : Nat) : Int)) :: []) from ?_)
  obtain ⟨XC, Y1, ⟨g1, f1, v1⟩, f2⟩ := lw_aft D X1 Y fa fd
  generalize upL G _ _ _ _ = hh at XC Y1 f1 f2 ⊢
  refine e_istore dL_law_2628 rfl ?_
  refine e_aload_n dL_law_2630 rfl ?_
  refine e_aload_n dL_law_2631 rfl ?_
  refine e_iload dL_law_2632 rfl ?_
  refine e_iconst dL_law_2634 ?_
  refine e_iadd dL_law_2635 ?_
  refine e_sld (by omega) (by omega) hL dL_law_2636 ?_
  refine e_aload_n dL_law_2637 rfl ?_
  refine e_iload dL_law_2638 rfl ?_
  refine e_iconst dL_law_2640 ?_
  refine e_iadd dL_law_2641 ?_
  refine e_sld (by omega) (by omega) hL dL_law_2642 ?_
  refine e_callV qcL_283 Y1.obj rfl rfl (M_fence Y1 hR (r32_sv _ _) (r32_sv _ _) (Qq_QM_fence_hm _)) rfl rfl rfl (g_rm_of rfl (by show k + 1 + 0 ≤ 601024; omega) (by show n + 6 + 0 ≤ 7293034; omega)) dL_law_2643 (fun E9 z9 h9 w => nomatch (show (Sum.inr _ : g_O) = Sum.inl _ from w.2.1)) (fun v9 z9 h9 w => ?_)
  obtain ⟨rfl, w2, sc2, ar2, Y2, R2, c2⟩ := w
  have e2 : v9 = some (.int (iN ((k_fence P (sv xs (i + 1)) (sv xs (i + 2)))).2)) := Sum.inl.inj w2
  subst e2
  refine (show Ev _ _ _ _ _ _ _ (.int (iN ((k_fence P (sv xs (i + 1)) (sv xs (i + 2)))).2) :: []) from ?_)
  obtain ⟨WW, f3, f4⟩ := lw_end D XC Y2 R2 f1 f2
  refine e_istore dL_law_2646 rfl ?_
  refine e_aload_n dL_law_2648 rfl ?_
  refine e_pureV qcL_149 Y2.obj rfl rfl (S_thrown Y2) rfl rfl rfl (g_rm_of rfl (by show k + 1 + 0 + 0 ≤ 601024; omega) (by show n + 6 + 0 + 0 ≤ 7293034; omega)) dL_law_2649 ?_
  rw [c2]
  refine e_iload dL_law_2652 rfl ?_
  refine e_icmp_eq (tgt := 2659) rk rk dL_law_2654 rfl (fun _ => ?_) (fun c9 => absurd rfl c9)
  refine e_iload dL_law_2659 rfl ?_
  refine e_if_ne (tgt := 2676) rk dL_law_2661 rfl (fun c_2661 => ?_) (fun c_2661 => ?_)
  · refine e_goto (tgt := 2957) dL_law_2676 rfl ?_
    refine e_loc [(5, .int (iN i)), (4, .ref ad), (3, .ref ao), (2, .ref m), (1, .ref o), (0, .ref bs)] ⟨rfl, rfl, rfl, rfl, rfl, rfl, trivial⟩ ?_
    exact kk _ WW
  · have hz : ((k_fence P (sv xs (i + 1)) (sv xs (i + 2)))).1 = 0 := by omega
    refine e_aload_n dL_law_2664 rfl ?_
    refine e_iconst dL_law_2665 ?_
    refine e_laload f3 (by omega) (by omega) rfl dL_law_2666 ?_
    have e5 : g1 0 = w32 ((k_fence P (sv xs (i + 1)) (sv xs (i + 2)))).2 := v1 hz
    refine (show Ev _ _ _ _ _ _ _ (.long (lI (g1 0)) :: []) from ?_)
    rw [e5]
    refine e_iload dL_law_2667 rfl ?_
    rw [← iN_w32 ((k_fence P (sv xs (i + 1)) (sv xs (i + 2)))).2]
    refine e_i2l (r32_of _) dL_law_2669 ?_
    refine e_lif_eq (tgt := 2676) (r64_w32 _) (r64_w32 _) dL_law_2670 dL_law_2671 rfl (fun _ => ?_) (fun c9 => absurd rfl c9)
    refine e_goto (tgt := 2957) dL_law_2676 rfl ?_
    refine e_loc [(5, .int (iN i)), (4, .ref ad), (3, .ref ao), (2, .ref m), (1, .ref o), (0, .ref bs)] ⟨rfl, rfl, rfl, rfl, rfl, rfl, trivial⟩ ?_
    exact kk _ WW
def QM_apart_hm1 (P E : PL) (S : Nat → PL) (b : Int) (P2 E2 : PL) (S2 : Nat → PL) (F : PL) : Prop := ∀ v : Int, cntN P v P.length ≠ 0 → gwH (lhN P v P.length) (wrapN 61 (putN P v [] P.length))
def QM_apart_hm2 (P E : PL) (S : Nat → PL) (b : Int) (P2 E2 : PL) (S2 : Nat → PL) (F : PL) : Prop := ∀ (a : Int) (b1 : Int), fl2 P a b1 → (apM (wrapN 61 (putN P a [] P.length)) (wrapN 61 (putN P b1 [] P.length)) ↔ ¬ tch (wrapN 61 (putN P a [] P.length)) (wrapN 61 (putN P b1 [] P.length)))
set_option maxRecDepth 20000 in
theorem lc_41 (W9 : lwW G P E S b P2 E2 S2 F o m ao ad h) (hi : 0 ≤ i) (hi5 : i + 5 ≤ L) (hL : L ≤ 2560) (hk : k + 1 ≤ 601024) (hn : n + 6 ≤ 7293034) (Qq_QM_apart_hm1 : QM_apart_hm1 P E S b P2 E2 S2 F) (Qq_QM_apart_hm2 : QM_apart_hm2 P E S b P2 E2 S2 F) (kk : ∀ h1, lwW G P E S b P2 E2 S2 F o m ao ad h1 → Ev (lwE G bs L xs ZZ) (k + 1) (n + 6) none h1 2957 [(5, .int (iN i)), (4, .ref ad), (3, .ref ao), (2, .ref m), (1, .ref o), (0, .ref bs)] []) : Ev (lwE G bs L xs ZZ) k n none h 2679 [(5, .int (iN i)), (4, .ref ad), (3, .ref ao), (2, .ref m), (1, .ref o), (0, .ref bs)] [] := by
  obtain ⟨D, ⟨x1, x2, x3, x4, x5, x6, x7, x8, x9, X⟩, ⟨sc, ar, Y, hR⟩, ⟨ag, fa⟩, ⟨gd, fd⟩⟩ := W9
  have kc9 : ((k_apart P (sv xs (i + 1)) (sv xs (i + 2)))).1 ≤ 2 := by first | exact kc_apart | exact kc_apart _ | exact kc_apart _ _ | exact kc_apart _ _ _ | exact kc_apart _ _ _ _ | exact kc_apart _ _ _ _ _
  have rk : r32 ((((k_apart P (sv xs (i + 1)) (sv xs (i + 2)))).1 : Nat) : Int) := ⟨by omega, by omega⟩
  refine e_aload_n dL_law_2679 rfl ?_
  refine e_aload_n dL_law_2680 rfl ?_
  refine e_iload dL_law_2681 rfl ?_
  refine e_iconst dL_law_2683 ?_
  refine e_iadd dL_law_2684 ?_
  refine e_sld (by omega) (by omega) hL dL_law_2685 ?_
  refine e_aload_n dL_law_2686 rfl ?_
  refine e_iload dL_law_2687 rfl ?_
  refine e_iconst dL_law_2689 ?_
  refine e_iadd dL_law_2690 ?_
  refine e_sld (by omega) (by omega) hL dL_law_2691 ?_
  refine e_aload_n dL_law_2692 rfl ?_
  refine e_callH qcL_284 (H_apart X fa (by obtain ⟨rfl, rfl, rfl⟩ := D; omega) (r32_sv _ _) (r32_sv _ _)) rfl rfl rfl (g_rm_of rfl hk hn) dL_law_2693 (fun E9 z9 h9 w => nomatch w.2.1) (fun v9 z9 h9 w => ?_)
  obtain ⟨rfl, w2, hc, ⟨l1, l2, l3, l4, l5, l6, l7, l8, l9, X1⟩, rfl⟩ := w
  have e2 : v9 = some (.int (iN ((((k_apart P (sv xs (i + 1)) (sv xs (i + 2)))).1 : Nat) : Int))) := Sum.inl.inj w2
  subst e2
  refine (show Ev _ _ _ _ _ _ _ (.int (iN ((((k_apart P (sv xs (i + 1)) (sv xs (i + 2)))).1 : Nat) : Int)) :: []) from ?_)
  obtain ⟨XC, Y1, ⟨g1, f1, v1⟩, f2⟩ := lw_aft D X1 Y fa fd
  generalize upL G _ _ _ _ = hh at XC Y1 f1 f2 ⊢
  refine e_istore dL_law_2696 rfl ?_
  refine e_aload_n dL_law_2698 rfl ?_
  refine e_aload_n dL_law_2699 rfl ?_
  refine e_iload dL_law_2700 rfl ?_
  refine e_iconst dL_law_2702 ?_
  refine e_iadd dL_law_2703 ?_
  refine e_sld (by omega) (by omega) hL dL_law_2704 ?_
  refine e_aload_n dL_law_2705 rfl ?_
  refine e_iload dL_law_2706 rfl ?_
  refine e_iconst dL_law_2708 ?_
  refine e_iadd dL_law_2709 ?_
  refine e_sld (by omega) (by omega) hL dL_law_2710 ?_
  refine e_callV qcL_286 Y1.obj rfl rfl (M_apart Y1 hR (r32_sv _ _) (r32_sv _ _) Qq_QM_apart_hm1 (Qq_QM_apart_hm2 _ _)) rfl rfl rfl (g_rm_of rfl (by show k + 1 + 0 ≤ 601024; omega) (by show n + 6 + 0 ≤ 7293034; omega)) dL_law_2711 (fun E9 z9 h9 w => nomatch (show (Sum.inr _ : g_O) = Sum.inl _ from w.2.1)) (fun v9 z9 h9 w => ?_)
  obtain ⟨rfl, w2, sc2, ar2, Y2, R2, c2⟩ := w
  have e2 : v9 = some (.int (iN ((k_apart P (sv xs (i + 1)) (sv xs (i + 2)))).2)) := Sum.inl.inj w2
  subst e2
  refine (show Ev _ _ _ _ _ _ _ (.int (iN ((k_apart P (sv xs (i + 1)) (sv xs (i + 2)))).2) :: []) from ?_)
  obtain ⟨WW, f3, f4⟩ := lw_end D XC Y2 R2 f1 f2
  refine e_istore dL_law_2714 rfl ?_
  refine e_aload_n dL_law_2716 rfl ?_
  refine e_pureV qcL_149 Y2.obj rfl rfl (S_thrown Y2) rfl rfl rfl (g_rm_of rfl (by show k + 1 + 0 + 0 ≤ 601024; omega) (by show n + 6 + 0 + 0 ≤ 7293034; omega)) dL_law_2717 ?_
  rw [c2]
  refine e_iload dL_law_2720 rfl ?_
  refine e_icmp_eq (tgt := 2727) rk rk dL_law_2722 rfl (fun _ => ?_) (fun c9 => absurd rfl c9)
  refine e_iload dL_law_2727 rfl ?_
  refine e_if_ne (tgt := 2751) rk dL_law_2729 rfl (fun c_2729 => ?_) (fun c_2729 => ?_)
  · refine e_goto (tgt := 2957) dL_law_2751 rfl ?_
    refine e_loc [(5, .int (iN i)), (4, .ref ad), (3, .ref ao), (2, .ref m), (1, .ref o), (0, .ref bs)] ⟨rfl, rfl, rfl, rfl, rfl, rfl, trivial⟩ ?_
    exact kk _ WW
  · have hz : ((k_apart P (sv xs (i + 1)) (sv xs (i + 2)))).1 = 0 := by omega
    refine e_aload_n dL_law_2732 rfl ?_
    refine e_iconst dL_law_2733 ?_
    refine e_laload f3 (by omega) (by omega) rfl dL_law_2734 ?_
    have e5 : g1 0 = (if w32 ((k_apart P (sv xs (i + 1)) (sv xs (i + 2)))).2 = 0 then (0 : Int) else 1) := v1 hz
    refine (show Ev _ _ _ _ _ _ _ (.long (lI (g1 0)) :: []) from ?_)
    rw [e5]
    refine e_iload dL_law_2735 rfl ?_
    rw [← iN_w32 ((k_apart P (sv xs (i + 1)) (sv xs (i + 2)))).2]
    refine e_if_eq (tgt := 2744) (r32_of _) dL_law_2737 rfl (fun c_2737 => ?_) (fun c_2737 => ?_)
    · rw [if_pos c_2737]
      refine e_lconst dL_law_2744 ?_
      refine e_lif_eq (tgt := 2751) ⟨by decide, by decide⟩ ⟨by decide, by decide⟩ dL_law_2745 dL_law_2746 rfl (fun _ => ?_) (fun c9 => absurd rfl c9)
      refine e_goto (tgt := 2957) dL_law_2751 rfl ?_
      refine e_loc [(5, .int (iN i)), (4, .ref ad), (3, .ref ao), (2, .ref m), (1, .ref o), (0, .ref bs)] ⟨rfl, rfl, rfl, rfl, rfl, rfl, trivial⟩ ?_
      exact kk _ WW
    · rw [if_neg c_2737]
      refine e_lconst dL_law_2740 ?_
      refine e_goto (tgt := 2745) dL_law_2741 rfl ?_
      refine e_lif_eq (tgt := 2751) ⟨by decide, by decide⟩ ⟨by decide, by decide⟩ dL_law_2745 dL_law_2746 rfl (fun _ => ?_) (fun c9 => absurd rfl c9)
      refine e_goto (tgt := 2957) dL_law_2751 rfl ?_
      refine e_loc [(5, .int (iN i)), (4, .ref ad), (3, .ref ao), (2, .ref m), (1, .ref o), (0, .ref bs)] ⟨rfl, rfl, rfl, rfl, rfl, rfl, trivial⟩ ?_
      exact kk _ WW
set_option maxRecDepth 20000 in
theorem lc_42 (W9 : lwW G P E S b P2 E2 S2 F o m ao ad h) (hi : 0 ≤ i) (hi5 : i + 5 ≤ L) (hL : L ≤ 2560) (hk : k + 1 ≤ 601024) (hn : n + 6 ≤ 7293034)  (kk : ∀ h1, lwW G P E S 1 P E S F o m ao ad h1 → Ev (lwE G bs L xs ZZ) (k + 1) (n + 6) none h1 2957 [(5, .int (iN i)), (4, .ref ad), (3, .ref ao), (2, .ref m), (1, .ref o), (0, .ref bs)] []) : Ev (lwE G bs L xs ZZ) k n none h 2754 [(5, .int (iN i)), (4, .ref ad), (3, .ref ao), (2, .ref m), (1, .ref o), (0, .ref bs)] [] := by
  obtain ⟨D, ⟨x1, x2, x3, x4, x5, x6, x7, x8, x9, X⟩, ⟨sc, ar, Y, hR⟩, ⟨ag, fa⟩, ⟨gd, fd⟩⟩ := W9
  refine e_aload_n dL_law_2754 rfl ?_
  refine e_callV qcL_287 X.obj rfl rfl (C_image X ) rfl rfl rfl (g_rm_of rfl hk hn) dL_law_2755 (fun E9 z9 h9 w => nomatch (show (Sum.inr _ : g_O) = Sum.inl _ from w.2.1)) (fun v9 z9 h9 w => ?_)
  obtain ⟨rfl, w2, l1, l2, l3, l4, l5, l6, l7, l8, l9, X1⟩ := w
  have e2 : v9 = some (.int (iN ((P.length : Int)))) := Sum.inl.inj w2
  subst e2
  refine (show Ev _ _ _ _ _ _ _ (.int (iN ((P.length : Int))) :: []) from ?_)
  obtain ⟨XC, Y1, f1, f2⟩ := lw_aft0 D X1 Y fa fd
  refine e_aload_n dL_law_2758 rfl ?_
  refine e_callV qcL_290 Y1.obj rfl rfl (M_image Y1 hR ) rfl rfl rfl (g_rm_of rfl (by show k + 1 + 0 ≤ 601024; omega) (by show n + 6 + 0 ≤ 7293034; omega)) dL_law_2759 (fun E9 z9 h9 w => nomatch (show (Sum.inr _ : g_O) = Sum.inl _ from w.2.1)) (fun v9 z9 h9 w => ?_)
  obtain ⟨rfl, w2, sc2, ar2, Y2, R2, c2⟩ := w
  have e2 : v9 = some (.int (iN ((P.length : Int)))) := Sum.inl.inj w2
  subst e2
  refine (show Ev _ _ _ _ _ _ _ (.int (iN ((P.length : Int))) :: .int (iN ((P.length : Int))) :: []) from ?_)
  obtain ⟨WW, f3, f4⟩ := lw_end D XC Y2 R2 f1 f2
  rw [← iN_w32 ((P.length : Int))]
  refine e_icmp_eq (tgt := 2957) (r32_of _) (r32_of _) dL_law_2762 rfl (fun _ => ?_) (fun c9 => absurd rfl c9)
  refine e_loc [(5, .int (iN i)), (4, .ref ad), (3, .ref ao), (2, .ref m), (1, .ref o), (0, .ref bs)] ⟨rfl, rfl, rfl, rfl, rfl, rfl, trivial⟩ ?_
  exact kk _ WW
def QC_restore_hb (P E : PL) (S : Nat → PL) (b : Int) (P2 E2 : PL) (S2 : Nat → PL) (F : PL) : Prop := r32 b
set_option maxRecDepth 20000 in
theorem lc_43 (W9 : lwW G P E S b P2 E2 S2 F o m ao ad h) (hi : 0 ≤ i) (hi5 : i + 5 ≤ L) (hL : L ≤ 2560) (hk : k + 1 ≤ 601024) (hn : n + 6 ≤ 7293034) (Qq_QC_restore_hb : QC_restore_hb P E S b P2 E2 S2 F) (kk : ∀ h1, lwW G (if b = 0 then P else P2) (if b = 0 then E else E2) (if b = 0 then S else S2) b P2 E2 S2 F o m ao ad h1 → Ev (lwE G bs L xs ZZ) (k + 1) (n + 6) none h1 2957 [(5, .int (iN i)), (4, .ref ad), (3, .ref ao), (2, .ref m), (1, .ref o), (0, .ref bs)] []) : Ev (lwE G bs L xs ZZ) k n none h 2767 [(5, .int (iN i)), (4, .ref ad), (3, .ref ao), (2, .ref m), (1, .ref o), (0, .ref bs)] [] := by
  obtain ⟨D, ⟨x1, x2, x3, x4, x5, x6, x7, x8, x9, X⟩, ⟨sc, ar, Y, hR⟩, ⟨ag, fa⟩, ⟨gd, fd⟩⟩ := W9
  have kc9 : ((k_restore b P2)).1 ≤ 1 := by first | exact kc_restore | exact kc_restore _ | exact kc_restore _ _ | exact kc_restore _ _ _ | exact kc_restore _ _ _ _ | exact kc_restore _ _ _ _ _
  have rk : r32 ((((k_restore b P2)).1 : Nat) : Int) := ⟨by omega, by omega⟩
  refine e_aload_n dL_law_2767 rfl ?_
  refine e_aload_n dL_law_2768 rfl ?_
  refine e_callH qcL_291 (H_restore X fa (by obtain ⟨rfl, rfl, rfl⟩ := D; omega) Qq_QC_restore_hb) rfl rfl rfl (g_rm_of rfl hk hn) dL_law_2769 (fun E9 z9 h9 w => nomatch w.2.1) (fun v9 z9 h9 w => ?_)
  obtain ⟨rfl, w2, hc, ⟨l1, l2, l3, l4, l5, l6, l7, l8, l9, X1⟩, rfl⟩ := w
  have e2 : v9 = some (.int (iN ((((k_restore b P2)).1 : Nat) : Int))) := Sum.inl.inj w2
  subst e2
  refine (show Ev _ _ _ _ _ _ _ (.int (iN ((((k_restore b P2)).1 : Nat) : Int)) :: []) from ?_)
  obtain ⟨XC, Y1, ⟨g1, f1, v1⟩, f2⟩ := lw_aft D X1 Y fa fd
  generalize upL G _ _ _ _ = hh at XC Y1 f1 f2 ⊢
  refine e_istore dL_law_2772 rfl ?_
  refine e_aload_n dL_law_2774 rfl ?_
  refine e_callV qcL_294 Y1.obj rfl rfl (M_restore Y1 hR ) rfl rfl rfl (g_rm_of rfl (by show k + 1 + 0 ≤ 601024; omega) (by show n + 6 + 0 ≤ 7293034; omega)) dL_law_2775 (fun E9 z9 h9 w => nomatch (show (Sum.inr _ : g_O) = Sum.inl _ from w.2.1)) (fun v9 z9 h9 w => ?_)
  obtain ⟨rfl, w2, sc2, ar2, Y2, R2, c2⟩ := w
  have e2 : v9 = some (.int (iN ((k_restore b P2)).2)) := Sum.inl.inj w2
  subst e2
  refine (show Ev _ _ _ _ _ _ _ (.int (iN ((k_restore b P2)).2) :: []) from ?_)
  obtain ⟨WW, f3, f4⟩ := lw_end D XC Y2 R2 f1 f2
  refine e_istore dL_law_2778 rfl ?_
  refine e_aload_n dL_law_2780 rfl ?_
  refine e_pureV qcL_149 Y2.obj rfl rfl (S_thrown Y2) rfl rfl rfl (g_rm_of rfl (by show k + 1 + 0 + 0 ≤ 601024; omega) (by show n + 6 + 0 + 0 ≤ 7293034; omega)) dL_law_2781 ?_
  rw [c2]
  refine e_iload dL_law_2784 rfl ?_
  refine e_icmp_eq (tgt := 2791) rk rk dL_law_2786 rfl (fun _ => ?_) (fun c9 => absurd rfl c9)
  refine e_iload dL_law_2791 rfl ?_
  refine e_if_ne (tgt := 2808) rk dL_law_2793 rfl (fun c_2793 => ?_) (fun c_2793 => ?_)
  · refine e_goto (tgt := 2957) dL_law_2808 rfl ?_
    refine e_loc [(5, .int (iN i)), (4, .ref ad), (3, .ref ao), (2, .ref m), (1, .ref o), (0, .ref bs)] ⟨rfl, rfl, rfl, rfl, rfl, rfl, trivial⟩ ?_
    exact kk _ WW
  · have hz : ((k_restore b P2)).1 = 0 := by omega
    refine e_aload_n dL_law_2796 rfl ?_
    refine e_iconst dL_law_2797 ?_
    refine e_laload f3 (by omega) (by omega) rfl dL_law_2798 ?_
    have e5 : g1 0 = w32 ((k_restore b P2)).2 := v1 hz
    refine (show Ev _ _ _ _ _ _ _ (.long (lI (g1 0)) :: []) from ?_)
    rw [e5]
    refine e_iload dL_law_2799 rfl ?_
    rw [← iN_w32 ((k_restore b P2)).2]
    refine e_i2l (r32_of _) dL_law_2801 ?_
    refine e_lif_eq (tgt := 2808) (r64_w32 _) (r64_w32 _) dL_law_2802 dL_law_2803 rfl (fun _ => ?_) (fun c9 => absurd rfl c9)
    refine e_goto (tgt := 2957) dL_law_2808 rfl ?_
    refine e_loc [(5, .int (iN i)), (4, .ref ad), (3, .ref ao), (2, .ref m), (1, .ref o), (0, .ref bs)] ⟨rfl, rfl, rfl, rfl, rfl, rfl, trivial⟩ ?_
    exact kk _ WW
set_option maxRecDepth 20000 in
theorem lc_44 (W9 : lwW G P E S b P2 E2 S2 F o m ao ad h) (hi : 0 ≤ i) (hi5 : i + 5 ≤ L) (hL : L ≤ 2560) (hk : k + 1 ≤ 601024) (hn : n + 6 ≤ 7293034)  (kk : ∀ h1, lwW G P E S b P2 E2 S2 F o m ao ad h1 → Ev (lwE G bs L xs ZZ) (k + 1) (n + 6) none h1 2957 [(5, .int (iN i)), (4, .ref ad), (3, .ref ao), (2, .ref m), (1, .ref o), (0, .ref bs)] []) : Ev (lwE G bs L xs ZZ) k n none h 2811 [(5, .int (iN i)), (4, .ref ad), (3, .ref ao), (2, .ref m), (1, .ref o), (0, .ref bs)] [] := by
  obtain ⟨D, ⟨x1, x2, x3, x4, x5, x6, x7, x8, x9, X⟩, ⟨sc, ar, Y, hR⟩, ⟨ag, fa⟩, ⟨gd, fd⟩⟩ := W9
  refine e_aload_n dL_law_2811 rfl ?_
  refine e_callV qcL_295 X.obj rfl rfl (C_checksum X ) rfl rfl rfl (g_rm_of rfl hk hn) dL_law_2812 (fun E9 z9 h9 w => nomatch (show (Sum.inr _ : g_O) = Sum.inl _ from w.2.1)) (fun v9 z9 h9 w => ?_)
  obtain ⟨rfl, w2, l1, l2, l3, l4, l5, l6, l7, l8, l9, X1⟩ := w
  have e2 : v9 = some (.int (iN (ckN F F.length))) := Sum.inl.inj w2
  subst e2
  refine (show Ev _ _ _ _ _ _ _ (.int (iN (ckN F F.length)) :: []) from ?_)
  obtain ⟨XC, Y1, f1, f2⟩ := lw_aft0 D X1 Y fa fd
  refine e_aload_n dL_law_2815 rfl ?_
  refine e_callV qcL_298 Y1.obj rfl rfl (M_checksum Y1 hR ) rfl rfl rfl (g_rm_of rfl (by show k + 1 + 0 ≤ 601024; omega) (by show n + 6 + 0 ≤ 7293034; omega)) dL_law_2816 (fun E9 z9 h9 w => nomatch (show (Sum.inr _ : g_O) = Sum.inl _ from w.2.1)) (fun v9 z9 h9 w => ?_)
  obtain ⟨rfl, w2, sc2, ar2, Y2, R2, c2⟩ := w
  have e2 : v9 = some (.int (iN (ckN F F.length))) := Sum.inl.inj w2
  subst e2
  refine (show Ev _ _ _ _ _ _ _ (.int (iN (ckN F F.length)) :: .int (iN (ckN F F.length)) :: []) from ?_)
  obtain ⟨WW, f3, f4⟩ := lw_end D XC Y2 R2 f1 f2
  rw [← iN_w32 (ckN F F.length)]
  refine e_icmp_eq (tgt := 2957) (r32_of _) (r32_of _) dL_law_2819 rfl (fun _ => ?_) (fun c9 => absurd rfl c9)
  refine e_loc [(5, .int (iN i)), (4, .ref ad), (3, .ref ao), (2, .ref m), (1, .ref o), (0, .ref bs)] ⟨rfl, rfl, rfl, rfl, rfl, rfl, trivial⟩ ?_
  exact kk _ WW
def QC_meanFar_hn (P E : PL) (S : Nat → PL) (b : Int) (P2 E2 : PL) (S2 : Nat → PL) (F : PL) : Prop := ∀ (a : Int), 0 < (putN P a [] P.length).length → vf_n64 (mfD (putN P a [] P.length))
def QM_meanFar_hm (P E : PL) (S : Nat → PL) (b : Int) (P2 E2 : PL) (S2 : Nat → PL) (F : PL) : Prop := ∀ (a : Int), cntN P a P.length ≠ 0 → ∃ f : Nat, ptS P a 0 P.length 0 = (f : Int) ∧ f < P.length ∧ mrN P a f P.length = mfN (putN P a [] P.length) (putN P a [] P.length).length
def QM_meanFar_hn (P E : PL) (S : Nat → PL) (b : Int) (P2 E2 : PL) (S2 : Nat → PL) (F : PL) : Prop := ∀ (a : Int), 0 < (putN P a [] P.length).length → vf_n64 (mfD (putN P a [] P.length))
set_option maxRecDepth 20000 in
theorem lc_45 (W9 : lwW G P E S b P2 E2 S2 F o m ao ad h) (hi : 0 ≤ i) (hi5 : i + 5 ≤ L) (hL : L ≤ 2560) (hk : k + 1 ≤ 601024) (hn : n + 6 ≤ 7293034) (Qq_QC_meanFar_hn : QC_meanFar_hn P E S b P2 E2 S2 F) (Qq_QM_meanFar_hm : QM_meanFar_hm P E S b P2 E2 S2 F) (Qq_QM_meanFar_hn : QM_meanFar_hn P E S b P2 E2 S2 F) (kk : ∀ h1, lwW G P E S b P2 E2 S2 F o m ao ad h1 → Ev (lwE G bs L xs ZZ) (k + 1) (n + 6) none h1 2957 [(5, .int (iN i)), (4, .ref ad), (3, .ref ao), (2, .ref m), (1, .ref o), (0, .ref bs)] []) : Ev (lwE G bs L xs ZZ) k n none h 2824 [(5, .int (iN i)), (4, .ref ad), (3, .ref ao), (2, .ref m), (1, .ref o), (0, .ref bs)] [] := by
  obtain ⟨D, ⟨x1, x2, x3, x4, x5, x6, x7, x8, x9, X⟩, ⟨sc, ar, Y, hR⟩, ⟨ag, fa⟩, ⟨gd, fd⟩⟩ := W9
  have kc9 : ((k_meanFar P (sv xs (i + 1)))).1 ≤ 1 := by first | exact kc_meanFar | exact kc_meanFar _ | exact kc_meanFar _ _ | exact kc_meanFar _ _ _ | exact kc_meanFar _ _ _ _ | exact kc_meanFar _ _ _ _ _
  have rk : r32 ((((k_meanFar P (sv xs (i + 1)))).1 : Nat) : Int) := ⟨by omega, by omega⟩
  refine e_aload_n dL_law_2824 rfl ?_
  refine e_aload_n dL_law_2825 rfl ?_
  refine e_iload dL_law_2826 rfl ?_
  refine e_iconst dL_law_2828 ?_
  refine e_iadd dL_law_2829 ?_
  refine e_sld (by omega) (by omega) hL dL_law_2830 ?_
  refine e_aload dL_law_2831 rfl ?_
  refine e_callH qcL_299 (H_meanFar X fd (by obtain ⟨rfl, rfl, rfl⟩ := D; omega) (r32_sv _ _) (Qq_QC_meanFar_hn _)) rfl rfl rfl (g_rm_of rfl hk hn) dL_law_2833 (fun E9 z9 h9 w => nomatch w.2.1) (fun v9 z9 h9 w => ?_)
  obtain ⟨rfl, w2, hc, ⟨l1, l2, l3, l4, l5, l6, l7, l8, l9, X1⟩, rfl⟩ := w
  have e2 : v9 = some (.int (iN ((((k_meanFar P (sv xs (i + 1)))).1 : Nat) : Int))) := Sum.inl.inj w2
  subst e2
  refine (show Ev _ _ _ _ _ _ _ (.int (iN ((((k_meanFar P (sv xs (i + 1)))).1 : Nat) : Int)) :: []) from ?_)
  obtain ⟨XC, Y1, ⟨g1, f2, v1⟩, f1⟩ := lw_aftD D X1 Y fd fa
  generalize upD G _ _ _ _ = hh at XC Y1 f1 f2 ⊢
  refine e_istore dL_law_2836 rfl ?_
  refine e_aload_n dL_law_2838 rfl ?_
  refine e_aload_n dL_law_2839 rfl ?_
  refine e_iload dL_law_2840 rfl ?_
  refine e_iconst dL_law_2842 ?_
  refine e_iadd dL_law_2843 ?_
  refine e_sld (by omega) (by omega) hL dL_law_2844 ?_
  refine e_callV qcL_302 Y1.obj rfl rfl (M_meanFar Y1 hR (r32_sv _ _) (Qq_QM_meanFar_hm _) (Qq_QM_meanFar_hn _)) rfl rfl rfl (g_rm_of rfl (by show k + 1 + 0 ≤ 601024; omega) (by show n + 6 + 0 ≤ 7293034; omega)) dL_law_2845 (fun E9 z9 h9 w => nomatch (show (Sum.inr _ : g_O) = Sum.inl _ from w.2.1.choose_spec.1)) (fun v9 z9 h9 w => ?_)
  obtain ⟨rfl, w2, sc2, ar2, Y2, R2, c2⟩ := w
  obtain ⟨vd, e2, ev⟩ := w2
  replace e2 : v9 = some (.double vd) := Sum.inl.inj e2
  subst e2
  refine (show Ev _ _ _ _ _ _ _ (.double vd :: []) from ?_)
  obtain ⟨WW, f3, f4⟩ := lw_end D XC Y2 R2 f1 f2
  refine e_dstore dL_law_2848 rfl ?_
  refine e_aload_n dL_law_2850 rfl ?_
  refine e_pureV qcL_149 Y2.obj rfl rfl (S_thrown Y2) rfl rfl rfl (g_rm_of rfl (by show k + 1 + 0 + 0 ≤ 601024; omega) (by show n + 6 + 0 + 0 ≤ 7293034; omega)) dL_law_2851 ?_
  rw [c2]
  refine e_iload dL_law_2854 rfl ?_
  refine e_icmp_eq (tgt := 2861) rk rk dL_law_2856 rfl (fun _ => ?_) (fun c9 => absurd rfl c9)
  refine e_iload dL_law_2861 rfl ?_
  refine e_if_ne (tgt := 2898) rk dL_law_2863 rfl (fun c_2863 => ?_) (fun c_2863 => ?_)
  · refine e_goto (tgt := 2957) dL_law_2898 rfl ?_
    refine e_loc [(5, .int (iN i)), (4, .ref ad), (3, .ref ao), (2, .ref m), (1, .ref o), (0, .ref bs)] ⟨rfl, rfl, rfl, rfl, rfl, rfl, trivial⟩ ?_
    exact kk _ WW
  · have hz : ((k_meanFar P (sv xs (i + 1)))).1 = 0 := by omega
    have ez := ev hz
    subst ez
    refine e_aload dL_law_2866 rfl ?_
    refine e_iconst dL_law_2868 ?_
    refine e_daload f4 (by omega) (by omega) rfl dL_law_2869 ?_
    refine (show Ev _ _ _ _ _ _ _ (.double (g1 0) :: []) from ?_)
    rw [v1 hz]
    refine e_dload dL_law_2870 rfl ?_
    refine e_dcmp dL_law_2872 ?_
    rw [← iN_asI (Op.cmpValue (FP.dcmp ((k_meanFar P (sv xs (i + 1)))).2 ((k_meanFar P (sv xs (i + 1)))).2) .l)]
    refine e_if_eq (tgt := 2898) (r32_of _) dL_law_2873 rfl (fun c_0 => ?_) (fun c_0 => ?_)
    · refine e_goto (tgt := 2957) dL_law_2898 rfl ?_
      refine e_loc [(5, .int (iN i)), (4, .ref ad), (3, .ref ao), (2, .ref m), (1, .ref o), (0, .ref bs)] ⟨rfl, rfl, rfl, rfl, rfl, rfl, trivial⟩ ?_
      exact kk _ WW
    · refine e_aload dL_law_2876 rfl ?_
      refine e_iconst dL_law_2878 ?_
      refine e_daload f4 (by omega) (by omega) rfl dL_law_2879 ?_
      refine (show Ev _ _ _ _ _ _ _ (.double (g1 0) :: []) from ?_)
      rw [v1 hz]
      refine e_aload dL_law_2880 rfl ?_
      refine e_iconst dL_law_2882 ?_
      refine e_daload f4 (by omega) (by omega) rfl dL_law_2883 ?_
      refine (show Ev _ _ _ _ _ _ _ (.double (g1 0) :: .double ((k_meanFar P (sv xs (i + 1)))).2 :: []) from ?_)
      rw [v1 hz]
      refine e_dcmp dL_law_2884 ?_
      rw [← iN_asI (Op.cmpValue (FP.dcmp ((k_meanFar P (sv xs (i + 1)))).2 ((k_meanFar P (sv xs (i + 1)))).2) .l)]
      refine e_if_eq (tgt := 2896) (r32_of _) dL_law_2885 rfl (fun c9 => absurd c9 c_0) (fun c9 => ?_)
      refine e_dload dL_law_2888 rfl ?_
      refine e_dload dL_law_2890 rfl ?_
      refine e_dcmp dL_law_2892 ?_
      rw [← iN_asI (Op.cmpValue (FP.dcmp ((k_meanFar P (sv xs (i + 1)))).2 ((k_meanFar P (sv xs (i + 1)))).2) .l)]
      refine e_if_ne (tgt := 2898) (r32_of _) dL_law_2893 rfl (fun c9 => ?_) (fun c9 => absurd c_0 c9)
      refine e_goto (tgt := 2957) dL_law_2898 rfl ?_
      refine e_loc [(5, .int (iN i)), (4, .ref ad), (3, .ref ao), (2, .ref m), (1, .ref o), (0, .ref bs)] ⟨rfl, rfl, rfl, rfl, rfl, rfl, trivial⟩ ?_
      exact kk _ WW
def QC_fills_hn (P E : PL) (S : Nat → PL) (b : Int) (P2 E2 : PL) (S2 : Nat → PL) (F : PL) : Prop := ¬ bxF F ≤ 0 → vf_n32 (FP.fdiv (FP.i2f (iN (da F))) (FP.i2f (iN (bxF F))))
def QM_fills_hm (P E : PL) (S : Nat → PL) (b : Int) (P2 E2 : PL) (S2 : Nat → PL) (F : PL) : Prop := k_fills F = if F.length < 3 then FP.fconst0 else (FP.fdiv (FP.i2f (iN (da F))) (FP.i2f (iN (fiB F))))
def QM_fills_hn (P E : PL) (S : Nat → PL) (b : Int) (P2 E2 : PL) (S2 : Nat → PL) (F : PL) : Prop := ¬ F.length < 3 → vf_n32 (FP.fdiv (FP.i2f (iN (da F))) (FP.i2f (iN (fiB F))))
def QL_fills_hfn (P E : PL) (S : Nat → PL) (b : Int) (P2 E2 : PL) (S2 : Nat → PL) (F : PL) : Prop := vf_n64 (FP.f2d (k_fills F))
set_option maxRecDepth 20000 in
theorem lc_46 (W9 : lwW G P E S b P2 E2 S2 F o m ao ad h) (hi : 0 ≤ i) (hi5 : i + 5 ≤ L) (hL : L ≤ 2560) (hk : k + 1 ≤ 601024) (hn : n + 6 ≤ 7293034) (Qq_QC_fills_hn : QC_fills_hn P E S b P2 E2 S2 F) (Qq_QM_fills_hm : QM_fills_hm P E S b P2 E2 S2 F) (Qq_QM_fills_hn : QM_fills_hn P E S b P2 E2 S2 F) (Qq_QL_fills_hfn : QL_fills_hfn P E S b P2 E2 S2 F) (kk : ∀ h1, lwW G P E S b P2 E2 S2 F o m ao ad h1 → Ev (lwE G bs L xs ZZ) (k + 1) (n + 6) none h1 2957 [(5, .int (iN i)), (4, .ref ad), (3, .ref ao), (2, .ref m), (1, .ref o), (0, .ref bs)] []) : Ev (lwE G bs L xs ZZ) k n none h 2901 [(5, .int (iN i)), (4, .ref ad), (3, .ref ao), (2, .ref m), (1, .ref o), (0, .ref bs)] [] := by
  obtain ⟨D, ⟨x1, x2, x3, x4, x5, x6, x7, x8, x9, X⟩, ⟨sc, ar, Y, hR⟩, ⟨ag, fa⟩, ⟨gd, fd⟩⟩ := W9
  refine e_aload_n dL_law_2901 rfl ?_
  refine e_callV qcL_303 X.obj rfl rfl (C_fills X Qq_QC_fills_hn) rfl rfl rfl (g_rm_of rfl hk hn) dL_law_2902 (fun E9 z9 h9 w => nomatch (show (Sum.inr _ : g_O) = Sum.inl _ from w.2.1)) (fun v9 z9 h9 w => ?_)
  obtain ⟨rfl, w2, l1, l2, l3, l4, l5, l6, l7, l8, l9, X1⟩ := w
  have e2 : v9 = some (.float (k_fills F)) := Sum.inl.inj w2
  subst e2
  refine (show Ev _ _ _ _ _ _ _ (.float (k_fills F) :: []) from ?_)
  obtain ⟨XC, Y1, f1, f2⟩ := lw_aft0 D X1 Y fa fd
  refine e_f2d Qq_QL_fills_hfn dL_law_2905 ?_
  refine e_dstore dL_law_2906 rfl ?_
  refine e_aload_n dL_law_2908 rfl ?_
  refine e_callV qcL_307 Y1.obj rfl rfl (M_fills Y1 hR Qq_QM_fills_hm Qq_QM_fills_hn) rfl rfl rfl (g_rm_of rfl (by show k + 1 + 0 ≤ 601024; omega) (by show n + 6 + 0 ≤ 7293034; omega)) dL_law_2909 (fun E9 z9 h9 w => nomatch (show (Sum.inr _ : g_O) = Sum.inl _ from w.2.1)) (fun v9 z9 h9 w => ?_)
  obtain ⟨rfl, w2, sc2, ar2, Y2, R2, c2⟩ := w
  have e2 : v9 = some (.float (k_fills F)) := Sum.inl.inj w2
  subst e2
  refine (show Ev _ _ _ _ _ _ _ (.float (k_fills F) :: []) from ?_)
  obtain ⟨WW, f3, f4⟩ := lw_end D XC Y2 R2 f1 f2
  refine e_f2d Qq_QL_fills_hfn dL_law_2912 ?_
  refine e_dstore dL_law_2913 rfl ?_
  refine e_dload dL_law_2915 rfl ?_
  refine e_dload dL_law_2917 rfl ?_
  refine e_dcmp dL_law_2919 ?_
  rw [← iN_asI (Op.cmpValue (FP.dcmp (FP.f2d (k_fills F)) (FP.f2d (k_fills F))) .l)]
  refine e_if_eq (tgt := 2941) (r32_of _) dL_law_2920 rfl (fun c_0 => ?_) (fun c_0 => ?_)
  · refine e_goto (tgt := 2957) dL_law_2941 rfl ?_
    refine e_loc [(5, .int (iN i)), (4, .ref ad), (3, .ref ao), (2, .ref m), (1, .ref o), (0, .ref bs)] ⟨rfl, rfl, rfl, rfl, rfl, rfl, trivial⟩ ?_
    exact kk _ WW
  · refine e_dload dL_law_2923 rfl ?_
    refine e_dload dL_law_2925 rfl ?_
    refine e_dcmp dL_law_2927 ?_
    rw [← iN_asI (Op.cmpValue (FP.dcmp (FP.f2d (k_fills F)) (FP.f2d (k_fills F))) .l)]
    refine e_if_eq (tgt := 2939) (r32_of _) dL_law_2928 rfl (fun c9 => absurd c9 c_0) (fun c9 => ?_)
    refine e_dload dL_law_2931 rfl ?_
    refine e_dload dL_law_2933 rfl ?_
    refine e_dcmp dL_law_2935 ?_
    rw [← iN_asI (Op.cmpValue (FP.dcmp (FP.f2d (k_fills F)) (FP.f2d (k_fills F))) .l)]
    refine e_if_ne (tgt := 2941) (r32_of _) dL_law_2936 rfl (fun c9 => ?_) (fun c9 => absurd c_0 c9)
    refine e_goto (tgt := 2957) dL_law_2941 rfl ?_
    refine e_loc [(5, .int (iN i)), (4, .ref ad), (3, .ref ao), (2, .ref m), (1, .ref o), (0, .ref bs)] ⟨rfl, rfl, rfl, rfl, rfl, rfl, trivial⟩ ?_
    exact kk _ WW
def QC_errors_ns (P E : PL) (S : Nat → PL) (b : Int) (P2 E2 : PL) (S2 : Nat → PL) (F : PL) : Prop := ∀ v : Nat, v < 3 → noStray (putN P v [] P.length)
def QC_errors_nf (P E : PL) (S : Nat → PL) (b : Int) (P2 E2 : PL) (S2 : Nat → PL) (F : PL) : Prop := ∀ j, j < 4 → closes (S j) → okS (S j) ∧ noFault (S j)
set_option maxRecDepth 20000 in
theorem lc_47 (W9 : lwW G P E S b P2 E2 S2 F o m ao ad h) (hi : 0 ≤ i) (hi5 : i + 5 ≤ L) (hL : L ≤ 2560) (hk : k + 1 ≤ 601024) (hn : n + 6 ≤ 7293034) (Qq_QC_errors_ns : QC_errors_ns P E S b P2 E2 S2 F) (Qq_QC_errors_nf : QC_errors_nf P E S b P2 E2 S2 F) (kk : ∀ h1, lwW G P E S b P2 E2 S2 F o m ao ad h1 → Ev (lwE G bs L xs ZZ) (k + 1) (n + 6) none h1 2957 [(5, .int (iN i)), (4, .ref ad), (3, .ref ao), (2, .ref m), (1, .ref o), (0, .ref bs)] []) : Ev (lwE G bs L xs ZZ) k n none h 2944 [(5, .int (iN i)), (4, .ref ad), (3, .ref ao), (2, .ref m), (1, .ref o), (0, .ref bs)] [] := by
  obtain ⟨D, ⟨x1, x2, x3, x4, x5, x6, x7, x8, x9, X⟩, ⟨sc, ar, Y, hR⟩, ⟨ag, fa⟩, ⟨gd, fd⟩⟩ := W9
  refine e_aload_n dL_law_2944 rfl ?_
  refine e_callV qcL_308 X.obj rfl rfl (C_errors X Qq_QC_errors_ns Qq_QC_errors_nf) rfl rfl rfl (g_rm_of rfl hk hn) dL_law_2945 (fun E9 z9 h9 w => nomatch (show (Sum.inr _ : g_O) = Sum.inl _ from w.2.1)) (fun v9 z9 h9 w => ?_)
  obtain ⟨rfl, w2, l1, l2, l3, l4, l5, l6, l7, l8, l9, X1⟩ := w
  have e2 : v9 = some (.int (iN (0))) := Sum.inl.inj w2
  subst e2
  refine (show Ev _ _ _ _ _ _ _ (.int (iN (0)) :: []) from ?_)
  obtain ⟨XC, Y1, f1, f2⟩ := lw_aft0 D X1 Y fa fd
  refine e_aload_n dL_law_2948 rfl ?_
  refine e_callV qcL_311 Y1.obj rfl rfl (M_errors Y1 hR ) rfl rfl rfl (g_rm_of rfl (by show k + 1 + 0 ≤ 601024; omega) (by show n + 6 + 0 ≤ 7293034; omega)) dL_law_2949 (fun E9 z9 h9 w => nomatch (show (Sum.inr _ : g_O) = Sum.inl _ from w.2.1)) (fun v9 z9 h9 w => ?_)
  obtain ⟨rfl, w2, sc2, ar2, Y2, R2, c2⟩ := w
  have e2 : v9 = some (.int (iN (0))) := Sum.inl.inj w2
  subst e2
  refine (show Ev _ _ _ _ _ _ _ (.int (iN (0)) :: .int (iN (0)) :: []) from ?_)
  obtain ⟨WW, f3, f4⟩ := lw_end D XC Y2 R2 f1 f2
  rw [← iN_w32 (0)]
  refine e_icmp_eq (tgt := 2957) (r32_of _) (r32_of _) dL_law_2952 rfl (fun _ => ?_) (fun c9 => absurd rfl c9)
  refine e_loc [(5, .int (iN i)), (4, .ref ad), (3, .ref ao), (2, .ref m), (1, .ref o), (0, .ref bs)] ⟨rfl, rfl, rfl, rfl, rfl, rfl, trivial⟩ ?_
  exact kk _ WW
end LCASE
