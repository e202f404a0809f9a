section LAW9B
variable {G : g_X} {x pt sd cr : Int} {HP XS YS GX GY FX FY : Nat → Int} {P E : PL} {S : Nat → PL} {b : Int} {P2 E2 : PL} {S2 : Nat → PL} {F : PL} {l : Nat} {h : g_hp}
set_option maxRecDepth 20000 in
theorem ap_two (hg : goodP P) (hp : pt = P.length) {a : Int} (ha : hpOK a) (ca : 1 ≤ nC P a) (hf : fenF P a) (hs : srtF P a) (hx : srtG P a) (hn : nC P a ≤ 26) (hpl : plcF P a) (k : Nat) (h : g_hp) (W : lwW G x pt sd cr (pM P) (pX P) (pY P) GX GY FX FY P E S b P2 E2 S2 F l h) (hk : k ≤ 10) : Ev (g_B G mL_arePairs 300 (6 * 300) (zQ (fun v h1 => v = .int (iN 1) ∧ ∃ x, lwW G x pt sd cr (pM P) (pX P) (pY P) GX GY FX FY P E S b P2 E2 S2 F l h1))) k (6 * k) none h 275 [(5, .int (iN (exI P a False P.length).2)), (2, .int (iN (nC P a : Int))), (1, .int (iN a)), (0, .ref l)] [] := by
  have hl := hg.1
  have ca2 : cntN P a P.length ≠ 0 := by
    have : cntN P a P.length = nC P a := rfl
    omega
  have ol : (putN P a [] P.length).length = nC P a := ord_len P a
  have hb := hf.1
  have xo := exI_ok (a := a) (u := False) (okL_of hg) (by omega) P.length (Nat.le_refl _)
  have three : ∀ (k : Nat) (h : g_hp), lwW G x pt sd cr (pM P) (pX P) (pY P) GX GY FX FY P E S b P2 E2 S2 F l h → k ≤ 30 → Ev (g_B G mL_arePairs 300 (6 * 300) (zQ (fun v h1 => v = .int (iN 1) ∧ ∃ x, lwW G x pt sd cr (pM P) (pX P) (pY P) GX GY FX FY P E S b P2 E2 S2 F l h1))) k (6 * k) none h 391 [(7, .int (iN (bxw P a))), (2, .int (iN (nC P a : Int))), (1, .int (iN a)), (0, .ref l)] [] := by
    intro k h W hk
    refine e_iconst dL_arePairs_391 ?_
    refine e_istore dL_arePairs_392 rfl ?_
    refine e_iconst dL_arePairs_394 ?_
    refine e_istore dL_arePairs_395 rfl ?_
    exact e_loc [(9, .int (iN ((1 : Nat) : Int))), (8, .int (iN (lastF P a (1)))), (7, .int (iN (bxw P a))), (2, .int (iN (nC P a : Int))), (1, .int (iN a)), (0, .ref l)] ⟨rfl, rfl, rfl, rfl, rfl, rfl, trivial⟩ (ap_fence hg hp ha hf hs hx hn (nC P a) 1 k h W (by omega) (by omega) (by omega))
  refine e_aload_n dL_arePairs_275 rfl ?_
  refine e_getf fL_10 W.obj rfl dL_arePairs_276 ?_
  refine e_iload_n dL_arePairs_279 rfl ?_
  refine e_iconst dL_arePairs_280 ?_
  refine e_hs W qcL_151 rfl (fun _ _ _ _ _ _ _ _ _ X => D_box X ha ⟨by decide, by decide⟩ ca2) rfl rfl rfl rfl (by omega) dL_arePairs_281 (fun h W => ?_)
  refine (show Ev _ _ _ _ h _ _ (.int (iN (bnd (Od P a) 1 (Od P a).length)) :: _) from ?_)
  refine e_aload_n dL_arePairs_284 rfl ?_
  refine e_getf fL_10 W.obj rfl dL_arePairs_285 ?_
  refine e_iload_n dL_arePairs_288 rfl ?_
  refine e_iconst dL_arePairs_289 ?_
  refine e_hs W qcL_151 rfl (fun _ _ _ _ _ _ _ _ _ X => D_box X ha ⟨by decide, by decide⟩ ca2) rfl rfl rfl rfl (by omega) dL_arePairs_290 (fun h W => ?_)
  refine (show Ev _ _ _ _ h _ _ (.int (iN (bnd (Od P a) 0 (Od P a).length)) :: _) from ?_)
  refine e_isub dL_arePairs_293 ?_
  refine e_aload_n dL_arePairs_294 rfl ?_
  refine e_getf fL_10 W.obj rfl dL_arePairs_295 ?_
  refine e_iload_n dL_arePairs_298 rfl ?_
  refine e_iconst dL_arePairs_299 ?_
  refine e_hs W qcL_151 rfl (fun _ _ _ _ _ _ _ _ _ X => D_box X ha ⟨by decide, by decide⟩ ca2) rfl rfl rfl rfl (by omega) dL_arePairs_300 (fun h W => ?_)
  refine (show Ev _ _ _ _ h _ _ (.int (iN (bnd (Od P a) 3 (Od P a).length)) :: _) from ?_)
  refine e_iadd dL_arePairs_303 ?_
  refine e_aload_n dL_arePairs_304 rfl ?_
  refine e_getf fL_10 W.obj rfl dL_arePairs_305 ?_
  refine e_iload_n dL_arePairs_308 rfl ?_
  refine e_iconst dL_arePairs_309 ?_
  refine e_hs W qcL_151 rfl (fun _ _ _ _ _ _ _ _ _ X => D_box X ha ⟨by decide, by decide⟩ ca2) rfl rfl rfl rfl (by omega) dL_arePairs_310 (fun h W => ?_)
  refine (show Ev _ _ _ _ h _ _ (.int (iN (bnd (Od P a) 2 (Od P a).length)) :: _) from ?_)
  refine e_isub dL_arePairs_313 ?_
  refine e_istore dL_arePairs_314 rfl ?_
  refine e_aload_n dL_arePairs_316 rfl ?_
  refine e_getf fL_10 W.obj rfl dL_arePairs_317 ?_
  refine e_iload_n dL_arePairs_320 rfl ?_
  refine e_hs W qcL_154 rfl (fun _ _ _ _ _ _ _ _ _ X => D_count X ha) rfl rfl rfl rfl (by omega) dL_arePairs_321 (fun h W => ?_)
  refine e_iload_n dL_arePairs_324 rfl ?_
  refine e_same_ne (tgt := 389) dL_arePairs_325 rfl ?_
  refine e_aload_n dL_arePairs_328 rfl ?_
  refine e_getf fL_10 W.obj rfl dL_arePairs_329 ?_
  refine e_iload_n dL_arePairs_332 rfl ?_
  refine e_iload_n dL_arePairs_333 rfl ?_
  refine e_hs W qcL_157 rfl (fun _ _ _ _ _ _ _ _ _ X => D_fence X ha (by omega) ⟨by omega, by omega⟩ (by omega)) rfl rfl rfl rfl (by omega) dL_arePairs_334 (fun h W => ?_)
  refine (show Ev _ _ _ _ h _ _ (.int (iN (fnc P a (nC P a))) :: _) from ?_)
  rw [hf.2.1]
  refine e_iload dL_arePairs_337 rfl ?_
  refine e_same_ne (tgt := 389) dL_arePairs_339 rfl ?_
  refine e_aload_n dL_arePairs_342 rfl ?_
  refine e_getf fL_10 W.obj rfl dL_arePairs_343 ?_
  refine e_iload_n dL_arePairs_346 rfl ?_
  refine e_iconst dL_arePairs_347 ?_
  refine e_hs W qcL_157 rfl (fun _ _ _ _ _ _ _ _ _ X => D_fence X ha (by omega) ⟨by omega, by omega⟩ (by omega)) rfl rfl rfl rfl (by omega) dL_arePairs_348 (fun h W => ?_)
  refine (show Ev _ _ _ _ h _ _ (.int (iN (fnc P a 1)) :: _) from ?_)
  rw [hf.2.2.1]
  refine e_if_ne (tgt := 389) r32_0 dL_arePairs_351 rfl (fun c => absurd rfl c) (fun _ => ?_)
  refine e_iload_n dL_arePairs_354 rfl ?_
  refine e_iconst dL_arePairs_355 ?_
  refine e_icmp_le (tgt := 391) ⟨by omega, by omega⟩ ⟨by omega, by omega⟩ dL_arePairs_356 rfl (fun c_356 => ?_) (fun c_356 => ?_)
  · exact e_loc [(7, .int (iN (bxw P a))), (2, .int (iN (nC P a : Int))), (1, .int (iN a)), (0, .ref l)] ⟨rfl, rfl, rfl, rfl, trivial⟩ (three _ h W (by omega))
  · refine e_aload_n dL_arePairs_359 rfl ?_
    refine e_getf fL_10 W.obj rfl dL_arePairs_360 ?_
    refine e_iload_n dL_arePairs_363 rfl ?_
    refine e_hs W qcL_160 rfl (fun _ _ _ _ _ _ _ _ _ X => D_places X ha) rfl rfl rfl rfl (by omega) dL_arePairs_364 (fun h W => ?_)
    refine e_iload_n dL_arePairs_367 rfl ?_
    have h9 := hpl (by omega)
    have pb : (plN (Od P a) (Od P a).length : Int) ≤ 26 := by
      have := plN_le (Od P a) (Od P a).length
      have e3 : (Od P a).length = nC P a := ol
      omega
    refine (show Ev _ _ _ _ h _ _ (.int (iN (nC P a : Int)) :: .int (iN (plN (Od P a) (Od P a).length : Int)) :: _) from ?_)
    refine e_icmp_ge (tgt := 375) ⟨by omega, by omega⟩ ⟨by omega, by omega⟩ dL_arePairs_368 rfl (fun c_368 => ?_) (fun c_368 => ?_)
    · refine e_iconst dL_arePairs_375 ?_
      refine e_iload dL_arePairs_376 rfl ?_
      refine e_if_ne (tgt := 385) ⟨by omega, by omega⟩ dL_arePairs_378 rfl (fun c_378 => ?_) (fun c_378 => ?_)
      · refine e_iconst dL_arePairs_385 ?_
        refine e_same_eq (tgt := 391) dL_arePairs_386 rfl ?_
        exact e_loc [(7, .int (iN (bxw P a))), (2, .int (iN (nC P a : Int))), (1, .int (iN a)), (0, .ref l)] ⟨rfl, rfl, rfl, rfl, trivial⟩ (three _ h W (by omega))
      · refine e_iconst dL_arePairs_381 ?_
        refine e_goto (tgt := 386) dL_arePairs_382 rfl ?_
        exact absurd (h9.mpr (by omega)) (by omega)
    · refine e_iconst dL_arePairs_371 ?_
      refine e_goto (tgt := 376) dL_arePairs_372 rfl ?_
      refine e_iload dL_arePairs_376 rfl ?_
      refine e_if_ne (tgt := 385) ⟨by omega, by omega⟩ dL_arePairs_378 rfl (fun c_378 => ?_) (fun c_378 => ?_)
      · refine e_iconst dL_arePairs_385 ?_
        exact absurd (h9.mp (by omega)) (by omega)
      · refine e_iconst dL_arePairs_381 ?_
        refine e_goto (tgt := 386) dL_arePairs_382 rfl ?_
        refine e_same_eq (tgt := 391) dL_arePairs_386 rfl ?_
        exact e_loc [(7, .int (iN (bxw P a))), (2, .int (iN (nC P a : Int))), (1, .int (iN a)), (0, .ref l)] ⟨rfl, rfl, rfl, rfl, trivial⟩ (three _ h W (by omega))
set_option maxRecDepth 20000 in
theorem L_arePairs (W : lwW G x pt sd cr (pM P) (pX P) (pY P) GX GY FX FY P E S b P2 E2 S2 F l h) (hg : goodP P) (hp : pt = P.length) (hn : ∀ r, r < P.length → nC P (pM P r) ≤ 26) (hf : ∀ r, r < P.length → fenF P (pM P r)) (hs : ∀ r, r < P.length → srtF P (pM P r)) (hx : ∀ r, r < P.length → srtG P (pM P r)) (hpl : ∀ r, r < P.length → plcF P (pM P r)) (hd1 : ∀ r, r < P.length → disF P (pM P r) False) (hd2 : ∀ r, r < P.length → disF P (pM P r) True) : Run G mL_arePairs [.ref l] none h 300 (6 * 300) (zQ (fun v h1 => v = .int (iN 1) ∧ ∃ x, lwW G x pt sd cr (pM P) (pX P) (pY P) GX GY FX FY P E S b P2 E2 S2 F l h1)) := by
  have hl := hg.1
  have hr9 := hg.r
  refine run_L rfl plL rfl ?_
  refine e_aload_n dL_arePairs_0 rfl ?_
  refine e_getf fL_16 W.obj rfl dL_arePairs_1 ?_
  refine e_aload_n dL_arePairs_4 rfl ?_
  refine e_aload_n dL_arePairs_5 rfl ?_
  refine e_getf fL_57 W.obj rfl dL_arePairs_6 ?_
  refine e_ow W qcL_54 rfl (L_next W (by omega) (by omega)) rfl rfl rfl rfl (by omega) dL_arePairs_9 (fun h v9 q9 => ?_)
  obtain ⟨r, x2, rfl, r0, r1, W⟩ := q9
  obtain ⟨r, rfl⟩ := Int.eq_ofNat_of_zero_le r0
  have hr : r < P.length := by omega
  have ha := hg.hp hr
  have cb : cntN P (pM P r) P.length ≠ 0 := cnt_at hr rfl
  have rb := hg.r r hr
  replace hn := hn r hr
  replace hf := hf r hr
  replace hs := hs r hr
  replace hx := hx r hr
  replace hpl := hpl r hr
  replace hd1 := hd1 r hr
  replace hd2 := hd2 r hr
  refine e_iaN W.hp (by omega) rfl dL_arePairs_12 ?_
  generalize pM P r = a at *
  refine e_istore_n dL_arePairs_13 rfl ?_
  refine e_aload_n dL_arePairs_14 rfl ?_
  refine e_iload_n dL_arePairs_15 rfl ?_
  refine e_ow W qcL_142 rfl (L_many W hp (by omega) hr9 rb) rfl rfl rfl rfl (by omega) dL_arePairs_16 (fun h v9 q9 => ?_)
  obtain ⟨rfl, W⟩ := q9
  refine e_istore_n dL_arePairs_19 rfl ?_
  refine e_iconst dL_arePairs_20 ?_
  refine e_istore_n dL_arePairs_21 rfl ?_
  refine e_iconst dL_arePairs_22 ?_
  refine e_istore dL_arePairs_23 rfl ?_
  refine e_iconst dL_arePairs_25 ?_
  refine e_istore dL_arePairs_26 rfl ?_
  refine e_iconst dL_arePairs_28 ?_
  refine e_istore dL_arePairs_29 rfl ?_
  refine e_iconst dL_arePairs_31 ?_
  refine e_istore dL_arePairs_32 rfl ?_
  have c1 : 1 ≤ nC P a := by
    have : cntN P a P.length = nC P a := rfl
    omega
  refine e_loc [(7, .int (iN ((0 : Nat) : Int))), (6, .int (iN (exI P a True (0)).2)), (5, .int (iN (exI P a False (0)).2)), (4, .int (iN (exI P a True (0)).1)), (3, .int (iN (exI P a False (0)).1)), (2, .int (iN (nC P a : Int))), (1, .int (iN a)), (0, .ref l)] ⟨rfl, rfl, rfl, rfl, rfl, rfl, rfl, rfl, trivial⟩ ?_
  refine ap_outer hg hp ha W ?_ P.length 0 (Nat.zero_add _)
  refine e_iload_n dL_arePairs_213 rfl ?_
  refine e_iconst dL_arePairs_214 ?_
  refine e_icmp_le (tgt := 275) ⟨by omega, by omega⟩ ⟨by omega, by omega⟩ dL_arePairs_215 rfl (fun c_215 => ?_) (fun c_215 => ?_)
  · exact e_loc [(5, .int (iN (exI P a False P.length).2)), (2, .int (iN (nC P a : Int))), (1, .int (iN a)), (0, .ref l)] ⟨rfl, rfl, rfl, rfl, trivial⟩ (ap_two hg hp ha c1 hf hs hx hn hpl _ h W (by omega))
  · refine e_aload_n dL_arePairs_218 rfl ?_
    refine e_getf fL_10 W.obj rfl dL_arePairs_219 ?_
    refine e_iload_n dL_arePairs_222 rfl ?_
    refine e_iconst dL_arePairs_223 ?_
    refine e_hs W qcL_145 rfl (fun _ _ _ _ _ _ _ _ _ X => D_pair X ha (by show 2 ≤ nC P a; omega) (u := False)) rfl rfl rfl rfl (by omega) dL_arePairs_224 (fun h W => ?_)
    refine e_iload_n dL_arePairs_227 rfl ?_
    refine e_same_ne (tgt := 273) dL_arePairs_228 rfl ?_
    refine e_aload_n dL_arePairs_231 rfl ?_
    refine e_getf fL_10 W.obj rfl dL_arePairs_232 ?_
    refine e_iload_n dL_arePairs_235 rfl ?_
    refine e_iconst dL_arePairs_236 ?_
    refine e_hs W qcL_145 rfl (fun _ _ _ _ _ _ _ _ _ X => D_pair X ha (by show 2 ≤ nC P a; omega) (u := True)) rfl rfl rfl rfl (by omega) dL_arePairs_237 (fun h W => ?_)
    refine e_iload dL_arePairs_240 rfl ?_
    refine e_same_ne (tgt := 273) dL_arePairs_242 rfl ?_
    refine e_aload_n dL_arePairs_245 rfl ?_
    refine e_getf fL_10 W.obj rfl dL_arePairs_246 ?_
    refine e_iload_n dL_arePairs_249 rfl ?_
    refine e_iconst dL_arePairs_250 ?_
    refine e_hs W qcL_148 rfl (fun _ _ _ _ _ _ _ _ _ X => D_distance X ha (by show 2 ≤ nC P a; omega) (u := False) (hd1 (by omega)).2) rfl rfl rfl rfl (by omega) dL_arePairs_251 (fun h W => ?_)
    rw [(hd1 (by omega)).1]
    refine e_iload dL_arePairs_254 rfl ?_
    refine e_same_ne (tgt := 273) dL_arePairs_256 rfl ?_
    refine e_aload_n dL_arePairs_259 rfl ?_
    refine e_getf fL_10 W.obj rfl dL_arePairs_260 ?_
    refine e_iload_n dL_arePairs_263 rfl ?_
    refine e_iconst dL_arePairs_264 ?_
    refine e_hs W qcL_148 rfl (fun _ _ _ _ _ _ _ _ _ X => D_distance X ha (by show 2 ≤ nC P a; omega) (u := True) (hd2 (by omega)).2) rfl rfl rfl rfl (by omega) dL_arePairs_265 (fun h W => ?_)
    rw [(hd2 (by omega)).1]
    refine e_iload dL_arePairs_268 rfl ?_
    refine e_same_eq (tgt := 275) dL_arePairs_270 rfl ?_
    exact e_loc [(5, .int (iN (exI P a False P.length).2)), (2, .int (iN (nC P a : Int))), (1, .int (iN a)), (0, .ref l)] ⟨rfl, rfl, rfl, rfl, trivial⟩ (ap_two hg hp ha c1 hf hs hx hn hpl _ h W (by omega))
end LAW9B
