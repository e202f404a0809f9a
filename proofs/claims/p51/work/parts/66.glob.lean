/-! What every frame knows holds at the law's entry -/
set_option maxRecDepth 20000 in
theorem tm_1 : (.castable "java/lang/IllegalArgumentException" "java/lang/IllegalArgumentException" : Cond) ∈ lw_tbl := (List.mem_append_right _ (show _ ∈ tables_1 from List.mem_append_left _ (List.mem_of_getElem? (i := 205) rfl)))
set_option maxRecDepth 20000 in
theorem tm_2 : (.castable "java/lang/IllegalStateException" "java/lang/IllegalStateException" : Cond) ∈ lw_tbl := (List.mem_append_right _ (show _ ∈ tables_1 from List.mem_append_right _ (List.mem_append_left _ (List.mem_of_getElem? (i := 42) rfl))))
set_option maxRecDepth 20000 in
theorem tm_3 : (.castable "java/lang/IndexOutOfBoundsException" "java/lang/IndexOutOfBoundsException" : Cond) ∈ lw_tbl := (List.mem_append_right _ (show _ ∈ tables_1 from List.mem_append_right _ (List.mem_append_left _ (List.mem_of_getElem? (i := 174) rfl))))
set_option maxRecDepth 20000 in
theorem tm_4 : (.castable "java/util/NoSuchElementException" "java/util/NoSuchElementException" : Cond) ∈ lw_tbl := (List.mem_append_right _ (show _ ∈ tables_1 from List.mem_append_right _ (List.mem_append_left _ (List.mem_of_getElem? (i := 87) rfl))))
set_option maxRecDepth 20000 in
theorem tm_5 : (.declares (Bundle.initS "java/lang/RuntimeException") : Cond) ∈ lw_tbl := (List.mem_append_right _ (show _ ∈ tables_1 from List.mem_append_left _ (List.mem_of_getElem? (i := 207) rfl)))
set_option maxRecDepth 20000 in
theorem tm_6 : (.declares (Bundle.initS "java/lang/Exception") : Cond) ∈ lw_tbl := (List.mem_append_right _ (show _ ∈ tables_1 from List.mem_append_left _ (List.mem_of_getElem? (i := 209) rfl)))
set_option maxRecDepth 20000 in
theorem tm_7 : (.declares (Bundle.initS Bundle.tN) : Cond) ∈ lw_tbl := (List.mem_append_right _ (show _ ∈ tables_1 from List.mem_append_left _ (List.mem_of_getElem? (i := 211) rfl)))
set_option maxRecDepth 20000 in
theorem tm_8 : (.fieldLinkNest RX7 65 "HullyardSurveys$Yard" "points" "LHullyardSurveys$Row;" "HullyardSurveys" : Cond) ∈ lw_tbl := (List.mem_append_right _ (show _ ∈ tables_1 from List.mem_append_left _ (List.mem_of_getElem? (i := 63) rfl)))
set_option maxRecDepth 20000 in
theorem tm_9 : (.fieldLinkNest RX7 234 "HullyardSurveys$Yard" "ends" "LHullyardSurveys$Row;" "HullyardSurveys" : Cond) ∈ lw_tbl := (List.mem_append_right _ (show _ ∈ tables_1 from List.mem_append_left _ (List.mem_of_getElem? (i := 65) rfl)))
set_option maxRecDepth 20000 in
theorem tm_10 : (.methodLinkNest RX7 46 yX2_init "HullyardSurveys" : Cond) ∈ lw_tbl := (List.mem_append_right _ (show _ ∈ tables_1 from List.mem_append_left _ (List.mem_of_getElem? (i := 81) rfl)))
set_option maxRecDepth 20000 in
theorem tm_11 : (.methodLinkNest RX7 53 yX0_init "HullyardSurveys" : Cond) ∈ lw_tbl := (List.mem_append_right _ (show _ ∈ tables_1 from List.mem_append_left _ (List.mem_of_getElem? (i := 102) rfl)))
set_option maxRecDepth 20000 in
theorem tm_12 : (.stringRef RX7 289 "heap is out of range" : Cond) ∈ lw_tbl := (List.mem_append_right _ (show _ ∈ tables_1 from List.mem_append_right _ (List.mem_append_left _ (List.mem_of_getElem? (i := 5) rfl))))
set_option maxRecDepth 20000 in
theorem tm_13 : (.stringRef RX7 291 "x or y is out of range" : Cond) ∈ lw_tbl := (List.mem_append_right _ (show _ ∈ tables_1 from List.mem_append_right _ (List.mem_append_left _ (List.mem_of_getElem? (i := 35) rfl))))
set_option maxRecDepth 20000 in
theorem tm_14 : (.stringRef RX7 74 "60 points have come" : Cond) ∈ lw_tbl := (List.mem_append_right _ (show _ ∈ tables_1 from List.mem_append_right _ (List.mem_append_left _ (List.mem_of_getElem? (i := 49) rfl))))
set_option maxRecDepth 20000 in
theorem tm_15 : (.stringRef RX7 296 "there is no such point" : Cond) ∈ lw_tbl := (List.mem_append_right _ (show _ ∈ tables_1 from List.mem_append_right _ (List.mem_append_right _ (List.mem_append_left _ (List.mem_of_getElem? (i := 194) rfl)))))
set_option maxRecDepth 20000 in
theorem tm_16 : (.stringRef RX7 104 "what is out of range" : Cond) ∈ lw_tbl := (List.mem_append_right _ (show _ ∈ tables_1 from List.mem_append_right _ (List.mem_append_right _ (List.mem_append_left _ (List.mem_of_getElem? (i := 155) rfl)))))
set_option maxRecDepth 20000 in
theorem tm_17 : (.stringRef RX7 112 "there is no such place" : Cond) ∈ lw_tbl := (List.mem_append_right _ (show _ ∈ tables_1 from List.mem_append_right _ (List.mem_append_right _ (List.mem_append_left _ (List.mem_of_getElem? (i := 180) rfl)))))
set_option maxRecDepth 20000 in
theorem tm_18 : (.stringRef RX7 302 "the heap is empty" : Cond) ∈ lw_tbl := (List.mem_append_right _ (show _ ∈ tables_1 from List.mem_append_right _ (List.mem_append_left _ (List.mem_of_getElem? (i := 94) rfl))))
set_option maxRecDepth 20000 in
theorem tm_19 : (.stringRef RX7 157 "there is no such layer" : Cond) ∈ lw_tbl := (List.mem_append_right _ (show _ ∈ tables_1 from List.mem_append_right _ (List.mem_append_right _ (List.mem_append_left _ (List.mem_of_getElem? (i := 90) rfl)))))
set_option maxRecDepth 20000 in
theorem tm_20 : (.stringRef RX7 306 "polygon is out of range" : Cond) ∈ lw_tbl := (List.mem_append_right _ (show _ ∈ tables_1 from List.mem_append_right _ (List.mem_append_right _ (List.mem_append_right _ (List.mem_append_left _ (List.mem_of_getElem? (i := 3) rfl))))))
set_option maxRecDepth 20000 in
theorem tm_21 : (.stringRef RX7 165 "the polygon has no corners" : Cond) ∈ lw_tbl := (List.mem_append_right _ (show _ ∈ tables_1 from List.mem_append_right _ (List.mem_append_right _ (List.mem_append_right _ (List.mem_append_left _ (List.mem_of_getElem? (i := 25) rfl))))))
set_option maxRecDepth 20000 in
theorem tm_22 : (.stringRef RX7 300 "there is no such corner" : Cond) ∈ lw_tbl := (List.mem_append_right _ (show _ ∈ tables_1 from List.mem_append_right _ (List.mem_append_left _ (List.mem_of_getElem? (i := 181) rfl))))
set_option maxRecDepth 20000 in
theorem tm_23 : (.stringRef RX7 198 "the figure has fewer than 3 corners" : Cond) ∈ lw_tbl := (List.mem_append_right _ (show _ ∈ tables_1 from List.mem_append_right _ (List.mem_append_right _ (List.mem_append_left _ (List.mem_of_getElem? (i := 40) rfl)))))
set_option maxRecDepth 20000 in
theorem tm_24 : (.stringRef RX7 204 "the polygon has 16 corners" : Cond) ∈ lw_tbl := (List.mem_append_right _ (show _ ∈ tables_1 from List.mem_append_right _ (List.mem_append_right _ (List.mem_append_right _ (List.mem_append_left _ (List.mem_of_getElem? (i := 12) rfl))))))
set_option maxRecDepth 20000 in
theorem tm_25 : (.stringRef RX7 308 "the polygon is not simple" : Cond) ∈ lw_tbl := (List.mem_append_right _ (show _ ∈ tables_1 from List.mem_append_right _ (List.mem_append_right _ (List.mem_append_right _ (List.mem_append_left _ (List.mem_of_getElem? (i := 81) rfl))))))
set_option maxRecDepth 20000 in
theorem tm_26 : (.stringRef RX7 220 "there is no such triangle" : Cond) ∈ lw_tbl := (List.mem_append_right _ (show _ ∈ tables_1 from List.mem_append_right _ (List.mem_append_right _ (List.mem_append_right _ (List.mem_append_left _ (List.mem_of_getElem? (i := 142) rfl))))))
set_option maxRecDepth 20000 in
theorem tm_27 : (.stringRef RX7 232 "there are 20 lines" : Cond) ∈ lw_tbl := (List.mem_append_right _ (show _ ∈ tables_1 from List.mem_append_right _ (List.mem_append_right _ (List.mem_append_right _ (List.mem_append_left _ (List.mem_of_getElem? (i := 58) rfl))))))
set_option maxRecDepth 20000 in
theorem tm_28 : (.stringRef RX7 298 "there is no such line" : Cond) ∈ lw_tbl := (List.mem_append_right _ (show _ ∈ tables_1 from List.mem_append_right _ (List.mem_append_right _ (List.mem_append_right _ (List.mem_append_left _ (List.mem_of_getElem? (i := 67) rfl))))))
set_option maxRecDepth 20000 in
theorem tm_29 : (.stringRef RX7 244 "there is no such pair" : Cond) ∈ lw_tbl := (List.mem_append_right _ (show _ ∈ tables_1 from List.mem_append_right _ (List.mem_append_right _ (List.mem_append_right _ (List.mem_append_left _ (List.mem_of_getElem? (i := 175) rfl))))))
set_option maxRecDepth 20000 in
theorem tm_30 : (.stringRef RX7 304 "the heap has fewer than 2 points" : Cond) ∈ lw_tbl := (List.mem_append_right _ (show _ ∈ tables_1 from List.mem_append_right _ (List.mem_append_right _ (List.mem_append_left _ (List.mem_of_getElem? (i := 137) rfl)))))
set_option maxRecDepth 20000 in
theorem tm_31 : (.stringRef RX7 259 "points is below 1" : Cond) ∈ lw_tbl := (List.mem_append_right _ (show _ ∈ tables_1 from List.mem_append_right _ (List.mem_append_right _ (List.mem_append_left _ (List.mem_of_getElem? (i := 164) rfl)))))
set_option maxRecDepth 20000 in
theorem tm_32 : (.stringRef RX7 261 "the heap has not so many points" : Cond) ∈ lw_tbl := (List.mem_append_right _ (show _ ∈ tables_1 from List.mem_append_right _ (List.mem_append_right _ (List.mem_append_left _ (List.mem_of_getElem? (i := 165) rfl)))))
set_option maxRecDepth 20000 in
theorem tm_33 : (.stringRef RX7 274 "no image was taken" : Cond) ∈ lw_tbl := (List.mem_append_right _ (show _ ∈ tables_1 from List.mem_append_right _ (List.mem_append_right _ (List.mem_append_right _ (List.mem_append_left _ (List.mem_of_getElem? (i := 206) rfl))))))
set_option maxRecDepth 20000 in
theorem tm_34 : (.arrayOver (.object "HullyardSurveys$Row") : Cond) ∈ lw_tbl := (List.mem_append_right _ (show _ ∈ tables_1 from List.mem_append_left _ (List.mem_of_getElem? (i := 61) rfl)))
set_option maxRecDepth 20000 in
theorem tm_35 : (.laysStatic Bundle.tN "UNASSIGNED_STACK" Bundle.steD : Cond) ∈ lw_tbl := (List.mem_append_right _ (show _ ∈ tables_1 from List.mem_append_left _ (List.mem_of_getElem? (i := 230) rfl)))
set_option maxRecDepth 20000 in
theorem tm_36 : (.laysStatic Bundle.tN "SUPPRESSED_SENTINEL" Bundle.listD : Cond) ∈ lw_tbl := (List.mem_append_right _ (show _ ∈ tables_1 from List.mem_append_left _ (List.mem_of_getElem? (i := 232) rfl)))
set_option maxRecDepth 20000 in
theorem tm_37 : (.initialized Bundle.tN : Cond) ∈ lw_tbl := (List.mem_append_right _ (show _ ∈ tables_1 from List.mem_append_left _ (List.mem_of_getElem? (i := 7) rfl)))
set_option maxRecDepth 20000 in
theorem tm_38 : (.arrayClass FieldType.int : Cond) ∈ lw_tbl := (List.mem_append_right _ (show _ ∈ tables_1 from List.mem_append_left _ (List.mem_of_getElem? (i := 60) rfl)))
set_option maxRecDepth 20000 in
theorem tm_39 : (.instantiable RX0 2 : Cond) ∈ lw_tbl := (List.mem_append_right _ (show _ ∈ tables_1 from List.mem_append_left _ (List.mem_of_getElem? (i := 101) rfl)))
set_option maxRecDepth 20000 in
theorem tm_40 : (.instantiable RX2 4 : Cond) ∈ lw_tbl := (List.mem_append_right _ (show _ ∈ tables_1 from List.mem_append_left _ (List.mem_of_getElem? (i := 80) rfl)))
set_option maxRecDepth 20000 in
theorem tm_41 : (.instantiable RX4 4 : Cond) ∈ lw_tbl := (List.mem_append_right _ (show _ ∈ tables_1 from List.mem_append_left _ (List.mem_of_getElem? (i := 39) rfl)))
set_option maxRecDepth 20000 in
theorem tm_42 : (.instantiable RX6 4 : Cond) ∈ lw_tbl := (List.mem_append_right _ (show _ ∈ tables_1 from List.mem_append_left _ (List.mem_of_getElem? (i := 33) rfl)))
set_option maxRecDepth 20000 in
theorem tm_43 : (.instantiable RX7 10 : Cond) ∈ lw_tbl := (List.mem_append_right _ (show _ ∈ tables_1 from List.mem_append_left _ (List.mem_of_getElem? (i := 27) rfl)))
set_option maxRecDepth 20000 in
theorem tm_44 : (.instantiable RL 12 : Cond) ∈ lw_tbl := (List.mem_append_right _ (show _ ∈ tables_1 from List.mem_append_left _ (List.mem_of_getElem? (i := 19) rfl)))
theorem arr_at {ty : FieldType} {args : Array Value} {s : State} (hnb : ∀ C, ty ≠ .object C) (h : (Cond.arrayClass ty).before args s = true) : ∃ cA : ClassId, ArrOfT s cA ty ∧ va_RA s cA ty := by
  obtain ⟨cA, kA, comp, h1, h2, h3⟩ := Cond.arrayClass_spec h
  refine ⟨cA, fun n z => ⟨fun k h => (by cases h), kA, h2, comp, h3⟩, ?_⟩
  cases ty with
  | object C => exact absurd rfl (hnb C)
  | _ => exact h1
theorem arr_ov {C : String} {args : Array Value} {s : State} (h : (Cond.arrayOver (.object C)).before args s = true) : ∃ cA : ClassId, ArrOfT s cA (.object C) ∧ va_RA s cA (.object C) := by
  obtain ⟨comp, c, k, h1, h2, h3, h4, h5⟩ := Cond.arrayOver_spec h
  exact ⟨c, fun n z => ⟨fun k h => (by cases h), k, h3, comp, h4⟩, k, comp, h3, h4, h1, h5⟩
theorem str_at {own tx : String} {j : Nat} {args : Array Value} {s : State} (h1 : (Cond.stringRef own j tx).before args s = true) (h2 : (Cond.exactly (.string own j) "java/lang/String").before args s = true) : ∃ sa, vk_R own j tx sa s := by
  obtain ⟨a, c, cell, k, q1, -⟩ := Cond.exactly_spec (args := args) (first := s) (o := none) (s := s) (idx := []) (t := .string own j) (cls := "java/lang/String") h2
  exact ⟨a, vk_R.of h1 q1⟩
theorem gU_K {s : State} {args : Array Value} (bs L9 : Nat) (hts : ∀ w ∈ lw_tbl, w.before args s = true) : ∃ (D : va_G) (ty : Nat → ClassId), (D.2 9 0 = bs ∧ D.2 9 1 = L9) ∧ va_K D vwCl [(ty 0, .int), (ty 1, .int), (ty 2, .int), (ty 3, .int), (ty 4, .object "HullyardSurveys$Row")] s := by
  have hG : ∀ w ∈ GW, w.before args s = true := fun w h => hts w (List.mem_filter.mp h).1
  obtain ⟨c0, i0, n0⟩ := u_known (C := RX0) (T := TX0) (N := 2) (n := 2) hG kX0.2.1 (hts _ tm_39)
  obtain ⟨c1, i1, n1⟩ := u_known (C := RX2) (T := TX2) (N := 4) (n := 4) hG kX2.2.1 (hts _ tm_40)
  obtain ⟨c2, i2, n2⟩ := u_known (C := RX4) (T := TX4) (N := 4) (n := 4) hG kX4.2.1 (hts _ tm_41)
  obtain ⟨c3, i3, n3⟩ := u_known (C := RX6) (T := TX6) (N := 4) (n := 4) hG kX6.2.1 (hts _ tm_42)
  obtain ⟨c4, i4, n4⟩ := u_known (C := RX7) (T := TX7) (N := 10) (n := 10) hG kX7.2.1 (hts _ tm_43)
  obtain ⟨c5, i5, n5⟩ := u_known (C := RL) (T := TL) (N := 12) (n := 12) hG kL.2.1 (hts _ tm_44)
  obtain ⟨a0, b0⟩ := arr_at (ty := .int) (fun C h => by cases h) (hts _ tm_38)
  obtain ⟨a4, b4⟩ := arr_ov (hts _ tm_34)
  refine ⟨(fun k => match k with | 0 => c0 | 1 => c1 | 2 => c2 | 3 => c3 | 4 => c4 | _ => c5, fun k => match k with | 0 => i0 | 1 => i1 | 2 => i2 | 3 => i3 | 4 => i4 | 5 => i5 | _ => fun j => match j with | 0 => bs | _ => L9), fun k => match k with | 0 => a0 | 1 => a0 | 2 => a0 | 3 => a0 | _ => a4, ⟨rfl, rfl⟩, ?_, ?_⟩
  · intro k q hq
    match k, hq with
    | 0, hq => cases hq; exact n0
    | 1, hq => cases hq; exact n1
    | 2, hq => cases hq; exact n2
    | 3, hq => cases hq; exact n3
    | 4, hq => cases hq; exact n4
    | 5, hq => cases hq; exact n5
    | k + 6, hq => exact nomatch hq
  · intro k q hq
    match k, hq with
    | 0, hq => cases hq; exact b0
    | 1, hq => cases hq; exact b0
    | 2, hq => cases hq; exact b0
    | 3, hq => cases hq; exact b0
    | 4, hq => cases hq; exact b4
    | k + 5, hq => exact nomatch hq
theorem gU_nw {s : State} {args : Array Value} (hts : ∀ w ∈ lw_tbl, w.before args s = true) : ∀ w ∈ g_NW, va_Nw w s := List.forall_mem_cons.mpr ⟨va_Nw.of rfl (hts _ tm_1), List.forall_mem_cons.mpr ⟨va_Nw.of rfl (hts _ tm_2), List.forall_mem_cons.mpr ⟨va_Nw.of rfl (hts _ tm_3), List.forall_mem_cons.mpr ⟨va_Nw.of rfl (hts _ tm_4), List.forall_mem_cons.mpr ⟨va_Nw.of rfl (hts _ tm_5), List.forall_mem_cons.mpr ⟨va_Nw.of rfl (hts _ tm_6), List.forall_mem_cons.mpr ⟨va_Nw.of rfl (hts _ tm_7), List.forall_mem_cons.mpr ⟨va_Nw.of rfl (hts _ tm_8), List.forall_mem_cons.mpr ⟨va_Nw.of rfl (hts _ tm_9), List.forall_mem_cons.mpr ⟨va_Nw.of rfl (hts _ tm_10), List.forall_mem_cons.mpr ⟨va_Nw.of rfl (hts _ tm_11), fun _ h => absurd h List.not_mem_nil⟩⟩⟩⟩⟩⟩⟩⟩⟩⟩⟩
set_option maxRecDepth 20000 in
theorem gs_0 {s : State} {args : Array Value} (hts : ∀ w ∈ lw_tbl, w.before args s = true) (hgv : (Jvm.Cond.and given_1 narrow_1).before args s = true) : ∃ sa, vk_R RX7 289 "heap is out of range" sa s := str_at (hts _ tm_12) (flat_of_before _ hgv _ (by decide +kernel))
set_option maxRecDepth 20000 in
theorem gs_1 {s : State} {args : Array Value} (hts : ∀ w ∈ lw_tbl, w.before args s = true) (hgv : (Jvm.Cond.and given_1 narrow_1).before args s = true) : ∃ sa, vk_R RX7 291 "x or y is out of range" sa s := str_at (hts _ tm_13) (flat_of_before _ hgv _ (by decide +kernel))
set_option maxRecDepth 20000 in
theorem gs_2 {s : State} {args : Array Value} (hts : ∀ w ∈ lw_tbl, w.before args s = true) (hgv : (Jvm.Cond.and given_1 narrow_1).before args s = true) : ∃ sa, vk_R RX7 74 "60 points have come" sa s := str_at (hts _ tm_14) (flat_of_before _ hgv _ (by decide +kernel))
set_option maxRecDepth 20000 in
theorem gs_3 {s : State} {args : Array Value} (hts : ∀ w ∈ lw_tbl, w.before args s = true) (hgv : (Jvm.Cond.and given_1 narrow_1).before args s = true) : ∃ sa, vk_R RX7 296 "there is no such point" sa s := str_at (hts _ tm_15) (flat_of_before _ hgv _ (by decide +kernel))
set_option maxRecDepth 20000 in
theorem gs_4 {s : State} {args : Array Value} (hts : ∀ w ∈ lw_tbl, w.before args s = true) (hgv : (Jvm.Cond.and given_1 narrow_1).before args s = true) : ∃ sa, vk_R RX7 104 "what is out of range" sa s := str_at (hts _ tm_16) (flat_of_before _ hgv _ (by decide +kernel))
set_option maxRecDepth 20000 in
theorem gs_5 {s : State} {args : Array Value} (hts : ∀ w ∈ lw_tbl, w.before args s = true) (hgv : (Jvm.Cond.and given_1 narrow_1).before args s = true) : ∃ sa, vk_R RX7 112 "there is no such place" sa s := str_at (hts _ tm_17) (flat_of_before _ hgv _ (by decide +kernel))
set_option maxRecDepth 20000 in
theorem gs_6 {s : State} {args : Array Value} (hts : ∀ w ∈ lw_tbl, w.before args s = true) (hgv : (Jvm.Cond.and given_1 narrow_1).before args s = true) : ∃ sa, vk_R RX7 302 "the heap is empty" sa s := str_at (hts _ tm_18) (flat_of_before _ hgv _ (by decide +kernel))
set_option maxRecDepth 20000 in
theorem gs_7 {s : State} {args : Array Value} (hts : ∀ w ∈ lw_tbl, w.before args s = true) (hgv : (Jvm.Cond.and given_1 narrow_1).before args s = true) : ∃ sa, vk_R RX7 157 "there is no such layer" sa s := str_at (hts _ tm_19) (flat_of_before _ hgv _ (by decide +kernel))
set_option maxRecDepth 20000 in
theorem gs_8 {s : State} {args : Array Value} (hts : ∀ w ∈ lw_tbl, w.before args s = true) (hgv : (Jvm.Cond.and given_1 narrow_1).before args s = true) : ∃ sa, vk_R RX7 306 "polygon is out of range" sa s := str_at (hts _ tm_20) (flat_of_before _ hgv _ (by decide +kernel))
set_option maxRecDepth 20000 in
theorem gs_9 {s : State} {args : Array Value} (hts : ∀ w ∈ lw_tbl, w.before args s = true) (hgv : (Jvm.Cond.and given_1 narrow_1).before args s = true) : ∃ sa, vk_R RX7 165 "the polygon has no corners" sa s := str_at (hts _ tm_21) (flat_of_before _ hgv _ (by decide +kernel))
set_option maxRecDepth 20000 in
theorem gs_10 {s : State} {args : Array Value} (hts : ∀ w ∈ lw_tbl, w.before args s = true) (hgv : (Jvm.Cond.and given_1 narrow_1).before args s = true) : ∃ sa, vk_R RX7 300 "there is no such corner" sa s := str_at (hts _ tm_22) (flat_of_before _ hgv _ (by decide +kernel))
set_option maxRecDepth 20000 in
theorem gs_11 {s : State} {args : Array Value} (hts : ∀ w ∈ lw_tbl, w.before args s = true) (hgv : (Jvm.Cond.and given_1 narrow_1).before args s = true) : ∃ sa, vk_R RX7 198 "the figure has fewer than 3 corners" sa s := str_at (hts _ tm_23) (flat_of_before _ hgv _ (by decide +kernel))
set_option maxRecDepth 20000 in
theorem gs_12 {s : State} {args : Array Value} (hts : ∀ w ∈ lw_tbl, w.before args s = true) (hgv : (Jvm.Cond.and given_1 narrow_1).before args s = true) : ∃ sa, vk_R RX7 204 "the polygon has 16 corners" sa s := str_at (hts _ tm_24) (flat_of_before _ hgv _ (by decide +kernel))
set_option maxRecDepth 20000 in
theorem gs_13 {s : State} {args : Array Value} (hts : ∀ w ∈ lw_tbl, w.before args s = true) (hgv : (Jvm.Cond.and given_1 narrow_1).before args s = true) : ∃ sa, vk_R RX7 308 "the polygon is not simple" sa s := str_at (hts _ tm_25) (flat_of_before _ hgv _ (by decide +kernel))
set_option maxRecDepth 20000 in
theorem gs_14 {s : State} {args : Array Value} (hts : ∀ w ∈ lw_tbl, w.before args s = true) (hgv : (Jvm.Cond.and given_1 narrow_1).before args s = true) : ∃ sa, vk_R RX7 220 "there is no such triangle" sa s := str_at (hts _ tm_26) (flat_of_before _ hgv _ (by decide +kernel))
set_option maxRecDepth 20000 in
theorem gs_15 {s : State} {args : Array Value} (hts : ∀ w ∈ lw_tbl, w.before args s = true) (hgv : (Jvm.Cond.and given_1 narrow_1).before args s = true) : ∃ sa, vk_R RX7 232 "there are 20 lines" sa s := str_at (hts _ tm_27) (flat_of_before _ hgv _ (by decide +kernel))
set_option maxRecDepth 20000 in
theorem gs_16 {s : State} {args : Array Value} (hts : ∀ w ∈ lw_tbl, w.before args s = true) (hgv : (Jvm.Cond.and given_1 narrow_1).before args s = true) : ∃ sa, vk_R RX7 298 "there is no such line" sa s := str_at (hts _ tm_28) (flat_of_before _ hgv _ (by decide +kernel))
set_option maxRecDepth 20000 in
theorem gs_17 {s : State} {args : Array Value} (hts : ∀ w ∈ lw_tbl, w.before args s = true) (hgv : (Jvm.Cond.and given_1 narrow_1).before args s = true) : ∃ sa, vk_R RX7 244 "there is no such pair" sa s := str_at (hts _ tm_29) (flat_of_before _ hgv _ (by decide +kernel))
set_option maxRecDepth 20000 in
theorem gs_18 {s : State} {args : Array Value} (hts : ∀ w ∈ lw_tbl, w.before args s = true) (hgv : (Jvm.Cond.and given_1 narrow_1).before args s = true) : ∃ sa, vk_R RX7 304 "the heap has fewer than 2 points" sa s := str_at (hts _ tm_30) (flat_of_before _ hgv _ (by decide +kernel))
set_option maxRecDepth 20000 in
theorem gs_19 {s : State} {args : Array Value} (hts : ∀ w ∈ lw_tbl, w.before args s = true) (hgv : (Jvm.Cond.and given_1 narrow_1).before args s = true) : ∃ sa, vk_R RX7 259 "points is below 1" sa s := str_at (hts _ tm_31) (flat_of_before _ hgv _ (by decide +kernel))
set_option maxRecDepth 20000 in
theorem gs_20 {s : State} {args : Array Value} (hts : ∀ w ∈ lw_tbl, w.before args s = true) (hgv : (Jvm.Cond.and given_1 narrow_1).before args s = true) : ∃ sa, vk_R RX7 261 "the heap has not so many points" sa s := str_at (hts _ tm_32) (flat_of_before _ hgv _ (by decide +kernel))
set_option maxRecDepth 20000 in
theorem gs_21 {s : State} {args : Array Value} (hts : ∀ w ∈ lw_tbl, w.before args s = true) (hgv : (Jvm.Cond.and given_1 narrow_1).before args s = true) : ∃ sa, vk_R RX7 274 "no image was taken" sa s := str_at (hts _ tm_33) (flat_of_before _ hgv _ (by decide +kernel))
theorem gU_str {s : State} {args : Array Value} (hts : ∀ w ∈ lw_tbl, w.before args s = true) (hgv : (Jvm.Cond.and given_1 narrow_1).before args s = true) : ∀ q ∈ g_strs, ∃ sa, vk_R RX7 q.1 q.2 sa s := List.forall_mem_cons.mpr ⟨gs_0 hts hgv, List.forall_mem_cons.mpr ⟨gs_1 hts hgv, List.forall_mem_cons.mpr ⟨gs_2 hts hgv, List.forall_mem_cons.mpr ⟨gs_3 hts hgv, List.forall_mem_cons.mpr ⟨gs_4 hts hgv, List.forall_mem_cons.mpr ⟨gs_5 hts hgv, List.forall_mem_cons.mpr ⟨gs_6 hts hgv, List.forall_mem_cons.mpr ⟨gs_7 hts hgv, List.forall_mem_cons.mpr ⟨gs_8 hts hgv, List.forall_mem_cons.mpr ⟨gs_9 hts hgv, List.forall_mem_cons.mpr ⟨gs_10 hts hgv, List.forall_mem_cons.mpr ⟨gs_11 hts hgv, List.forall_mem_cons.mpr ⟨gs_12 hts hgv, List.forall_mem_cons.mpr ⟨gs_13 hts hgv, List.forall_mem_cons.mpr ⟨gs_14 hts hgv, List.forall_mem_cons.mpr ⟨gs_15 hts hgv, List.forall_mem_cons.mpr ⟨gs_16 hts hgv, List.forall_mem_cons.mpr ⟨gs_17 hts hgv, List.forall_mem_cons.mpr ⟨gs_18 hts hgv, List.forall_mem_cons.mpr ⟨gs_19 hts hgv, List.forall_mem_cons.mpr ⟨gs_20 hts hgv, List.forall_mem_cons.mpr ⟨gs_21 hts hgv, fun _ h => absurd h List.not_mem_nil⟩⟩⟩⟩⟩⟩⟩⟩⟩⟩⟩⟩⟩⟩⟩⟩⟩⟩⟩⟩⟩⟩
set_option maxRecDepth 20000 in
theorem gU_all {l : Launch} {s : State} {args : Array Value} {bs L9 : Nat} {xs : Nat → Int32} (hX : va_X bs L9 xs s s.heap) (hbl : bs < s.heap.size) (hL9 : L9 ≤ 260) (hfl : l.stackTraces = false) (hts : ∀ w ∈ lw_tbl, w.before args s = true) (hgv : (Jvm.Cond.and given_1 narrow_1).before args s = true) : ∃ (D : va_G) (ty : Nat → ClassId), (D.2 9 0 = bs ∧ D.2 9 1 = L9) ∧ g_U (l, D, ty, s.heap.size) s := by
  obtain ⟨D, ty, ⟨d0, d1⟩, hK⟩ := gU_K bs L9 hts
  have hA : ∀ a : Nat, a < s.heap.size → ¬ (g_A (l, D, ty, s.heap.size)) a := fun a h => Nat.not_le.mpr h
  exact ⟨D, ty, ⟨d0, d1⟩, hK, vx_Zqof (hts _ tm_35) (hts _ tm_37) (flat_of_before _ hgv _ (by decide +kernel)) hA, vx_Zqof (hts _ tm_36) (hts _ tm_37) (flat_of_before _ hgv _ (by decide +kernel)) hA, gU_nw hts, gU_str hts hgv, trivial, va_AO.of (hts _ tm_34), hfl, by show D.2 9 0 < _; rw [d0]; exact hbl, by show D.2 9 0 < _; rw [d0]; exact hbl, by show D.2 9 1 ≤ _; rw [d1]; exact hL9, xs, by show va_X (D.2 9 0) (D.2 9 1) _ _ _; rw [d0, d1]; exact hX⟩
