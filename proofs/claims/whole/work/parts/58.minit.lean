/-! The reference: how it is made -/
set_option maxRecDepth 20000 in
theorem va_bool : (.arrayClass FieldType.boolean : Cond) ∈ GW := gw5 148 rfl rfl
abbrev blX8 : List Value := [.int (iN 0), .null, .null, .null, .int (iN 0), .null, .null, .int (iN 0), .null, .null, .null, .null, .long (lI 0), .long (lI 0), .null, .null, .null, .int (iN 0), .int (iN 0), .int (iN 0), .int (iN 0), .int (iN 0), .int (iN 0), .int (iN 0), .int (iN 0), .null, .null, .int (iN 0), .int (iN 0), .null, .null, .null, .null, .int (iN 0), .int (iN 0), .null, .null, .null, .null, .null, .null, .null, .null, .int (iN 0), .int (iN 0)]
theorem dfX8 : ∀ j, j < 45 → defaultValue (tyX8 j) = vp_V blX8 j := fun j hj => by
  match j, hj with
  | 0, _ => rfl
  | 1, _ => rfl
  | 2, _ => rfl
  | 3, _ => rfl
  | 4, _ => rfl
  | 5, _ => rfl
  | 6, _ => rfl
  | 7, _ => rfl
  | 8, _ => rfl
  | 9, _ => rfl
  | 10, _ => rfl
  | 11, _ => rfl
  | 12, _ => rfl
  | 13, _ => rfl
  | 14, _ => rfl
  | 15, _ => rfl
  | 16, _ => rfl
  | 17, _ => rfl
  | 18, _ => rfl
  | 19, _ => rfl
  | 20, _ => rfl
  | 21, _ => rfl
  | 22, _ => rfl
  | 23, _ => rfl
  | 24, _ => rfl
  | 25, _ => rfl
  | 26, _ => rfl
  | 27, _ => rfl
  | 28, _ => rfl
  | 29, _ => rfl
  | 30, _ => rfl
  | 31, _ => rfl
  | 32, _ => rfl
  | 33, _ => rfl
  | 34, _ => rfl
  | 35, _ => rfl
  | 36, _ => rfl
  | 37, _ => rfl
  | 38, _ => rfl
  | 39, _ => rfl
  | 40, _ => rfl
  | 41, _ => rfl
  | 42, _ => rfl
  | 43, _ => rfl
  | 44, _ => rfl
  | j + 45, hj => exact absurd hj (by omega)
section MINIT
variable {G : g_X} {m : Nat} {h : g_hp}
theorem in_arr {j : Nat} {h1 : g_hp} (x : ∀ i, i < j → h (m + 1 + i) = some (arE G i (fun _ => 0))) (e : h1 = g_up h (m + 1 + j) (arE G j (fun _ => 0))) : ∀ i, i < j + 1 → h1 (m + 1 + i) = some (arE G i (fun _ => 0)) := fun i hi => by
  rw [e]
  by_cases c : i = j
  · rw [c, g_up_s]
  · rw [g_up_n _ _ (by omega)]
    exact x i (by omega)
def sc00 : Nat → Int := fun k => if k = 43 then -1 else 0
set_option maxRecDepth 20000 in
theorem S_mdInit (h0 : h m = some (.inr (5, blX8))) : Mk G mX8_init [.ref m] (m + 1) h 26 9539 (fun h1 => mdX G sc00 (fun _ _ => 0) m h h1) := by
  have x := h0
  have fr : g_fr m 27 h h := g_fr.rf
  have xa : ∀ i, i < 0 → h (m + 1 + i) = some (arE G i (fun _ => 0)) := fun i hi => absurd hi (Nat.not_lt_zero _)
  refine run_of rfl plX8 rfl ?_
  refine e_aload_n dX8_init_0 rfl ?_
  refine e_objInit ob_X8_7 ob_2 ob_3 rfl rfl dX8_init_1 ?_
  refine e_aload_n dX8_init_4 rfl ?_
  refine e_bipush dX8_init_5 (by decide) ?_
  refine e_newarr (t := 0) (N := 60) (A0 := (60, .inl (fun _ => iN 0))) va_int rfl rfl (fun _ => vp_cell_i _ _ _) rfl (fun _ _ w => w) rfl rfl (by decide) rfl rfl dX8_init_7 ?_
  generalize hh : g_up h (m + 1 + 0) _ = hv1
  replace xa := in_arr (j := 0) xa (h1 := hv1) (by rw [← hh]; rfl)
  replace x := (show hv1 m = h m from by rw [← hh]; exact g_up_n _ _ (by omega)).trans x
  replace fr : g_fr m 27 h hv1 := by rw [← hh]; exact fr.up (by omega) (by omega)
  clear hh
  refine (show Ev _ 1 60 (some (m + 1 + 1)) hv1 _ _ _ from ?_)
  refine e_putF pfX8_13 rfl x rfl rfl rfl dX8_init_9 ?_
  generalize hh : g_up hv1 m _ = hv2
  have x9 : hv2 m = some (.inr (5, [.int (iN 0), .ref (m + 1 + 0), .null, .null, .int (iN 0), .null, .null, .int (iN 0), .null, .null, .null, .null, .long (lI 0), .long (lI 0), .null, .null, .null, .int (iN 0), .int (iN 0), .int (iN 0), .int (iN 0), .int (iN 0), .int (iN 0), .int (iN 0), .int (iN 0), .null, .null, .int (iN 0), .int (iN 0), .null, .null, .null, .null, .int (iN 0), .int (iN 0), .null, .null, .null, .null, .null, .null, .null, .null, .int (iN 0), .int (iN 0)])) := by rw [← hh]; exact g_up_s _ _ _
  replace xa : ∀ i, i < 1 → hv2 (m + 1 + i) = some (arE G i (fun _ => 0)) := fun i hi => by rw [← hh, g_up_n _ _ (by omega)]; exact xa i hi
  replace fr : g_fr m 27 h hv2 := by rw [← hh]; exact fr.up (by omega) (by omega)
  clear hh x
  have x := x9
  clear x9
  refine e_aload_n dX8_init_12 rfl ?_
  refine e_bipush dX8_init_13 (by decide) ?_
  refine e_newarr (t := 0) (N := 60) (A0 := (60, .inl (fun _ => iN 0))) va_int rfl rfl (fun _ => vp_cell_i _ _ _) rfl (fun _ _ w => w) rfl rfl (by decide) rfl rfl dX8_init_15 ?_
  generalize hh : g_up hv2 (m + 1 + 1) _ = hv3
  replace xa := in_arr (j := 1) xa (h1 := hv3) (by rw [← hh]; rfl)
  replace x := (show hv3 m = hv2 m from by rw [← hh]; exact g_up_n _ _ (by omega)).trans x
  replace fr : g_fr m 27 h hv3 := by rw [← hh]; exact fr.up (by omega) (by omega)
  clear hh
  refine (show Ev _ 2 120 (some (m + 1 + 2)) hv3 _ _ _ from ?_)
  refine e_putF pfX8_17 rfl x rfl rfl rfl dX8_init_17 ?_
  generalize hh : g_up hv3 m _ = hv4
  have x9 : hv4 m = some (.inr (5, [.int (iN 0), .ref (m + 1 + 0), .ref (m + 1 + 1), .null, .int (iN 0), .null, .null, .int (iN 0), .null, .null, .null, .null, .long (lI 0), .long (lI 0), .null, .null, .null, .int (iN 0), .int (iN 0), .int (iN 0), .int (iN 0), .int (iN 0), .int (iN 0), .int (iN 0), .int (iN 0), .null, .null, .int (iN 0), .int (iN 0), .null, .null, .null, .null, .int (iN 0), .int (iN 0), .null, .null, .null, .null, .null, .null, .null, .null, .int (iN 0), .int (iN 0)])) := by rw [← hh]; exact g_up_s _ _ _
  replace xa : ∀ i, i < 2 → hv4 (m + 1 + i) = some (arE G i (fun _ => 0)) := fun i hi => by rw [← hh, g_up_n _ _ (by omega)]; exact xa i hi
  replace fr : g_fr m 27 h hv4 := by rw [← hh]; exact fr.up (by omega) (by omega)
  clear hh x
  have x := x9
  clear x9
  refine e_aload_n dX8_init_20 rfl ?_
  refine e_bipush dX8_init_21 (by decide) ?_
  refine e_newarr (t := 0) (N := 60) (A0 := (60, .inl (fun _ => iN 0))) va_int rfl rfl (fun _ => vp_cell_i _ _ _) rfl (fun _ _ w => w) rfl rfl (by decide) rfl rfl dX8_init_23 ?_
  generalize hh : g_up hv4 (m + 1 + 2) _ = hv5
  replace xa := in_arr (j := 2) xa (h1 := hv5) (by rw [← hh]; rfl)
  replace x := (show hv5 m = hv4 m from by rw [← hh]; exact g_up_n _ _ (by omega)).trans x
  replace fr : g_fr m 27 h hv5 := by rw [← hh]; exact fr.up (by omega) (by omega)
  clear hh
  refine (show Ev _ 3 180 (some (m + 1 + 3)) hv5 _ _ _ from ?_)
  refine e_putF pfX8_20 rfl x rfl rfl rfl dX8_init_25 ?_
  generalize hh : g_up hv5 m _ = hv6
  have x9 : hv6 m = some (.inr (5, [.int (iN 0), .ref (m + 1 + 0), .ref (m + 1 + 1), .ref (m + 1 + 2), .int (iN 0), .null, .null, .int (iN 0), .null, .null, .null, .null, .long (lI 0), .long (lI 0), .null, .null, .null, .int (iN 0), .int (iN 0), .int (iN 0), .int (iN 0), .int (iN 0), .int (iN 0), .int (iN 0), .int (iN 0), .null, .null, .int (iN 0), .int (iN 0), .null, .null, .null, .null, .int (iN 0), .int (iN 0), .null, .null, .null, .null, .null, .null, .null, .null, .int (iN 0), .int (iN 0)])) := by rw [← hh]; exact g_up_s _ _ _
  replace xa : ∀ i, i < 3 → hv6 (m + 1 + i) = some (arE G i (fun _ => 0)) := fun i hi => by rw [← hh, g_up_n _ _ (by omega)]; exact xa i hi
  replace fr : g_fr m 27 h hv6 := by rw [← hh]; exact fr.up (by omega) (by omega)
  clear hh x
  have x := x9
  clear x9
  refine e_aload_n dX8_init_28 rfl ?_
  refine e_sipush dX8_init_29 (by decide) ?_
  refine e_newarr (t := 0) (N := 3700) (A0 := (3700, .inl (fun _ => iN 0))) va_int rfl rfl (fun _ => vp_cell_i _ _ _) rfl (fun _ _ w => w) rfl rfl (by decide) rfl rfl dX8_init_32 ?_
  generalize hh : g_up hv6 (m + 1 + 3) _ = hv7
  replace xa := in_arr (j := 3) xa (h1 := hv7) (by rw [← hh]; rfl)
  replace x := (show hv7 m = hv6 m from by rw [← hh]; exact g_up_n _ _ (by omega)).trans x
  replace fr : g_fr m 27 h hv7 := by rw [← hh]; exact fr.up (by omega) (by omega)
  clear hh
  refine (show Ev _ 4 3880 (some (m + 1 + 4)) hv7 _ _ _ from ?_)
  refine e_putF pfX8_23 rfl x rfl rfl rfl dX8_init_34 ?_
  generalize hh : g_up hv7 m _ = hv8
  have x9 : hv8 m = some (.inr (5, [.int (iN 0), .ref (m + 1 + 0), .ref (m + 1 + 1), .ref (m + 1 + 2), .int (iN 0), .ref (m + 1 + 3), .null, .int (iN 0), .null, .null, .null, .null, .long (lI 0), .long (lI 0), .null, .null, .null, .int (iN 0), .int (iN 0), .int (iN 0), .int (iN 0), .int (iN 0), .int (iN 0), .int (iN 0), .int (iN 0), .null, .null, .int (iN 0), .int (iN 0), .null, .null, .null, .null, .int (iN 0), .int (iN 0), .null, .null, .null, .null, .null, .null, .null, .null, .int (iN 0), .int (iN 0)])) := by rw [← hh]; exact g_up_s _ _ _
  replace xa : ∀ i, i < 4 → hv8 (m + 1 + i) = some (arE G i (fun _ => 0)) := fun i hi => by rw [← hh, g_up_n _ _ (by omega)]; exact xa i hi
  replace fr : g_fr m 27 h hv8 := by rw [← hh]; exact fr.up (by omega) (by omega)
  clear hh x
  have x := x9
  clear x9
  refine e_aload_n dX8_init_37 rfl ?_
  refine e_sipush dX8_init_38 (by decide) ?_
  refine e_newarr (t := 0) (N := 3700) (A0 := (3700, .inl (fun _ => iN 0))) va_int rfl rfl (fun _ => vp_cell_i _ _ _) rfl (fun _ _ w => w) rfl rfl (by decide) rfl rfl dX8_init_41 ?_
  generalize hh : g_up hv8 (m + 1 + 4) _ = hv9
  replace xa := in_arr (j := 4) xa (h1 := hv9) (by rw [← hh]; rfl)
  replace x := (show hv9 m = hv8 m from by rw [← hh]; exact g_up_n _ _ (by omega)).trans x
  replace fr : g_fr m 27 h hv9 := by rw [← hh]; exact fr.up (by omega) (by omega)
  clear hh
  refine (show Ev _ 5 7580 (some (m + 1 + 5)) hv9 _ _ _ from ?_)
  refine e_putF pfX8_26 rfl x rfl rfl rfl dX8_init_43 ?_
  generalize hh : g_up hv9 m _ = hv10
  have x9 : hv10 m = some (.inr (5, [.int (iN 0), .ref (m + 1 + 0), .ref (m + 1 + 1), .ref (m + 1 + 2), .int (iN 0), .ref (m + 1 + 3), .ref (m + 1 + 4), .int (iN 0), .null, .null, .null, .null, .long (lI 0), .long (lI 0), .null, .null, .null, .int (iN 0), .int (iN 0), .int (iN 0), .int (iN 0), .int (iN 0), .int (iN 0), .int (iN 0), .int (iN 0), .null, .null, .int (iN 0), .int (iN 0), .null, .null, .null, .null, .int (iN 0), .int (iN 0), .null, .null, .null, .null, .null, .null, .null, .null, .int (iN 0), .int (iN 0)])) := by rw [← hh]; exact g_up_s _ _ _
  replace xa : ∀ i, i < 5 → hv10 (m + 1 + i) = some (arE G i (fun _ => 0)) := fun i hi => by rw [← hh, g_up_n _ _ (by omega)]; exact xa i hi
  replace fr : g_fr m 27 h hv10 := by rw [← hh]; exact fr.up (by omega) (by omega)
  clear hh x
  have x := x9
  clear x9
  refine e_aload_n dX8_init_46 rfl ?_
  refine e_sipush dX8_init_47 (by decide) ?_
  refine e_newarr (t := 0) (N := 600) (A0 := (600, .inl (fun _ => iN 0))) va_int rfl rfl (fun _ => vp_cell_i _ _ _) rfl (fun _ _ w => w) rfl rfl (by decide) rfl rfl dX8_init_50 ?_
  generalize hh : g_up hv10 (m + 1 + 5) _ = hv11
  replace xa := in_arr (j := 5) xa (h1 := hv11) (by rw [← hh]; rfl)
  replace x := (show hv11 m = hv10 m from by rw [← hh]; exact g_up_n _ _ (by omega)).trans x
  replace fr : g_fr m 27 h hv11 := by rw [← hh]; exact fr.up (by omega) (by omega)
  clear hh
  refine (show Ev _ 6 8180 (some (m + 1 + 6)) hv11 _ _ _ from ?_)
  refine e_putF pfX8_29 rfl x rfl rfl rfl dX8_init_52 ?_
  generalize hh : g_up hv11 m _ = hv12
  have x9 : hv12 m = some (.inr (5, [.int (iN 0), .ref (m + 1 + 0), .ref (m + 1 + 1), .ref (m + 1 + 2), .int (iN 0), .ref (m + 1 + 3), .ref (m + 1 + 4), .int (iN 0), .ref (m + 1 + 5), .null, .null, .null, .long (lI 0), .long (lI 0), .null, .null, .null, .int (iN 0), .int (iN 0), .int (iN 0), .int (iN 0), .int (iN 0), .int (iN 0), .int (iN 0), .int (iN 0), .null, .null, .int (iN 0), .int (iN 0), .null, .null, .null, .null, .int (iN 0), .int (iN 0), .null, .null, .null, .null, .null, .null, .null, .null, .int (iN 0), .int (iN 0)])) := by rw [← hh]; exact g_up_s _ _ _
  replace xa : ∀ i, i < 6 → hv12 (m + 1 + i) = some (arE G i (fun _ => 0)) := fun i hi => by rw [← hh, g_up_n _ _ (by omega)]; exact xa i hi
  replace fr : g_fr m 27 h hv12 := by rw [← hh]; exact fr.up (by omega) (by omega)
  clear hh x
  have x := x9
  clear x9
  refine e_aload_n dX8_init_55 rfl ?_
  refine e_sipush dX8_init_56 (by decide) ?_
  refine e_newarr (t := 0) (N := 600) (A0 := (600, .inl (fun _ => iN 0))) va_int rfl rfl (fun _ => vp_cell_i _ _ _) rfl (fun _ _ w => w) rfl rfl (by decide) rfl rfl dX8_init_59 ?_
  generalize hh : g_up hv12 (m + 1 + 6) _ = hv13
  replace xa := in_arr (j := 6) xa (h1 := hv13) (by rw [← hh]; rfl)
  replace x := (show hv13 m = hv12 m from by rw [← hh]; exact g_up_n _ _ (by omega)).trans x
  replace fr : g_fr m 27 h hv13 := by rw [← hh]; exact fr.up (by omega) (by omega)
  clear hh
  refine (show Ev _ 7 8780 (some (m + 1 + 7)) hv13 _ _ _ from ?_)
  refine e_putF pfX8_32 rfl x rfl rfl rfl dX8_init_61 ?_
  generalize hh : g_up hv13 m _ = hv14
  have x9 : hv14 m = some (.inr (5, [.int (iN 0), .ref (m + 1 + 0), .ref (m + 1 + 1), .ref (m + 1 + 2), .int (iN 0), .ref (m + 1 + 3), .ref (m + 1 + 4), .int (iN 0), .ref (m + 1 + 5), .ref (m + 1 + 6), .null, .null, .long (lI 0), .long (lI 0), .null, .null, .null, .int (iN 0), .int (iN 0), .int (iN 0), .int (iN 0), .int (iN 0), .int (iN 0), .int (iN 0), .int (iN 0), .null, .null, .int (iN 0), .int (iN 0), .null, .null, .null, .null, .int (iN 0), .int (iN 0), .null, .null, .null, .null, .null, .null, .null, .null, .int (iN 0), .int (iN 0)])) := by rw [← hh]; exact g_up_s _ _ _
  replace xa : ∀ i, i < 7 → hv14 (m + 1 + i) = some (arE G i (fun _ => 0)) := fun i hi => by rw [← hh, g_up_n _ _ (by omega)]; exact xa i hi
  replace fr : g_fr m 27 h hv14 := by rw [← hh]; exact fr.up (by omega) (by omega)
  clear hh x
  have x := x9
  clear x9
  refine e_aload_n dX8_init_64 rfl ?_
  refine e_iconst dX8_init_65 ?_
  refine e_newarr (t := 0) (N := 3) (A0 := (3, .inl (fun _ => iN 0))) va_int rfl rfl (fun _ => vp_cell_i _ _ _) rfl (fun _ _ w => w) rfl rfl (by decide) rfl rfl dX8_init_66 ?_
  generalize hh : g_up hv14 (m + 1 + 7) _ = hv15
  replace xa := in_arr (j := 7) xa (h1 := hv15) (by rw [← hh]; rfl)
  replace x := (show hv15 m = hv14 m from by rw [← hh]; exact g_up_n _ _ (by omega)).trans x
  replace fr : g_fr m 27 h hv15 := by rw [← hh]; exact fr.up (by omega) (by omega)
  clear hh
  refine (show Ev _ 8 8783 (some (m + 1 + 8)) hv15 _ _ _ from ?_)
  refine e_putF pfX8_35 rfl x rfl rfl rfl dX8_init_68 ?_
  generalize hh : g_up hv15 m _ = hv16
  have x9 : hv16 m = some (.inr (5, [.int (iN 0), .ref (m + 1 + 0), .ref (m + 1 + 1), .ref (m + 1 + 2), .int (iN 0), .ref (m + 1 + 3), .ref (m + 1 + 4), .int (iN 0), .ref (m + 1 + 5), .ref (m + 1 + 6), .ref (m + 1 + 7), .null, .long (lI 0), .long (lI 0), .null, .null, .null, .int (iN 0), .int (iN 0), .int (iN 0), .int (iN 0), .int (iN 0), .int (iN 0), .int (iN 0), .int (iN 0), .null, .null, .int (iN 0), .int (iN 0), .null, .null, .null, .null, .int (iN 0), .int (iN 0), .null, .null, .null, .null, .null, .null, .null, .null, .int (iN 0), .int (iN 0)])) := by rw [← hh]; exact g_up_s _ _ _
  replace xa : ∀ i, i < 8 → hv16 (m + 1 + i) = some (arE G i (fun _ => 0)) := fun i hi => by rw [← hh, g_up_n _ _ (by omega)]; exact xa i hi
  replace fr : g_fr m 27 h hv16 := by rw [← hh]; exact fr.up (by omega) (by omega)
  clear hh x
  have x := x9
  clear x9
  refine e_aload_n dX8_init_71 rfl ?_
  refine e_bipush dX8_init_72 (by decide) ?_
  refine e_newarr (t := 3) (N := 60) (A0 := (60, .inl (fun _ => iN 0))) va_bool rfl rfl (fun _ => vp_cell_i _ _ _) rfl (fun _ _ w => w) rfl rfl (by decide) rfl rfl dX8_init_74 ?_
  generalize hh : g_up hv16 (m + 1 + 8) _ = hv17
  replace xa := in_arr (j := 8) xa (h1 := hv17) (by rw [← hh]; rfl)
  replace x := (show hv17 m = hv16 m from by rw [← hh]; exact g_up_n _ _ (by omega)).trans x
  replace fr : g_fr m 27 h hv17 := by rw [← hh]; exact fr.up (by omega) (by omega)
  clear hh
  refine (show Ev _ 9 8843 (some (m + 1 + 9)) hv17 _ _ _ from ?_)
  refine e_putF pfX8_38 rfl x rfl rfl rfl dX8_init_76 ?_
  generalize hh : g_up hv17 m _ = hv18
  have x9 : hv18 m = some (.inr (5, [.int (iN 0), .ref (m + 1 + 0), .ref (m + 1 + 1), .ref (m + 1 + 2), .int (iN 0), .ref (m + 1 + 3), .ref (m + 1 + 4), .int (iN 0), .ref (m + 1 + 5), .ref (m + 1 + 6), .ref (m + 1 + 7), .ref (m + 1 + 8), .long (lI 0), .long (lI 0), .null, .null, .null, .int (iN 0), .int (iN 0), .int (iN 0), .int (iN 0), .int (iN 0), .int (iN 0), .int (iN 0), .int (iN 0), .null, .null, .int (iN 0), .int (iN 0), .null, .null, .null, .null, .int (iN 0), .int (iN 0), .null, .null, .null, .null, .null, .null, .null, .null, .int (iN 0), .int (iN 0)])) := by rw [← hh]; exact g_up_s _ _ _
  replace xa : ∀ i, i < 9 → hv18 (m + 1 + i) = some (arE G i (fun _ => 0)) := fun i hi => by rw [← hh, g_up_n _ _ (by omega)]; exact xa i hi
  replace fr : g_fr m 27 h hv18 := by rw [← hh]; exact fr.up (by omega) (by omega)
  clear hh x
  have x := x9
  clear x9
  refine e_aload_n dX8_init_79 rfl ?_
  refine e_bipush dX8_init_80 (by decide) ?_
  refine e_newarr (t := 0) (N := 64) (A0 := (64, .inl (fun _ => iN 0))) va_int rfl rfl (fun _ => vp_cell_i _ _ _) rfl (fun _ _ w => w) rfl rfl (by decide) rfl rfl dX8_init_82 ?_
  generalize hh : g_up hv18 (m + 1 + 9) _ = hv19
  replace xa := in_arr (j := 9) xa (h1 := hv19) (by rw [← hh]; rfl)
  replace x := (show hv19 m = hv18 m from by rw [← hh]; exact g_up_n _ _ (by omega)).trans x
  replace fr : g_fr m 27 h hv19 := by rw [← hh]; exact fr.up (by omega) (by omega)
  clear hh
  refine (show Ev _ 10 8907 (some (m + 1 + 10)) hv19 _ _ _ from ?_)
  refine e_putF pfX8_42 rfl x rfl rfl rfl dX8_init_84 ?_
  generalize hh : g_up hv19 m _ = hv20
  have x9 : hv20 m = some (.inr (5, [.int (iN 0), .ref (m + 1 + 0), .ref (m + 1 + 1), .ref (m + 1 + 2), .int (iN 0), .ref (m + 1 + 3), .ref (m + 1 + 4), .int (iN 0), .ref (m + 1 + 5), .ref (m + 1 + 6), .ref (m + 1 + 7), .ref (m + 1 + 8), .long (lI 0), .long (lI 0), .ref (m + 1 + 9), .null, .null, .int (iN 0), .int (iN 0), .int (iN 0), .int (iN 0), .int (iN 0), .int (iN 0), .int (iN 0), .int (iN 0), .null, .null, .int (iN 0), .int (iN 0), .null, .null, .null, .null, .int (iN 0), .int (iN 0), .null, .null, .null, .null, .null, .null, .null, .null, .int (iN 0), .int (iN 0)])) := by rw [← hh]; exact g_up_s _ _ _
  replace xa : ∀ i, i < 10 → hv20 (m + 1 + i) = some (arE G i (fun _ => 0)) := fun i hi => by rw [← hh, g_up_n _ _ (by omega)]; exact xa i hi
  replace fr : g_fr m 27 h hv20 := by rw [← hh]; exact fr.up (by omega) (by omega)
  clear hh x
  have x := x9
  clear x9
  refine e_aload_n dX8_init_87 rfl ?_
  refine e_bipush dX8_init_88 (by decide) ?_
  refine e_newarr (t := 0) (N := 64) (A0 := (64, .inl (fun _ => iN 0))) va_int rfl rfl (fun _ => vp_cell_i _ _ _) rfl (fun _ _ w => w) rfl rfl (by decide) rfl rfl dX8_init_90 ?_
  generalize hh : g_up hv20 (m + 1 + 10) _ = hv21
  replace xa := in_arr (j := 10) xa (h1 := hv21) (by rw [← hh]; rfl)
  replace x := (show hv21 m = hv20 m from by rw [← hh]; exact g_up_n _ _ (by omega)).trans x
  replace fr : g_fr m 27 h hv21 := by rw [← hh]; exact fr.up (by omega) (by omega)
  clear hh
  refine (show Ev _ 11 8971 (some (m + 1 + 11)) hv21 _ _ _ from ?_)
  refine e_putF pfX8_45 rfl x rfl rfl rfl dX8_init_92 ?_
  generalize hh : g_up hv21 m _ = hv22
  have x9 : hv22 m = some (.inr (5, [.int (iN 0), .ref (m + 1 + 0), .ref (m + 1 + 1), .ref (m + 1 + 2), .int (iN 0), .ref (m + 1 + 3), .ref (m + 1 + 4), .int (iN 0), .ref (m + 1 + 5), .ref (m + 1 + 6), .ref (m + 1 + 7), .ref (m + 1 + 8), .long (lI 0), .long (lI 0), .ref (m + 1 + 9), .ref (m + 1 + 10), .null, .int (iN 0), .int (iN 0), .int (iN 0), .int (iN 0), .int (iN 0), .int (iN 0), .int (iN 0), .int (iN 0), .null, .null, .int (iN 0), .int (iN 0), .null, .null, .null, .null, .int (iN 0), .int (iN 0), .null, .null, .null, .null, .null, .null, .null, .null, .int (iN 0), .int (iN 0)])) := by rw [← hh]; exact g_up_s _ _ _
  replace xa : ∀ i, i < 11 → hv22 (m + 1 + i) = some (arE G i (fun _ => 0)) := fun i hi => by rw [← hh, g_up_n _ _ (by omega)]; exact xa i hi
  replace fr : g_fr m 27 h hv22 := by rw [← hh]; exact fr.up (by omega) (by omega)
  clear hh x
  have x := x9
  clear x9
  refine e_aload_n dX8_init_95 rfl ?_
  refine e_iconst dX8_init_96 ?_
  refine e_newarr (t := 0) (N := 4) (A0 := (4, .inl (fun _ => iN 0))) va_int rfl rfl (fun _ => vp_cell_i _ _ _) rfl (fun _ _ w => w) rfl rfl (by decide) rfl rfl dX8_init_97 ?_
  generalize hh : g_up hv22 (m + 1 + 11) _ = hv23
  replace xa := in_arr (j := 11) xa (h1 := hv23) (by rw [← hh]; rfl)
  replace x := (show hv23 m = hv22 m from by rw [← hh]; exact g_up_n _ _ (by omega)).trans x
  replace fr : g_fr m 27 h hv23 := by rw [← hh]; exact fr.up (by omega) (by omega)
  clear hh
  refine (show Ev _ 12 8975 (some (m + 1 + 12)) hv23 _ _ _ from ?_)
  refine e_putF pfX8_48 rfl x rfl rfl rfl dX8_init_99 ?_
  generalize hh : g_up hv23 m _ = hv24
  have x9 : hv24 m = some (.inr (5, [.int (iN 0), .ref (m + 1 + 0), .ref (m + 1 + 1), .ref (m + 1 + 2), .int (iN 0), .ref (m + 1 + 3), .ref (m + 1 + 4), .int (iN 0), .ref (m + 1 + 5), .ref (m + 1 + 6), .ref (m + 1 + 7), .ref (m + 1 + 8), .long (lI 0), .long (lI 0), .ref (m + 1 + 9), .ref (m + 1 + 10), .ref (m + 1 + 11), .int (iN 0), .int (iN 0), .int (iN 0), .int (iN 0), .int (iN 0), .int (iN 0), .int (iN 0), .int (iN 0), .null, .null, .int (iN 0), .int (iN 0), .null, .null, .null, .null, .int (iN 0), .int (iN 0), .null, .null, .null, .null, .null, .null, .null, .null, .int (iN 0), .int (iN 0)])) := by rw [← hh]; exact g_up_s _ _ _
  replace xa : ∀ i, i < 12 → hv24 (m + 1 + i) = some (arE G i (fun _ => 0)) := fun i hi => by rw [← hh, g_up_n _ _ (by omega)]; exact xa i hi
  replace fr : g_fr m 27 h hv24 := by rw [← hh]; exact fr.up (by omega) (by omega)
  clear hh x
  have x := x9
  clear x9
  refine e_aload_n dX8_init_102 rfl ?_
  refine e_bipush dX8_init_103 (by decide) ?_
  refine e_newarr (t := 0) (N := 16) (A0 := (16, .inl (fun _ => iN 0))) va_int rfl rfl (fun _ => vp_cell_i _ _ _) rfl (fun _ _ w => w) rfl rfl (by decide) rfl rfl dX8_init_105 ?_
  generalize hh : g_up hv24 (m + 1 + 12) _ = hv25
  replace xa := in_arr (j := 12) xa (h1 := hv25) (by rw [← hh]; rfl)
  replace x := (show hv25 m = hv24 m from by rw [← hh]; exact g_up_n _ _ (by omega)).trans x
  replace fr : g_fr m 27 h hv25 := by rw [← hh]; exact fr.up (by omega) (by omega)
  clear hh
  refine (show Ev _ 13 8991 (some (m + 1 + 13)) hv25 _ _ _ from ?_)
  refine e_putF pfX8_51 rfl x rfl rfl rfl dX8_init_107 ?_
  generalize hh : g_up hv25 m _ = hv26
  have x9 : hv26 m = some (.inr (5, [.int (iN 0), .ref (m + 1 + 0), .ref (m + 1 + 1), .ref (m + 1 + 2), .int (iN 0), .ref (m + 1 + 3), .ref (m + 1 + 4), .int (iN 0), .ref (m + 1 + 5), .ref (m + 1 + 6), .ref (m + 1 + 7), .ref (m + 1 + 8), .long (lI 0), .long (lI 0), .ref (m + 1 + 9), .ref (m + 1 + 10), .ref (m + 1 + 11), .int (iN 0), .int (iN 0), .int (iN 0), .int (iN 0), .int (iN 0), .int (iN 0), .int (iN 0), .int (iN 0), .ref (m + 1 + 12), .null, .int (iN 0), .int (iN 0), .null, .null, .null, .null, .int (iN 0), .int (iN 0), .null, .null, .null, .null, .null, .null, .null, .null, .int (iN 0), .int (iN 0)])) := by rw [← hh]; exact g_up_s _ _ _
  replace xa : ∀ i, i < 13 → hv26 (m + 1 + i) = some (arE G i (fun _ => 0)) := fun i hi => by rw [← hh, g_up_n _ _ (by omega)]; exact xa i hi
  replace fr : g_fr m 27 h hv26 := by rw [← hh]; exact fr.up (by omega) (by omega)
  clear hh x
  have x := x9
  clear x9
  refine e_aload_n dX8_init_110 rfl ?_
  refine e_bipush dX8_init_111 (by decide) ?_
  refine e_newarr (t := 0) (N := 16) (A0 := (16, .inl (fun _ => iN 0))) va_int rfl rfl (fun _ => vp_cell_i _ _ _) rfl (fun _ _ w => w) rfl rfl (by decide) rfl rfl dX8_init_113 ?_
  generalize hh : g_up hv26 (m + 1 + 13) _ = hv27
  replace xa := in_arr (j := 13) xa (h1 := hv27) (by rw [← hh]; rfl)
  replace x := (show hv27 m = hv26 m from by rw [← hh]; exact g_up_n _ _ (by omega)).trans x
  replace fr : g_fr m 27 h hv27 := by rw [← hh]; exact fr.up (by omega) (by omega)
  clear hh
  refine (show Ev _ 14 9007 (some (m + 1 + 14)) hv27 _ _ _ from ?_)
  refine e_putF pfX8_54 rfl x rfl rfl rfl dX8_init_115 ?_
  generalize hh : g_up hv27 m _ = hv28
  have x9 : hv28 m = some (.inr (5, [.int (iN 0), .ref (m + 1 + 0), .ref (m + 1 + 1), .ref (m + 1 + 2), .int (iN 0), .ref (m + 1 + 3), .ref (m + 1 + 4), .int (iN 0), .ref (m + 1 + 5), .ref (m + 1 + 6), .ref (m + 1 + 7), .ref (m + 1 + 8), .long (lI 0), .long (lI 0), .ref (m + 1 + 9), .ref (m + 1 + 10), .ref (m + 1 + 11), .int (iN 0), .int (iN 0), .int (iN 0), .int (iN 0), .int (iN 0), .int (iN 0), .int (iN 0), .int (iN 0), .ref (m + 1 + 12), .ref (m + 1 + 13), .int (iN 0), .int (iN 0), .null, .null, .null, .null, .int (iN 0), .int (iN 0), .null, .null, .null, .null, .null, .null, .null, .null, .int (iN 0), .int (iN 0)])) := by rw [← hh]; exact g_up_s _ _ _
  replace xa : ∀ i, i < 14 → hv28 (m + 1 + i) = some (arE G i (fun _ => 0)) := fun i hi => by rw [← hh, g_up_n _ _ (by omega)]; exact xa i hi
  replace fr : g_fr m 27 h hv28 := by rw [← hh]; exact fr.up (by omega) (by omega)
  clear hh x
  have x := x9
  clear x9
  refine e_aload_n dX8_init_118 rfl ?_
  refine e_bipush dX8_init_119 (by decide) ?_
  refine e_newarr (t := 0) (N := 20) (A0 := (20, .inl (fun _ => iN 0))) va_int rfl rfl (fun _ => vp_cell_i _ _ _) rfl (fun _ _ w => w) rfl rfl (by decide) rfl rfl dX8_init_121 ?_
  generalize hh : g_up hv28 (m + 1 + 14) _ = hv29
  replace xa := in_arr (j := 14) xa (h1 := hv29) (by rw [← hh]; rfl)
  replace x := (show hv29 m = hv28 m from by rw [← hh]; exact g_up_n _ _ (by omega)).trans x
  replace fr : g_fr m 27 h hv29 := by rw [← hh]; exact fr.up (by omega) (by omega)
  clear hh
  refine (show Ev _ 15 9027 (some (m + 1 + 15)) hv29 _ _ _ from ?_)
  refine e_putF pfX8_57 rfl x rfl rfl rfl dX8_init_123 ?_
  generalize hh : g_up hv29 m _ = hv30
  have x9 : hv30 m = some (.inr (5, [.int (iN 0), .ref (m + 1 + 0), .ref (m + 1 + 1), .ref (m + 1 + 2), .int (iN 0), .ref (m + 1 + 3), .ref (m + 1 + 4), .int (iN 0), .ref (m + 1 + 5), .ref (m + 1 + 6), .ref (m + 1 + 7), .ref (m + 1 + 8), .long (lI 0), .long (lI 0), .ref (m + 1 + 9), .ref (m + 1 + 10), .ref (m + 1 + 11), .int (iN 0), .int (iN 0), .int (iN 0), .int (iN 0), .int (iN 0), .int (iN 0), .int (iN 0), .int (iN 0), .ref (m + 1 + 12), .ref (m + 1 + 13), .int (iN 0), .int (iN 0), .ref (m + 1 + 14), .null, .null, .null, .int (iN 0), .int (iN 0), .null, .null, .null, .null, .null, .null, .null, .null, .int (iN 0), .int (iN 0)])) := by rw [← hh]; exact g_up_s _ _ _
  replace xa : ∀ i, i < 15 → hv30 (m + 1 + i) = some (arE G i (fun _ => 0)) := fun i hi => by rw [← hh, g_up_n _ _ (by omega)]; exact xa i hi
  replace fr : g_fr m 27 h hv30 := by rw [← hh]; exact fr.up (by omega) (by omega)
  clear hh x
  have x := x9
  clear x9
  refine e_aload_n dX8_init_126 rfl ?_
  refine e_bipush dX8_init_127 (by decide) ?_
  refine e_newarr (t := 0) (N := 20) (A0 := (20, .inl (fun _ => iN 0))) va_int rfl rfl (fun _ => vp_cell_i _ _ _) rfl (fun _ _ w => w) rfl rfl (by decide) rfl rfl dX8_init_129 ?_
  generalize hh : g_up hv30 (m + 1 + 15) _ = hv31
  replace xa := in_arr (j := 15) xa (h1 := hv31) (by rw [← hh]; rfl)
  replace x := (show hv31 m = hv30 m from by rw [← hh]; exact g_up_n _ _ (by omega)).trans x
  replace fr : g_fr m 27 h hv31 := by rw [← hh]; exact fr.up (by omega) (by omega)
  clear hh
  refine (show Ev _ 16 9047 (some (m + 1 + 16)) hv31 _ _ _ from ?_)
  refine e_putF pfX8_60 rfl x rfl rfl rfl dX8_init_131 ?_
  generalize hh : g_up hv31 m _ = hv32
  have x9 : hv32 m = some (.inr (5, [.int (iN 0), .ref (m + 1 + 0), .ref (m + 1 + 1), .ref (m + 1 + 2), .int (iN 0), .ref (m + 1 + 3), .ref (m + 1 + 4), .int (iN 0), .ref (m + 1 + 5), .ref (m + 1 + 6), .ref (m + 1 + 7), .ref (m + 1 + 8), .long (lI 0), .long (lI 0), .ref (m + 1 + 9), .ref (m + 1 + 10), .ref (m + 1 + 11), .int (iN 0), .int (iN 0), .int (iN 0), .int (iN 0), .int (iN 0), .int (iN 0), .int (iN 0), .int (iN 0), .ref (m + 1 + 12), .ref (m + 1 + 13), .int (iN 0), .int (iN 0), .ref (m + 1 + 14), .ref (m + 1 + 15), .null, .null, .int (iN 0), .int (iN 0), .null, .null, .null, .null, .null, .null, .null, .null, .int (iN 0), .int (iN 0)])) := by rw [← hh]; exact g_up_s _ _ _
  replace xa : ∀ i, i < 16 → hv32 (m + 1 + i) = some (arE G i (fun _ => 0)) := fun i hi => by rw [← hh, g_up_n _ _ (by omega)]; exact xa i hi
  replace fr : g_fr m 27 h hv32 := by rw [← hh]; exact fr.up (by omega) (by omega)
  clear hh x
  have x := x9
  clear x9
  refine e_aload_n dX8_init_134 rfl ?_
  refine e_bipush dX8_init_135 (by decide) ?_
  refine e_newarr (t := 0) (N := 20) (A0 := (20, .inl (fun _ => iN 0))) va_int rfl rfl (fun _ => vp_cell_i _ _ _) rfl (fun _ _ w => w) rfl rfl (by decide) rfl rfl dX8_init_137 ?_
  generalize hh : g_up hv32 (m + 1 + 16) _ = hv33
  replace xa := in_arr (j := 16) xa (h1 := hv33) (by rw [← hh]; rfl)
  replace x := (show hv33 m = hv32 m from by rw [← hh]; exact g_up_n _ _ (by omega)).trans x
  replace fr : g_fr m 27 h hv33 := by rw [← hh]; exact fr.up (by omega) (by omega)
  clear hh
  refine (show Ev _ 17 9067 (some (m + 1 + 17)) hv33 _ _ _ from ?_)
  refine e_putF pfX8_63 rfl x rfl rfl rfl dX8_init_139 ?_
  generalize hh : g_up hv33 m _ = hv34
  have x9 : hv34 m = some (.inr (5, [.int (iN 0), .ref (m + 1 + 0), .ref (m + 1 + 1), .ref (m + 1 + 2), .int (iN 0), .ref (m + 1 + 3), .ref (m + 1 + 4), .int (iN 0), .ref (m + 1 + 5), .ref (m + 1 + 6), .ref (m + 1 + 7), .ref (m + 1 + 8), .long (lI 0), .long (lI 0), .ref (m + 1 + 9), .ref (m + 1 + 10), .ref (m + 1 + 11), .int (iN 0), .int (iN 0), .int (iN 0), .int (iN 0), .int (iN 0), .int (iN 0), .int (iN 0), .int (iN 0), .ref (m + 1 + 12), .ref (m + 1 + 13), .int (iN 0), .int (iN 0), .ref (m + 1 + 14), .ref (m + 1 + 15), .ref (m + 1 + 16), .null, .int (iN 0), .int (iN 0), .null, .null, .null, .null, .null, .null, .null, .null, .int (iN 0), .int (iN 0)])) := by rw [← hh]; exact g_up_s _ _ _
  replace xa : ∀ i, i < 17 → hv34 (m + 1 + i) = some (arE G i (fun _ => 0)) := fun i hi => by rw [← hh, g_up_n _ _ (by omega)]; exact xa i hi
  replace fr : g_fr m 27 h hv34 := by rw [← hh]; exact fr.up (by omega) (by omega)
  clear hh x
  have x := x9
  clear x9
  refine e_aload_n dX8_init_142 rfl ?_
  refine e_bipush dX8_init_143 (by decide) ?_
  refine e_newarr (t := 0) (N := 20) (A0 := (20, .inl (fun _ => iN 0))) va_int rfl rfl (fun _ => vp_cell_i _ _ _) rfl (fun _ _ w => w) rfl rfl (by decide) rfl rfl dX8_init_145 ?_
  generalize hh : g_up hv34 (m + 1 + 17) _ = hv35
  replace xa := in_arr (j := 17) xa (h1 := hv35) (by rw [← hh]; rfl)
  replace x := (show hv35 m = hv34 m from by rw [← hh]; exact g_up_n _ _ (by omega)).trans x
  replace fr : g_fr m 27 h hv35 := by rw [← hh]; exact fr.up (by omega) (by omega)
  clear hh
  refine (show Ev _ 18 9087 (some (m + 1 + 18)) hv35 _ _ _ from ?_)
  refine e_putF pfX8_66 rfl x rfl rfl rfl dX8_init_147 ?_
  generalize hh : g_up hv35 m _ = hv36
  have x9 : hv36 m = some (.inr (5, [.int (iN 0), .ref (m + 1 + 0), .ref (m + 1 + 1), .ref (m + 1 + 2), .int (iN 0), .ref (m + 1 + 3), .ref (m + 1 + 4), .int (iN 0), .ref (m + 1 + 5), .ref (m + 1 + 6), .ref (m + 1 + 7), .ref (m + 1 + 8), .long (lI 0), .long (lI 0), .ref (m + 1 + 9), .ref (m + 1 + 10), .ref (m + 1 + 11), .int (iN 0), .int (iN 0), .int (iN 0), .int (iN 0), .int (iN 0), .int (iN 0), .int (iN 0), .int (iN 0), .ref (m + 1 + 12), .ref (m + 1 + 13), .int (iN 0), .int (iN 0), .ref (m + 1 + 14), .ref (m + 1 + 15), .ref (m + 1 + 16), .ref (m + 1 + 17), .int (iN 0), .int (iN 0), .null, .null, .null, .null, .null, .null, .null, .null, .int (iN 0), .int (iN 0)])) := by rw [← hh]; exact g_up_s _ _ _
  replace xa : ∀ i, i < 18 → hv36 (m + 1 + i) = some (arE G i (fun _ => 0)) := fun i hi => by rw [← hh, g_up_n _ _ (by omega)]; exact xa i hi
  replace fr : g_fr m 27 h hv36 := by rw [← hh]; exact fr.up (by omega) (by omega)
  clear hh x
  have x := x9
  clear x9
  refine e_aload_n dX8_init_150 rfl ?_
  refine e_bipush dX8_init_151 (by decide) ?_
  refine e_newarr (t := 0) (N := 60) (A0 := (60, .inl (fun _ => iN 0))) va_int rfl rfl (fun _ => vp_cell_i _ _ _) rfl (fun _ _ w => w) rfl rfl (by decide) rfl rfl dX8_init_153 ?_
  generalize hh : g_up hv36 (m + 1 + 18) _ = hv37
  replace xa := in_arr (j := 18) xa (h1 := hv37) (by rw [← hh]; rfl)
  replace x := (show hv37 m = hv36 m from by rw [← hh]; exact g_up_n _ _ (by omega)).trans x
  replace fr : g_fr m 27 h hv37 := by rw [← hh]; exact fr.up (by omega) (by omega)
  clear hh
  refine (show Ev _ 19 9147 (some (m + 1 + 19)) hv37 _ _ _ from ?_)
  refine e_putF pfX8_69 rfl x rfl rfl rfl dX8_init_155 ?_
  generalize hh : g_up hv37 m _ = hv38
  have x9 : hv38 m = some (.inr (5, [.int (iN 0), .ref (m + 1 + 0), .ref (m + 1 + 1), .ref (m + 1 + 2), .int (iN 0), .ref (m + 1 + 3), .ref (m + 1 + 4), .int (iN 0), .ref (m + 1 + 5), .ref (m + 1 + 6), .ref (m + 1 + 7), .ref (m + 1 + 8), .long (lI 0), .long (lI 0), .ref (m + 1 + 9), .ref (m + 1 + 10), .ref (m + 1 + 11), .int (iN 0), .int (iN 0), .int (iN 0), .int (iN 0), .int (iN 0), .int (iN 0), .int (iN 0), .int (iN 0), .ref (m + 1 + 12), .ref (m + 1 + 13), .int (iN 0), .int (iN 0), .ref (m + 1 + 14), .ref (m + 1 + 15), .ref (m + 1 + 16), .ref (m + 1 + 17), .int (iN 0), .int (iN 0), .ref (m + 1 + 18), .null, .null, .null, .null, .null, .null, .null, .int (iN 0), .int (iN 0)])) := by rw [← hh]; exact g_up_s _ _ _
  replace xa : ∀ i, i < 19 → hv38 (m + 1 + i) = some (arE G i (fun _ => 0)) := fun i hi => by rw [← hh, g_up_n _ _ (by omega)]; exact xa i hi
  replace fr : g_fr m 27 h hv38 := by rw [← hh]; exact fr.up (by omega) (by omega)
  clear hh x
  have x := x9
  clear x9
  refine e_aload_n dX8_init_158 rfl ?_
  refine e_bipush dX8_init_159 (by decide) ?_
  refine e_newarr (t := 0) (N := 60) (A0 := (60, .inl (fun _ => iN 0))) va_int rfl rfl (fun _ => vp_cell_i _ _ _) rfl (fun _ _ w => w) rfl rfl (by decide) rfl rfl dX8_init_161 ?_
  generalize hh : g_up hv38 (m + 1 + 19) _ = hv39
  replace xa := in_arr (j := 19) xa (h1 := hv39) (by rw [← hh]; rfl)
  replace x := (show hv39 m = hv38 m from by rw [← hh]; exact g_up_n _ _ (by omega)).trans x
  replace fr : g_fr m 27 h hv39 := by rw [← hh]; exact fr.up (by omega) (by omega)
  clear hh
  refine (show Ev _ 20 9207 (some (m + 1 + 20)) hv39 _ _ _ from ?_)
  refine e_putF pfX8_72 rfl x rfl rfl rfl dX8_init_163 ?_
  generalize hh : g_up hv39 m _ = hv40
  have x9 : hv40 m = some (.inr (5, [.int (iN 0), .ref (m + 1 + 0), .ref (m + 1 + 1), .ref (m + 1 + 2), .int (iN 0), .ref (m + 1 + 3), .ref (m + 1 + 4), .int (iN 0), .ref (m + 1 + 5), .ref (m + 1 + 6), .ref (m + 1 + 7), .ref (m + 1 + 8), .long (lI 0), .long (lI 0), .ref (m + 1 + 9), .ref (m + 1 + 10), .ref (m + 1 + 11), .int (iN 0), .int (iN 0), .int (iN 0), .int (iN 0), .int (iN 0), .int (iN 0), .int (iN 0), .int (iN 0), .ref (m + 1 + 12), .ref (m + 1 + 13), .int (iN 0), .int (iN 0), .ref (m + 1 + 14), .ref (m + 1 + 15), .ref (m + 1 + 16), .ref (m + 1 + 17), .int (iN 0), .int (iN 0), .ref (m + 1 + 18), .ref (m + 1 + 19), .null, .null, .null, .null, .null, .null, .int (iN 0), .int (iN 0)])) := by rw [← hh]; exact g_up_s _ _ _
  replace xa : ∀ i, i < 20 → hv40 (m + 1 + i) = some (arE G i (fun _ => 0)) := fun i hi => by rw [← hh, g_up_n _ _ (by omega)]; exact xa i hi
  replace fr : g_fr m 27 h hv40 := by rw [← hh]; exact fr.up (by omega) (by omega)
  clear hh x
  have x := x9
  clear x9
  refine e_aload_n dX8_init_166 rfl ?_
  refine e_bipush dX8_init_167 (by decide) ?_
  refine e_newarr (t := 0) (N := 60) (A0 := (60, .inl (fun _ => iN 0))) va_int rfl rfl (fun _ => vp_cell_i _ _ _) rfl (fun _ _ w => w) rfl rfl (by decide) rfl rfl dX8_init_169 ?_
  generalize hh : g_up hv40 (m + 1 + 20) _ = hv41
  replace xa := in_arr (j := 20) xa (h1 := hv41) (by rw [← hh]; rfl)
  replace x := (show hv41 m = hv40 m from by rw [← hh]; exact g_up_n _ _ (by omega)).trans x
  replace fr : g_fr m 27 h hv41 := by rw [← hh]; exact fr.up (by omega) (by omega)
  clear hh
  refine (show Ev _ 21 9267 (some (m + 1 + 21)) hv41 _ _ _ from ?_)
  refine e_putF pfX8_75 rfl x rfl rfl rfl dX8_init_171 ?_
  generalize hh : g_up hv41 m _ = hv42
  have x9 : hv42 m = some (.inr (5, [.int (iN 0), .ref (m + 1 + 0), .ref (m + 1 + 1), .ref (m + 1 + 2), .int (iN 0), .ref (m + 1 + 3), .ref (m + 1 + 4), .int (iN 0), .ref (m + 1 + 5), .ref (m + 1 + 6), .ref (m + 1 + 7), .ref (m + 1 + 8), .long (lI 0), .long (lI 0), .ref (m + 1 + 9), .ref (m + 1 + 10), .ref (m + 1 + 11), .int (iN 0), .int (iN 0), .int (iN 0), .int (iN 0), .int (iN 0), .int (iN 0), .int (iN 0), .int (iN 0), .ref (m + 1 + 12), .ref (m + 1 + 13), .int (iN 0), .int (iN 0), .ref (m + 1 + 14), .ref (m + 1 + 15), .ref (m + 1 + 16), .ref (m + 1 + 17), .int (iN 0), .int (iN 0), .ref (m + 1 + 18), .ref (m + 1 + 19), .ref (m + 1 + 20), .null, .null, .null, .null, .null, .int (iN 0), .int (iN 0)])) := by rw [← hh]; exact g_up_s _ _ _
  replace xa : ∀ i, i < 21 → hv42 (m + 1 + i) = some (arE G i (fun _ => 0)) := fun i hi => by rw [← hh, g_up_n _ _ (by omega)]; exact xa i hi
  replace fr : g_fr m 27 h hv42 := by rw [← hh]; exact fr.up (by omega) (by omega)
  clear hh x
  have x := x9
  clear x9
  refine e_aload_n dX8_init_174 rfl ?_
  refine e_bipush dX8_init_175 (by decide) ?_
  refine e_newarr (t := 0) (N := 60) (A0 := (60, .inl (fun _ => iN 0))) va_int rfl rfl (fun _ => vp_cell_i _ _ _) rfl (fun _ _ w => w) rfl rfl (by decide) rfl rfl dX8_init_177 ?_
  generalize hh : g_up hv42 (m + 1 + 21) _ = hv43
  replace xa := in_arr (j := 21) xa (h1 := hv43) (by rw [← hh]; rfl)
  replace x := (show hv43 m = hv42 m from by rw [← hh]; exact g_up_n _ _ (by omega)).trans x
  replace fr : g_fr m 27 h hv43 := by rw [← hh]; exact fr.up (by omega) (by omega)
  clear hh
  refine (show Ev _ 22 9327 (some (m + 1 + 22)) hv43 _ _ _ from ?_)
  refine e_putF pfX8_78 rfl x rfl rfl rfl dX8_init_179 ?_
  generalize hh : g_up hv43 m _ = hv44
  have x9 : hv44 m = some (.inr (5, [.int (iN 0), .ref (m + 1 + 0), .ref (m + 1 + 1), .ref (m + 1 + 2), .int (iN 0), .ref (m + 1 + 3), .ref (m + 1 + 4), .int (iN 0), .ref (m + 1 + 5), .ref (m + 1 + 6), .ref (m + 1 + 7), .ref (m + 1 + 8), .long (lI 0), .long (lI 0), .ref (m + 1 + 9), .ref (m + 1 + 10), .ref (m + 1 + 11), .int (iN 0), .int (iN 0), .int (iN 0), .int (iN 0), .int (iN 0), .int (iN 0), .int (iN 0), .int (iN 0), .ref (m + 1 + 12), .ref (m + 1 + 13), .int (iN 0), .int (iN 0), .ref (m + 1 + 14), .ref (m + 1 + 15), .ref (m + 1 + 16), .ref (m + 1 + 17), .int (iN 0), .int (iN 0), .ref (m + 1 + 18), .ref (m + 1 + 19), .ref (m + 1 + 20), .ref (m + 1 + 21), .null, .null, .null, .null, .int (iN 0), .int (iN 0)])) := by rw [← hh]; exact g_up_s _ _ _
  replace xa : ∀ i, i < 22 → hv44 (m + 1 + i) = some (arE G i (fun _ => 0)) := fun i hi => by rw [← hh, g_up_n _ _ (by omega)]; exact xa i hi
  replace fr : g_fr m 27 h hv44 := by rw [← hh]; exact fr.up (by omega) (by omega)
  clear hh x
  have x := x9
  clear x9
  refine e_aload_n dX8_init_182 rfl ?_
  refine e_bipush dX8_init_183 (by decide) ?_
  refine e_newarr (t := 0) (N := 64) (A0 := (64, .inl (fun _ => iN 0))) va_int rfl rfl (fun _ => vp_cell_i _ _ _) rfl (fun _ _ w => w) rfl rfl (by decide) rfl rfl dX8_init_185 ?_
  generalize hh : g_up hv44 (m + 1 + 22) _ = hv45
  replace xa := in_arr (j := 22) xa (h1 := hv45) (by rw [← hh]; rfl)
  replace x := (show hv45 m = hv44 m from by rw [← hh]; exact g_up_n _ _ (by omega)).trans x
  replace fr : g_fr m 27 h hv45 := by rw [← hh]; exact fr.up (by omega) (by omega)
  clear hh
  refine (show Ev _ 23 9391 (some (m + 1 + 23)) hv45 _ _ _ from ?_)
  refine e_putF pfX8_81 rfl x rfl rfl rfl dX8_init_187 ?_
  generalize hh : g_up hv45 m _ = hv46
  have x9 : hv46 m = some (.inr (5, [.int (iN 0), .ref (m + 1 + 0), .ref (m + 1 + 1), .ref (m + 1 + 2), .int (iN 0), .ref (m + 1 + 3), .ref (m + 1 + 4), .int (iN 0), .ref (m + 1 + 5), .ref (m + 1 + 6), .ref (m + 1 + 7), .ref (m + 1 + 8), .long (lI 0), .long (lI 0), .ref (m + 1 + 9), .ref (m + 1 + 10), .ref (m + 1 + 11), .int (iN 0), .int (iN 0), .int (iN 0), .int (iN 0), .int (iN 0), .int (iN 0), .int (iN 0), .int (iN 0), .ref (m + 1 + 12), .ref (m + 1 + 13), .int (iN 0), .int (iN 0), .ref (m + 1 + 14), .ref (m + 1 + 15), .ref (m + 1 + 16), .ref (m + 1 + 17), .int (iN 0), .int (iN 0), .ref (m + 1 + 18), .ref (m + 1 + 19), .ref (m + 1 + 20), .ref (m + 1 + 21), .ref (m + 1 + 22), .null, .null, .null, .int (iN 0), .int (iN 0)])) := by rw [← hh]; exact g_up_s _ _ _
  replace xa : ∀ i, i < 23 → hv46 (m + 1 + i) = some (arE G i (fun _ => 0)) := fun i hi => by rw [← hh, g_up_n _ _ (by omega)]; exact xa i hi
  replace fr : g_fr m 27 h hv46 := by rw [← hh]; exact fr.up (by omega) (by omega)
  clear hh x
  have x := x9
  clear x9
  refine e_aload_n dX8_init_190 rfl ?_
  refine e_bipush dX8_init_191 (by decide) ?_
  refine e_newarr (t := 0) (N := 64) (A0 := (64, .inl (fun _ => iN 0))) va_int rfl rfl (fun _ => vp_cell_i _ _ _) rfl (fun _ _ w => w) rfl rfl (by decide) rfl rfl dX8_init_193 ?_
  generalize hh : g_up hv46 (m + 1 + 23) _ = hv47
  replace xa := in_arr (j := 23) xa (h1 := hv47) (by rw [← hh]; rfl)
  replace x := (show hv47 m = hv46 m from by rw [← hh]; exact g_up_n _ _ (by omega)).trans x
  replace fr : g_fr m 27 h hv47 := by rw [← hh]; exact fr.up (by omega) (by omega)
  clear hh
  refine (show Ev _ 24 9455 (some (m + 1 + 24)) hv47 _ _ _ from ?_)
  refine e_putF pfX8_84 rfl x rfl rfl rfl dX8_init_195 ?_
  generalize hh : g_up hv47 m _ = hv48
  have x9 : hv48 m = some (.inr (5, [.int (iN 0), .ref (m + 1 + 0), .ref (m + 1 + 1), .ref (m + 1 + 2), .int (iN 0), .ref (m + 1 + 3), .ref (m + 1 + 4), .int (iN 0), .ref (m + 1 + 5), .ref (m + 1 + 6), .ref (m + 1 + 7), .ref (m + 1 + 8), .long (lI 0), .long (lI 0), .ref (m + 1 + 9), .ref (m + 1 + 10), .ref (m + 1 + 11), .int (iN 0), .int (iN 0), .int (iN 0), .int (iN 0), .int (iN 0), .int (iN 0), .int (iN 0), .int (iN 0), .ref (m + 1 + 12), .ref (m + 1 + 13), .int (iN 0), .int (iN 0), .ref (m + 1 + 14), .ref (m + 1 + 15), .ref (m + 1 + 16), .ref (m + 1 + 17), .int (iN 0), .int (iN 0), .ref (m + 1 + 18), .ref (m + 1 + 19), .ref (m + 1 + 20), .ref (m + 1 + 21), .ref (m + 1 + 22), .ref (m + 1 + 23), .null, .null, .int (iN 0), .int (iN 0)])) := by rw [← hh]; exact g_up_s _ _ _
  replace xa : ∀ i, i < 24 → hv48 (m + 1 + i) = some (arE G i (fun _ => 0)) := fun i hi => by rw [← hh, g_up_n _ _ (by omega)]; exact xa i hi
  replace fr : g_fr m 27 h hv48 := by rw [← hh]; exact fr.up (by omega) (by omega)
  clear hh x
  have x := x9
  clear x9
  refine e_aload_n dX8_init_198 rfl ?_
  refine e_iconst dX8_init_199 ?_
  refine e_newarr (t := 0) (N := 4) (A0 := (4, .inl (fun _ => iN 0))) va_int rfl rfl (fun _ => vp_cell_i _ _ _) rfl (fun _ _ w => w) rfl rfl (by decide) rfl rfl dX8_init_200 ?_
  generalize hh : g_up hv48 (m + 1 + 24) _ = hv49
  replace xa := in_arr (j := 24) xa (h1 := hv49) (by rw [← hh]; rfl)
  replace x := (show hv49 m = hv48 m from by rw [← hh]; exact g_up_n _ _ (by omega)).trans x
  replace fr : g_fr m 27 h hv49 := by rw [← hh]; exact fr.up (by omega) (by omega)
  clear hh
  refine (show Ev _ 25 9459 (some (m + 1 + 25)) hv49 _ _ _ from ?_)
  refine e_putF pfX8_87 rfl x rfl rfl rfl dX8_init_202 ?_
  generalize hh : g_up hv49 m _ = hv50
  have x9 : hv50 m = some (.inr (5, [.int (iN 0), .ref (m + 1 + 0), .ref (m + 1 + 1), .ref (m + 1 + 2), .int (iN 0), .ref (m + 1 + 3), .ref (m + 1 + 4), .int (iN 0), .ref (m + 1 + 5), .ref (m + 1 + 6), .ref (m + 1 + 7), .ref (m + 1 + 8), .long (lI 0), .long (lI 0), .ref (m + 1 + 9), .ref (m + 1 + 10), .ref (m + 1 + 11), .int (iN 0), .int (iN 0), .int (iN 0), .int (iN 0), .int (iN 0), .int (iN 0), .int (iN 0), .int (iN 0), .ref (m + 1 + 12), .ref (m + 1 + 13), .int (iN 0), .int (iN 0), .ref (m + 1 + 14), .ref (m + 1 + 15), .ref (m + 1 + 16), .ref (m + 1 + 17), .int (iN 0), .int (iN 0), .ref (m + 1 + 18), .ref (m + 1 + 19), .ref (m + 1 + 20), .ref (m + 1 + 21), .ref (m + 1 + 22), .ref (m + 1 + 23), .ref (m + 1 + 24), .null, .int (iN 0), .int (iN 0)])) := by rw [← hh]; exact g_up_s _ _ _
  replace xa : ∀ i, i < 25 → hv50 (m + 1 + i) = some (arE G i (fun _ => 0)) := fun i hi => by rw [← hh, g_up_n _ _ (by omega)]; exact xa i hi
  replace fr : g_fr m 27 h hv50 := by rw [← hh]; exact fr.up (by omega) (by omega)
  clear hh x
  have x := x9
  clear x9
  refine e_aload_n dX8_init_205 rfl ?_
  refine e_bipush dX8_init_206 (by decide) ?_
  refine e_newarr (t := 0) (N := 80) (A0 := (80, .inl (fun _ => iN 0))) va_int rfl rfl (fun _ => vp_cell_i _ _ _) rfl (fun _ _ w => w) rfl rfl (by decide) rfl rfl dX8_init_208 ?_
  generalize hh : g_up hv50 (m + 1 + 25) _ = hv51
  replace xa := in_arr (j := 25) xa (h1 := hv51) (by rw [← hh]; rfl)
  replace x := (show hv51 m = hv50 m from by rw [← hh]; exact g_up_n _ _ (by omega)).trans x
  replace fr : g_fr m 27 h hv51 := by rw [← hh]; exact fr.up (by omega) (by omega)
  clear hh
  refine (show Ev _ 26 9539 (some (m + 1 + 26)) hv51 _ _ _ from ?_)
  refine e_putF pfX8_90 rfl x rfl rfl rfl dX8_init_210 ?_
  generalize hh : g_up hv51 m _ = hv52
  have x9 : hv52 m = some (.inr (5, [.int (iN 0), .ref (m + 1 + 0), .ref (m + 1 + 1), .ref (m + 1 + 2), .int (iN 0), .ref (m + 1 + 3), .ref (m + 1 + 4), .int (iN 0), .ref (m + 1 + 5), .ref (m + 1 + 6), .ref (m + 1 + 7), .ref (m + 1 + 8), .long (lI 0), .long (lI 0), .ref (m + 1 + 9), .ref (m + 1 + 10), .ref (m + 1 + 11), .int (iN 0), .int (iN 0), .int (iN 0), .int (iN 0), .int (iN 0), .int (iN 0), .int (iN 0), .int (iN 0), .ref (m + 1 + 12), .ref (m + 1 + 13), .int (iN 0), .int (iN 0), .ref (m + 1 + 14), .ref (m + 1 + 15), .ref (m + 1 + 16), .ref (m + 1 + 17), .int (iN 0), .int (iN 0), .ref (m + 1 + 18), .ref (m + 1 + 19), .ref (m + 1 + 20), .ref (m + 1 + 21), .ref (m + 1 + 22), .ref (m + 1 + 23), .ref (m + 1 + 24), .ref (m + 1 + 25), .int (iN 0), .int (iN 0)])) := by rw [← hh]; exact g_up_s _ _ _
  replace xa : ∀ i, i < 26 → hv52 (m + 1 + i) = some (arE G i (fun _ => 0)) := fun i hi => by rw [← hh, g_up_n _ _ (by omega)]; exact xa i hi
  replace fr : g_fr m 27 h hv52 := by rw [← hh]; exact fr.up (by omega) (by omega)
  clear hh x
  have x := x9
  clear x9
  refine e_aload_n dX8_init_213 rfl ?_
  refine e_iconst dX8_init_214 ?_
  refine e_putf pfX8_93 x rfl rfl rfl dX8_init_215 ?_
  generalize hh : g_up hv52 m _ = hv53
  have x9 : hv53 m = some (.inr (5, [.int (iN 0), .ref (m + 1 + 0), .ref (m + 1 + 1), .ref (m + 1 + 2), .int (iN 0), .ref (m + 1 + 3), .ref (m + 1 + 4), .int (iN 0), .ref (m + 1 + 5), .ref (m + 1 + 6), .ref (m + 1 + 7), .ref (m + 1 + 8), .long (lI 0), .long (lI 0), .ref (m + 1 + 9), .ref (m + 1 + 10), .ref (m + 1 + 11), .int (iN 0), .int (iN 0), .int (iN 0), .int (iN 0), .int (iN 0), .int (iN 0), .int (iN 0), .int (iN 0), .ref (m + 1 + 12), .ref (m + 1 + 13), .int (iN 0), .int (iN 0), .ref (m + 1 + 14), .ref (m + 1 + 15), .ref (m + 1 + 16), .ref (m + 1 + 17), .int (iN 0), .int (iN 0), .ref (m + 1 + 18), .ref (m + 1 + 19), .ref (m + 1 + 20), .ref (m + 1 + 21), .ref (m + 1 + 22), .ref (m + 1 + 23), .ref (m + 1 + 24), .ref (m + 1 + 25), .int (iN (-1)), .int (iN 0)])) := by rw [← hh]; exact g_up_s _ _ _
  replace xa : ∀ i, i < 26 → hv53 (m + 1 + i) = some (arE G i (fun _ => 0)) := fun i hi => by rw [← hh, g_up_n _ _ (by omega)]; exact xa i hi
  replace fr : g_fr m 27 h hv53 := by rw [← hh]; exact fr.up (by omega) (by omega)
  clear hh x
  have x := x9
  clear x9
  refine e_vret rfl dX8_init_218 (by decide) (by decide) ?_
  exact ⟨rfl, rfl, x, xa, fr⟩
/-- a fresh object of the reference stands to a fresh one of the class as it should -/
theorem mdR_new : mdR sc00 (fun _ _ => 0) [] [] (fun _ => []) 0 [] [] (fun _ => []) [] :=
  ⟨⟨rfl, Nat.zero_le _, fun i hi => absurd hi (Nat.not_lt_zero _), fun i hi => absurd hi (Nat.not_lt_zero _)⟩, ⟨rfl, rfl, Nat.zero_le _, fun i hi => absurd hi (Nat.not_lt_zero _), fun i hi => absurd hi (Nat.not_lt_zero _)⟩, fun _ _ => ⟨rfl, Nat.zero_le _, fun i hi => absurd hi (Nat.not_lt_zero _), fun i hi => absurd hi (Nat.not_lt_zero _)⟩, ⟨Or.inl rfl, fun _ => rfl, fun w => absurd w (by decide)⟩, rfl, Nat.zero_le _, fun i hi => absurd hi (Nat.not_lt_zero _), fun i hi => absurd hi (Nat.not_lt_zero _)⟩
end MINIT
