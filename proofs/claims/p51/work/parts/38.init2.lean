/-! What is made: yards, partings, censuses, the object itself -/
section PINIT2
variable {G : g_X} {h : g_hp}
set_option maxRecDepth 20000 in
theorem S_yardInit {y : Nat} (h0 : h y = some (.inr (3, blX6))) : Mk G mX6_init [.ref y] (y + 1) h 29 524 (fun h1 => yardAt G [] [] (fun _ => []) y h1 ∧ g_fr y 30 h h1) := by
  have x := h0
  have fr : g_fr y 30 h h := g_fr.rf
  refine run_of rfl plX6 rfl ?_
  refine e_aload_n dX6_init_0 rfl ?_
  refine e_objInit ob_X6_3 ob_2 ob_3 rfl rfl dX6_init_1 ?_
  refine e_aload_n dX6_init_4 rfl ?_
  refine e_new kX4 vl_X6_9 vn_Row vi_Row dfX4 rfl rfl dX6_init_5 ?_
  refine (show Ev _ 1 4 (some (y + 2)) _ _ _ _ from ?_)
  refine e_dup dX6_init_8 rfl ?_
  refine e_bipush dX6_init_9 (by decide) ?_
  refine e_mkI qcX6_11 (S_rowInit (N := 60) (by omega) (g_up_s _ _ _)) rfl rfl rfl rfl dX6_init_11 ?_
  intro hv1 q9
  obtain ⟨g9, f9⟩ := q9
  have f8 : g_fr (y + 1) 4 h hv1 := (g_fr.rf.up (Nat.le_refl _) (by omega)).tr f9
  clear f9
  replace x := (f8 _ (by omega)).trans x
  replace fr := fr.tr (f8.wd (by omega) (by omega))
  have r1 := g9
  clear g9 f8
  refine (show Ev _ 4 184 (some (y + 5)) hv1 _ _ _ from ?_)
  refine e_putF pfX6_14 rfl x rfl rfl rfl dX6_init_14 ?_
  generalize hh : g_up hv1 y _ = hv2
  have x9 : hv2 y = some (.inr (3, [.ref (y + 1), .null, .null, .null])) := by rw [← hh]; exact g_up_s _ _ _
  have f8 : g_fr y 1 hv1 hv2 := by rw [← hh]; exact g_fr.rf.up (Nat.le_refl _) (by omega)
  clear hh
  replace r1 := r1.off f8 (by omega)
  replace fr := fr.tr (f8.wd (by omega) (by omega))
  replace x := x9
  clear x9 f8
  refine e_aload_n dX6_init_17 rfl ?_
  refine e_new kX4 vl_X6_9 vn_Row vi_Row dfX4 rfl rfl dX6_init_18 ?_
  refine (show Ev _ 5 188 (some (y + 6)) _ _ _ _ from ?_)
  refine e_dup dX6_init_21 rfl ?_
  refine e_bipush dX6_init_22 (by decide) ?_
  refine e_mkI qcX6_11 (S_rowInit (N := 40) (by omega) (g_up_s _ _ _)) rfl rfl rfl rfl dX6_init_24 ?_
  intro hv3 q9
  obtain ⟨g9, f9⟩ := q9
  have f8 : g_fr (y + 5) 4 hv2 hv3 := (g_fr.rf.up (Nat.le_refl _) (by omega)).tr f9
  clear f9
  replace x := (f8 _ (by omega)).trans x
  replace r1 := r1.off f8 (by omega)
  replace fr := fr.tr (f8.wd (by omega) (by omega))
  have r2 := g9
  clear g9 f8
  refine (show Ev _ 8 308 (some (y + 9)) hv3 _ _ _ from ?_)
  refine e_putF pfX6_20 rfl x rfl rfl rfl dX6_init_27 ?_
  generalize hh : g_up hv3 y _ = hv4
  have x9 : hv4 y = some (.inr (3, [.ref (y + 1), .ref (y + 5), .null, .null])) := by rw [← hh]; exact g_up_s _ _ _
  have f8 : g_fr y 1 hv3 hv4 := by rw [← hh]; exact g_fr.rf.up (Nat.le_refl _) (by omega)
  clear hh
  replace r1 := r1.off f8 (by omega)
  replace r2 := r2.off f8 (by omega)
  replace fr := fr.tr (f8.wd (by omega) (by omega))
  replace x := x9
  clear x9 f8
  refine e_aload_n dX6_init_30 rfl ?_
  refine e_iconst dX6_init_31 ?_
  refine e_anewarr (N := 4) vl_X6_9 rfl rfl rfl rfl dX6_init_32 ?_
  generalize hh : g_up hv4 (y + 9) _ = hv5
  have x9 : hv5 (y + 9) = some (aQ G 4 (fun _ => none)) := by rw [← hh]; exact g_up_s _ _ _
  have f8 : g_fr (y + 9) 1 hv4 hv5 := by rw [← hh]; exact g_fr.rf.up (Nat.le_refl _) (by omega)
  clear hh
  replace x := (f8 _ (by omega)).trans x
  replace r1 := r1.off f8 (by omega)
  replace r2 := r2.off f8 (by omega)
  replace fr := fr.tr (f8.wd (by omega) (by omega))
  have qa := x9
  clear x9 f8
  refine (show Ev _ 9 312 (some (y + 10)) hv5 _ _ _ from ?_)
  refine e_putF pfX6_23 rfl x rfl rfl rfl dX6_init_35 ?_
  generalize hh : g_up hv5 y _ = hv6
  have x9 : hv6 y = some (.inr (3, [.ref (y + 1), .ref (y + 5), .ref (y + 9), .null])) := by rw [← hh]; exact g_up_s _ _ _
  have f8 : g_fr y 1 hv5 hv6 := by rw [← hh]; exact g_fr.rf.up (Nat.le_refl _) (by omega)
  clear hh
  replace qa := (f8 _ (by omega)).trans qa
  replace r1 := r1.off f8 (by omega)
  replace r2 := r2.off f8 (by omega)
  replace fr := fr.tr (f8.wd (by omega) (by omega))
  replace x := x9
  clear x9 f8
  refine e_aload_n dX6_init_38 rfl ?_
  refine e_new kX4 vl_X6_9 vn_Row vi_Row dfX4 rfl rfl dX6_init_39 ?_
  refine (show Ev _ 10 316 (some (y + 11)) _ _ _ _ from ?_)
  refine e_dup dX6_init_42 rfl ?_
  refine e_iconst dX6_init_43 ?_
  refine e_mkI qcX6_11 (S_rowInit (N := 0) (by omega) (g_up_s _ _ _)) rfl rfl rfl rfl dX6_init_44 ?_
  intro hv7 q9
  obtain ⟨g9, f9⟩ := q9
  have f8 : g_fr (y + 10) 4 hv6 hv7 := (g_fr.rf.up (Nat.le_refl _) (by omega)).tr f9
  clear f9
  replace x := (f8 _ (by omega)).trans x
  replace qa := (f8 _ (by omega)).trans qa
  replace r1 := r1.off f8 (by omega)
  replace r2 := r2.off f8 (by omega)
  replace fr := fr.tr (f8.wd (by omega) (by omega))
  have r3 := g9
  clear g9 f8
  refine (show Ev _ 13 316 (some (y + 14)) hv7 _ _ _ from ?_)
  refine e_putF pfX6_27 rfl x rfl rfl rfl dX6_init_47 ?_
  generalize hh : g_up hv7 y _ = hv8
  have x9 : hv8 y = some (.inr (3, [.ref (y + 1), .ref (y + 5), .ref (y + 9), .ref (y + 10)])) := by rw [← hh]; exact g_up_s _ _ _
  have f8 : g_fr y 1 hv7 hv8 := by rw [← hh]; exact g_fr.rf.up (Nat.le_refl _) (by omega)
  clear hh
  replace qa := (f8 _ (by omega)).trans qa
  replace r1 := r1.off f8 (by omega)
  replace r2 := r2.off f8 (by omega)
  replace r3 := r3.off f8 (by omega)
  replace fr := fr.tr (f8.wd (by omega) (by omega))
  replace x := x9
  clear x9 f8
  refine e_iconst dX6_init_50 ?_
  refine e_istore_n dX6_init_51 rfl ?_
  
  refine e_iload_n dX6_init_52 rfl ?_
  refine e_aload_n dX6_init_53 rfl ?_
  refine e_getf fX6_23 x rfl dX6_init_54 ?_
  refine e_alenQ qa dX6_init_57 ?_
  refine e_icmp_ge (tgt := 82) ⟨by decide, by decide⟩ ⟨by decide, by decide⟩ dX6_init_58 rfl (fun c_58 => absurd c_58 (by decide)) (fun c_58 => ?_)
  refine e_aload_n dX6_init_61 rfl ?_
  refine e_getf fX6_23 x rfl dX6_init_62 ?_
  refine e_iload_n dX6_init_65 rfl ?_
  refine e_new kX4 vl_X6_9 vn_Row vi_Row dfX4 rfl rfl dX6_init_66 ?_
  refine (show Ev _ 14 320 (some (y + 15)) _ _ _ _ from ?_)
  refine e_dup dX6_init_69 rfl ?_
  refine e_bipush dX6_init_70 (by decide) ?_
  refine e_mkI qcX6_11 (S_rowInit (N := 16) (by omega) (g_up_s _ _ _)) rfl rfl rfl rfl dX6_init_72 ?_
  intro hv9 q9
  obtain ⟨g9, f9⟩ := q9
  have f8 : g_fr (y + 14) 4 hv8 hv9 := (g_fr.rf.up (Nat.le_refl _) (by omega)).tr f9
  clear f9
  replace x := (f8 _ (by omega)).trans x
  replace qa := (f8 _ (by omega)).trans qa
  replace r1 := r1.off f8 (by omega)
  replace r2 := r2.off f8 (by omega)
  replace r3 := r3.off f8 (by omega)
  replace fr := fr.tr (f8.wd (by omega) (by omega))
  have p0 := g9
  clear g9 f8
  refine (show Ev _ 17 368 (some (y + 18)) hv9 _ _ _ from ?_)
  refine e_aastore qa p0.obj rfl rfl (by decide) (by decide) rfl dX6_init_75 ?_
  generalize hh : g_up hv9 (y + 9) _ = hv10
  have x9 : hv10 (y + 9) = some (aQ G 4 (va_up (fun _ => none) 0 (some (y + 14)))) := by rw [← hh]; exact g_up_s _ _ _
  have f8 : g_fr (y + 9) 1 hv9 hv10 := by rw [← hh]; exact g_fr.rf.up (Nat.le_refl _) (by omega)
  clear hh
  replace x := (f8 _ (by omega)).trans x
  replace r1 := r1.off f8 (by omega)
  replace r2 := r2.off f8 (by omega)
  replace r3 := r3.off f8 (by omega)
  replace p0 := p0.off f8 (by omega)
  replace fr := fr.tr (f8.wd (by omega) (by omega))
  replace qa := x9
  clear x9 f8
  refine e_iinc dX6_init_76 rfl ?_
  refine e_goto (tgt := 52) dX6_init_79 rfl ?_
  
  refine e_iload_n dX6_init_52 rfl ?_
  refine e_aload_n dX6_init_53 rfl ?_
  refine e_getf fX6_23 x rfl dX6_init_54 ?_
  refine e_alenQ qa dX6_init_57 ?_
  refine e_icmp_ge (tgt := 82) ⟨by decide, by decide⟩ ⟨by decide, by decide⟩ dX6_init_58 rfl (fun c_58 => absurd c_58 (by decide)) (fun c_58 => ?_)
  refine e_aload_n dX6_init_61 rfl ?_
  refine e_getf fX6_23 x rfl dX6_init_62 ?_
  refine e_iload_n dX6_init_65 rfl ?_
  refine e_new kX4 vl_X6_9 vn_Row vi_Row dfX4 rfl rfl dX6_init_66 ?_
  refine (show Ev _ 18 372 (some (y + 19)) _ _ _ _ from ?_)
  refine e_dup dX6_init_69 rfl ?_
  refine e_bipush dX6_init_70 (by decide) ?_
  refine e_mkI qcX6_11 (S_rowInit (N := 16) (by omega) (g_up_s _ _ _)) rfl rfl rfl rfl dX6_init_72 ?_
  intro hv11 q9
  obtain ⟨g9, f9⟩ := q9
  have f8 : g_fr (y + 18) 4 hv10 hv11 := (g_fr.rf.up (Nat.le_refl _) (by omega)).tr f9
  clear f9
  replace x := (f8 _ (by omega)).trans x
  replace qa := (f8 _ (by omega)).trans qa
  replace r1 := r1.off f8 (by omega)
  replace r2 := r2.off f8 (by omega)
  replace r3 := r3.off f8 (by omega)
  replace p0 := p0.off f8 (by omega)
  replace fr := fr.tr (f8.wd (by omega) (by omega))
  have p1 := g9
  clear g9 f8
  refine (show Ev _ 21 420 (some (y + 22)) hv11 _ _ _ from ?_)
  refine e_aastore qa p1.obj rfl rfl (by decide) (by decide) rfl dX6_init_75 ?_
  generalize hh : g_up hv11 (y + 9) _ = hv12
  have x9 : hv12 (y + 9) = some (aQ G 4 (va_up (va_up (fun _ => none) 0 (some (y + 14))) 1 (some (y + 18)))) := by rw [← hh]; exact g_up_s _ _ _
  have f8 : g_fr (y + 9) 1 hv11 hv12 := by rw [← hh]; exact g_fr.rf.up (Nat.le_refl _) (by omega)
  clear hh
  replace x := (f8 _ (by omega)).trans x
  replace r1 := r1.off f8 (by omega)
  replace r2 := r2.off f8 (by omega)
  replace r3 := r3.off f8 (by omega)
  replace p0 := p0.off f8 (by omega)
  replace p1 := p1.off f8 (by omega)
  replace fr := fr.tr (f8.wd (by omega) (by omega))
  replace qa := x9
  clear x9 f8
  refine e_iinc dX6_init_76 rfl ?_
  refine e_goto (tgt := 52) dX6_init_79 rfl ?_
  
  refine e_iload_n dX6_init_52 rfl ?_
  refine e_aload_n dX6_init_53 rfl ?_
  refine e_getf fX6_23 x rfl dX6_init_54 ?_
  refine e_alenQ qa dX6_init_57 ?_
  refine e_icmp_ge (tgt := 82) ⟨by decide, by decide⟩ ⟨by decide, by decide⟩ dX6_init_58 rfl (fun c_58 => absurd c_58 (by decide)) (fun c_58 => ?_)
  refine e_aload_n dX6_init_61 rfl ?_
  refine e_getf fX6_23 x rfl dX6_init_62 ?_
  refine e_iload_n dX6_init_65 rfl ?_
  refine e_new kX4 vl_X6_9 vn_Row vi_Row dfX4 rfl rfl dX6_init_66 ?_
  refine (show Ev _ 22 424 (some (y + 23)) _ _ _ _ from ?_)
  refine e_dup dX6_init_69 rfl ?_
  refine e_bipush dX6_init_70 (by decide) ?_
  refine e_mkI qcX6_11 (S_rowInit (N := 16) (by omega) (g_up_s _ _ _)) rfl rfl rfl rfl dX6_init_72 ?_
  intro hv13 q9
  obtain ⟨g9, f9⟩ := q9
  have f8 : g_fr (y + 22) 4 hv12 hv13 := (g_fr.rf.up (Nat.le_refl _) (by omega)).tr f9
  clear f9
  replace x := (f8 _ (by omega)).trans x
  replace qa := (f8 _ (by omega)).trans qa
  replace r1 := r1.off f8 (by omega)
  replace r2 := r2.off f8 (by omega)
  replace r3 := r3.off f8 (by omega)
  replace p0 := p0.off f8 (by omega)
  replace p1 := p1.off f8 (by omega)
  replace fr := fr.tr (f8.wd (by omega) (by omega))
  have p2 := g9
  clear g9 f8
  refine (show Ev _ 25 472 (some (y + 26)) hv13 _ _ _ from ?_)
  refine e_aastore qa p2.obj rfl rfl (by decide) (by decide) rfl dX6_init_75 ?_
  generalize hh : g_up hv13 (y + 9) _ = hv14
  have x9 : hv14 (y + 9) = some (aQ G 4 (va_up (va_up (va_up (fun _ => none) 0 (some (y + 14))) 1 (some (y + 18))) 2 (some (y + 22)))) := by rw [← hh]; exact g_up_s _ _ _
  have f8 : g_fr (y + 9) 1 hv13 hv14 := by rw [← hh]; exact g_fr.rf.up (Nat.le_refl _) (by omega)
  clear hh
  replace x := (f8 _ (by omega)).trans x
  replace r1 := r1.off f8 (by omega)
  replace r2 := r2.off f8 (by omega)
  replace r3 := r3.off f8 (by omega)
  replace p0 := p0.off f8 (by omega)
  replace p1 := p1.off f8 (by omega)
  replace p2 := p2.off f8 (by omega)
  replace fr := fr.tr (f8.wd (by omega) (by omega))
  replace qa := x9
  clear x9 f8
  refine e_iinc dX6_init_76 rfl ?_
  refine e_goto (tgt := 52) dX6_init_79 rfl ?_
  
  refine e_iload_n dX6_init_52 rfl ?_
  refine e_aload_n dX6_init_53 rfl ?_
  refine e_getf fX6_23 x rfl dX6_init_54 ?_
  refine e_alenQ qa dX6_init_57 ?_
  refine e_icmp_ge (tgt := 82) ⟨by decide, by decide⟩ ⟨by decide, by decide⟩ dX6_init_58 rfl (fun c_58 => absurd c_58 (by decide)) (fun c_58 => ?_)
  refine e_aload_n dX6_init_61 rfl ?_
  refine e_getf fX6_23 x rfl dX6_init_62 ?_
  refine e_iload_n dX6_init_65 rfl ?_
  refine e_new kX4 vl_X6_9 vn_Row vi_Row dfX4 rfl rfl dX6_init_66 ?_
  refine (show Ev _ 26 476 (some (y + 27)) _ _ _ _ from ?_)
  refine e_dup dX6_init_69 rfl ?_
  refine e_bipush dX6_init_70 (by decide) ?_
  refine e_mkI qcX6_11 (S_rowInit (N := 16) (by omega) (g_up_s _ _ _)) rfl rfl rfl rfl dX6_init_72 ?_
  intro hv15 q9
  obtain ⟨g9, f9⟩ := q9
  have f8 : g_fr (y + 26) 4 hv14 hv15 := (g_fr.rf.up (Nat.le_refl _) (by omega)).tr f9
  clear f9
  replace x := (f8 _ (by omega)).trans x
  replace qa := (f8 _ (by omega)).trans qa
  replace r1 := r1.off f8 (by omega)
  replace r2 := r2.off f8 (by omega)
  replace r3 := r3.off f8 (by omega)
  replace p0 := p0.off f8 (by omega)
  replace p1 := p1.off f8 (by omega)
  replace p2 := p2.off f8 (by omega)
  replace fr := fr.tr (f8.wd (by omega) (by omega))
  have p3 := g9
  clear g9 f8
  refine (show Ev _ 29 524 (some (y + 30)) hv15 _ _ _ from ?_)
  refine e_aastore qa p3.obj rfl rfl (by decide) (by decide) rfl dX6_init_75 ?_
  generalize hh : g_up hv15 (y + 9) _ = hv16
  have x9 : hv16 (y + 9) = some (aQ G 4 (va_up (va_up (va_up (va_up (fun _ => none) 0 (some (y + 14))) 1 (some (y + 18))) 2 (some (y + 22))) 3 (some (y + 26)))) := by rw [← hh]; exact g_up_s _ _ _
  have f8 : g_fr (y + 9) 1 hv15 hv16 := by rw [← hh]; exact g_fr.rf.up (Nat.le_refl _) (by omega)
  clear hh
  replace x := (f8 _ (by omega)).trans x
  replace r1 := r1.off f8 (by omega)
  replace r2 := r2.off f8 (by omega)
  replace r3 := r3.off f8 (by omega)
  replace p0 := p0.off f8 (by omega)
  replace p1 := p1.off f8 (by omega)
  replace p2 := p2.off f8 (by omega)
  replace p3 := p3.off f8 (by omega)
  replace fr := fr.tr (f8.wd (by omega) (by omega))
  replace qa := x9
  clear x9 f8
  refine e_iinc dX6_init_76 rfl ?_
  refine e_goto (tgt := 52) dX6_init_79 rfl ?_
  
  refine e_iload_n dX6_init_52 rfl ?_
  refine e_aload_n dX6_init_53 rfl ?_
  refine e_getf fX6_23 x rfl dX6_init_54 ?_
  refine e_alenQ qa dX6_init_57 ?_
  refine e_icmp_ge (tgt := 82) ⟨by decide, by decide⟩ ⟨by decide, by decide⟩ dX6_init_58 rfl (fun c_58 => ?_) (fun c_58 => absurd (by decide) c_58)
  refine e_vret rfl dX6_init_82 (by decide) (by decide) ?_
  refine ⟨rfl, rfl, ⟨x, ⟨_, qa, fun j hj => ?_⟩, r1, r2, r3, fun j hj => ?_⟩, fr⟩
  · match j, hj with
    | 0, _ => rfl
    | 1, _ => rfl
    | 2, _ => rfl
    | 3, _ => rfl
    | j + 4, hj => exact absurd hj (by omega)
  · match j, hj with
    | 0, _ => exact p0
    | 1, _ => exact p1
    | 2, _ => exact p2
    | 3, _ => exact p3
    | j + 4, hj => exact absurd hj (by omega)
set_option maxRecDepth 20000 in
theorem S_partInit {p : Nat} (h0 : h p = some (.inr (1, blX2))) : Mk G mX2_init [.ref p] (p + 1) h 5 68 (fun h1 => parAt G [] [] 0 p h1 ∧ g_fr p 6 h h1) := by
  have x := h0
  have fr : g_fr p 6 h h := g_fr.rf
  refine run_of rfl plX2 rfl ?_
  refine e_aload_n dX2_init_0 rfl ?_
  refine e_objInit ob_X2_3 ob_2 ob_3 rfl rfl dX2_init_1 ?_
  refine e_aload_n dX2_init_4 rfl ?_
  refine e_new kX4 vl_X2_9 vn_Row vi_Row dfX4 rfl rfl dX2_init_5 ?_
  refine (show Ev _ 1 4 (some (p + 2)) _ _ _ _ from ?_)
  refine e_dup dX2_init_8 rfl ?_
  refine e_bipush dX2_init_9 (by decide) ?_
  refine e_mkI qcX2_11 (S_rowInit (N := 16) (by omega) (g_up_s _ _ _)) rfl rfl rfl rfl dX2_init_11 ?_
  intro hv1 q9
  obtain ⟨g9, f9⟩ := q9
  have f8 : g_fr (p + 1) 4 h hv1 := (g_fr.rf.up (Nat.le_refl _) (by omega)).tr f9
  clear f9
  replace x := (f8 _ (by omega)).trans x
  replace fr := fr.tr (f8.wd (by omega) (by omega))
  have r1 := g9
  clear g9 f8
  refine (show Ev _ 4 52 (some (p + 5)) hv1 _ _ _ from ?_)
  refine e_putF pfX2_14 rfl x rfl rfl rfl dX2_init_14 ?_
  generalize hh : g_up hv1 p _ = hv2
  have x9 : hv2 p = some (.inr (1, [.ref (p + 1), .null, .int 0, .long 0])) := by rw [← hh]; exact g_up_s _ _ _
  have f8 : g_fr p 1 hv1 hv2 := by rw [← hh]; exact g_fr.rf.up (Nat.le_refl _) (by omega)
  clear hh
  replace r1 := r1.off f8 (by omega)
  replace fr := fr.tr (f8.wd (by omega) (by omega))
  replace x := x9
  clear x9 f8
  refine e_aload_n dX2_init_17 rfl ?_
  refine e_bipush dX2_init_18 (by decide) ?_
  refine e_newarr (t := 0) (N := 16) (A0 := (16, .inl (fun _ => iN 0))) va_int rfl rfl (fun _ => vp_cell_i _ _ _) rfl (fun _ _ w => w) rfl rfl (by decide) rfl rfl dX2_init_20 ?_
  generalize hh : g_up hv2 (p + 5) _ = hv3
  have x9 : hv3 (p + 5) = some (aI G 16 (fun _ => 0)) := by rw [← hh]; exact g_up_s _ _ _
  have f8 : g_fr (p + 5) 1 hv2 hv3 := by rw [← hh]; exact g_fr.rf.up (Nat.le_refl _) (by omega)
  clear hh
  replace x := (f8 _ (by omega)).trans x
  replace r1 := r1.off f8 (by omega)
  replace fr := fr.tr (f8.wd (by omega) (by omega))
  have qa := x9
  clear x9 f8
  refine (show Ev _ 5 68 (some (p + 6)) hv3 _ _ _ from ?_)
  refine e_putF pfX2_20 rfl x rfl rfl rfl dX2_init_22 ?_
  generalize hh : g_up hv3 p _ = hv4
  have x9 : hv4 p = some (.inr (1, [.ref (p + 1), .ref (p + 5), .int 0, .long 0])) := by rw [← hh]; exact g_up_s _ _ _
  have f8 : g_fr p 1 hv3 hv4 := by rw [← hh]; exact g_fr.rf.up (Nat.le_refl _) (by omega)
  clear hh
  replace qa := (f8 _ (by omega)).trans qa
  replace r1 := r1.off f8 (by omega)
  replace fr := fr.tr (f8.wd (by omega) (by omega))
  replace x := x9
  clear x9 f8
  refine e_aload_n dX2_init_25 rfl ?_
  refine e_iconst dX2_init_26 ?_
  refine e_putf pfX2_24 x rfl rfl rfl dX2_init_27 ?_
  generalize hh : g_up hv4 p _ = hv5
  have x9 : hv5 p = some (.inr (1, [.ref (p + 1), .ref (p + 5), .int (iN 0), .long 0])) := by rw [← hh]; exact g_up_s _ _ _
  have f8 : g_fr p 1 hv4 hv5 := by rw [← hh]; exact g_fr.rf.up (Nat.le_refl _) (by omega)
  clear hh
  replace qa := (f8 _ (by omega)).trans qa
  replace r1 := r1.off f8 (by omega)
  replace fr := fr.tr (f8.wd (by omega) (by omega))
  replace x := x9
  clear x9 f8
  refine e_aload_n dX2_init_30 rfl ?_
  refine e_lconst dX2_init_31 ?_
  refine e_putf pfX2_28 x rfl rfl rfl dX2_init_32 ?_
  generalize hh : g_up hv5 p _ = hv6
  have x9 : hv6 p = some (.inr (1, [.ref (p + 1), .ref (p + 5), .int (iN 0), .long (lI 0)])) := by rw [← hh]; exact g_up_s _ _ _
  have f8 : g_fr p 1 hv5 hv6 := by rw [← hh]; exact g_fr.rf.up (Nat.le_refl _) (by omega)
  clear hh
  replace qa := (f8 _ (by omega)).trans qa
  replace r1 := r1.off f8 (by omega)
  replace fr := fr.tr (f8.wd (by omega) (by omega))
  replace x := x9
  clear x9 f8
  refine e_vret rfl dX2_init_35 (by decide) (by decide) ?_
  exact ⟨rfl, rfl, ⟨_, ⟨x, qa⟩, fun i hi => absurd hi (Nat.not_lt_zero _), r1⟩, fr⟩
set_option maxRecDepth 20000 in
theorem S_cenInit {c : Nat} (h0 : h c = some (.inr (0, blX0))) : Mk G mX0_init [.ref c] (c + 1) h 8 104 (fun h1 => cenAt G [] [] c h1 ∧ g_fr c 9 h h1) := by
  have x := h0
  have fr : g_fr c 9 h h := g_fr.rf
  refine run_of rfl plX0 rfl ?_
  refine e_aload_n dX0_init_0 rfl ?_
  refine e_objInit ob_X0_3 ob_2 ob_3 rfl rfl dX0_init_1 ?_
  refine e_aload_n dX0_init_4 rfl ?_
  refine e_new kX4 vl_X0_9 vn_Row vi_Row dfX4 rfl rfl dX0_init_5 ?_
  refine (show Ev _ 1 4 (some (c + 2)) _ _ _ _ from ?_)
  refine e_dup dX0_init_8 rfl ?_
  refine e_bipush dX0_init_9 (by decide) ?_
  refine e_mkI qcX0_11 (S_rowInit (N := 16) (by omega) (g_up_s _ _ _)) rfl rfl rfl rfl dX0_init_11 ?_
  intro hv1 q9
  obtain ⟨g9, f9⟩ := q9
  have f8 : g_fr (c + 1) 4 h hv1 := (g_fr.rf.up (Nat.le_refl _) (by omega)).tr f9
  clear f9
  replace x := (f8 _ (by omega)).trans x
  replace fr := fr.tr (f8.wd (by omega) (by omega))
  have r1 := g9
  clear g9 f8
  refine (show Ev _ 4 52 (some (c + 5)) hv1 _ _ _ from ?_)
  refine e_putF pfX0_14 rfl x rfl rfl rfl dX0_init_14 ?_
  generalize hh : g_up hv1 c _ = hv2
  have x9 : hv2 c = some (.inr (0, [.ref (c + 1), .null])) := by rw [← hh]; exact g_up_s _ _ _
  have f8 : g_fr c 1 hv1 hv2 := by rw [← hh]; exact g_fr.rf.up (Nat.le_refl _) (by omega)
  clear hh
  replace r1 := r1.off f8 (by omega)
  replace fr := fr.tr (f8.wd (by omega) (by omega))
  replace x := x9
  clear x9 f8
  refine e_aload_n dX0_init_17 rfl ?_
  refine e_new kX4 vl_X0_9 vn_Row vi_Row dfX4 rfl rfl dX0_init_18 ?_
  refine (show Ev _ 5 56 (some (c + 6)) _ _ _ _ from ?_)
  refine e_dup dX0_init_21 rfl ?_
  refine e_bipush dX0_init_22 (by decide) ?_
  refine e_mkI qcX0_11 (S_rowInit (N := 16) (by omega) (g_up_s _ _ _)) rfl rfl rfl rfl dX0_init_24 ?_
  intro hv3 q9
  obtain ⟨g9, f9⟩ := q9
  have f8 : g_fr (c + 5) 4 hv2 hv3 := (g_fr.rf.up (Nat.le_refl _) (by omega)).tr f9
  clear f9
  replace x := (f8 _ (by omega)).trans x
  replace r1 := r1.off f8 (by omega)
  replace fr := fr.tr (f8.wd (by omega) (by omega))
  have r2 := g9
  clear g9 f8
  refine (show Ev _ 8 104 (some (c + 9)) hv3 _ _ _ from ?_)
  refine e_putF pfX0_20 rfl x rfl rfl rfl dX0_init_27 ?_
  generalize hh : g_up hv3 c _ = hv4
  have x9 : hv4 c = some (.inr (0, [.ref (c + 1), .ref (c + 5)])) := by rw [← hh]; exact g_up_s _ _ _
  have f8 : g_fr c 1 hv3 hv4 := by rw [← hh]; exact g_fr.rf.up (Nat.le_refl _) (by omega)
  clear hh
  replace r1 := r1.off f8 (by omega)
  replace r2 := r2.off f8 (by omega)
  replace fr := fr.tr (f8.wd (by omega) (by omega))
  replace x := x9
  clear x9 f8
  refine e_vret rfl dX0_init_30 (by decide) (by decide) ?_
  exact ⟨rfl, rfl, ⟨x, r1, r2⟩, fr⟩
set_option maxRecDepth 20000 in
theorem S_hsInit {o : Nat} (h0 : h o = some (.inr (4, blX7))) : Mk G mX7_init [.ref o] (o + 1) h 95 2163 (fun h1 => hsX G [] [] (fun _ => []) 0 [] [] (fun _ => []) [] [] [] [] [] [] [] 0 [] [] o h h1) := by
  have x := h0
  have fr : g_fr o 96 h h := g_fr.rf
  refine run_of rfl plX7 rfl ?_
  refine e_aload_n dX7_init_0 rfl ?_
  refine e_objInit ob_X7_3 ob_2 ob_3 rfl rfl dX7_init_1 ?_
  refine e_aload_n dX7_init_4 rfl ?_
  refine e_new kX6 vl_X7_9 vn_Yard vi_Yard dfX6 rfl rfl dX7_init_5 ?_
  refine (show Ev _ 1 4 (some (o + 2)) _ _ _ _ from ?_)
  refine e_dup dX7_init_8 rfl ?_
  refine e_mkI qcX7_11 (S_yardInit (g_up_s _ _ _)) rfl rfl rfl rfl dX7_init_9 ?_
  intro hv1 q9
  obtain ⟨g9, f9⟩ := q9
  have f8 : g_fr (o + 1) 30 h hv1 := (g_fr.rf.up (Nat.le_refl _) (by omega)).tr f9
  clear f9
  replace x := (f8 _ (by omega)).trans x
  replace fr := fr.tr (f8.wd (by omega) (by omega))
  have yd := g9
  clear g9 f8
  refine (show Ev _ 30 528 (some (o + 31)) hv1 _ _ _ from ?_)
  refine e_putF pfX7_12 rfl x rfl rfl rfl dX7_init_12 ?_
  generalize hh : g_up hv1 o _ = hv2
  have x9 : hv2 o = some (.inr (4, [.ref (o + 1), .null, .int 0, .null, .null, .null, .null, .null, .null, .null])) := by rw [← hh]; exact g_up_s _ _ _
  have f8 : g_fr o 1 hv1 hv2 := by rw [← hh]; exact g_fr.rf.up (Nat.le_refl _) (by omega)
  clear hh
  replace yd := yd.off f8 (by omega)
  replace fr := fr.tr (f8.wd (by omega) (by omega))
  replace x := x9
  clear x9 f8
  refine e_aload_n dX7_init_15 rfl ?_
  refine e_new kX6 vl_X7_9 vn_Yard vi_Yard dfX6 rfl rfl dX7_init_16 ?_
  refine (show Ev _ 31 532 (some (o + 32)) _ _ _ _ from ?_)
  refine e_dup dX7_init_19 rfl ?_
  refine e_mkI qcX7_11 (S_yardInit (g_up_s _ _ _)) rfl rfl rfl rfl dX7_init_20 ?_
  intro hv3 q9
  obtain ⟨g9, f9⟩ := q9
  have f8 : g_fr (o + 31) 30 hv2 hv3 := (g_fr.rf.up (Nat.le_refl _) (by omega)).tr f9
  clear f9
  replace x := (f8 _ (by omega)).trans x
  replace yd := yd.off f8 (by omega)
  replace fr := fr.tr (f8.wd (by omega) (by omega))
  have im := g9
  clear g9 f8
  refine (show Ev _ 60 1056 (some (o + 61)) hv3 _ _ _ from ?_)
  refine e_putF pfX7_16 rfl x rfl rfl rfl dX7_init_23 ?_
  generalize hh : g_up hv3 o _ = hv4
  have x9 : hv4 o = some (.inr (4, [.ref (o + 1), .ref (o + 31), .int 0, .null, .null, .null, .null, .null, .null, .null])) := by rw [← hh]; exact g_up_s _ _ _
  have f8 : g_fr o 1 hv3 hv4 := by rw [← hh]; exact g_fr.rf.up (Nat.le_refl _) (by omega)
  clear hh
  replace yd := yd.off f8 (by omega)
  replace im := im.off f8 (by omega)
  replace fr := fr.tr (f8.wd (by omega) (by omega))
  replace x := x9
  clear x9 f8
  refine e_aload_n dX7_init_26 rfl ?_
  refine e_iconst dX7_init_27 ?_
  refine e_putf pfX7_19 x rfl rfl rfl dX7_init_28 ?_
  generalize hh : g_up hv4 o _ = hv5
  have x9 : hv5 o = some (.inr (4, [.ref (o + 1), .ref (o + 31), .int (iN 0), .null, .null, .null, .null, .null, .null, .null])) := by rw [← hh]; exact g_up_s _ _ _
  have f8 : g_fr o 1 hv4 hv5 := by rw [← hh]; exact g_fr.rf.up (Nat.le_refl _) (by omega)
  clear hh
  replace yd := yd.off f8 (by omega)
  replace im := im.off f8 (by omega)
  replace fr := fr.tr (f8.wd (by omega) (by omega))
  replace x := x9
  clear x9 f8
  refine e_aload_n dX7_init_31 rfl ?_
  refine e_new kX4 vl_X7_23 vn_Row vi_Row dfX4 rfl rfl dX7_init_32 ?_
  refine (show Ev _ 61 1060 (some (o + 62)) _ _ _ _ from ?_)
  refine e_dup dX7_init_35 rfl ?_
  refine e_bipush dX7_init_36 (by decide) ?_
  refine e_mkI qcX7_25 (S_rowInit (N := 61) (by omega) (g_up_s _ _ _)) rfl rfl rfl rfl dX7_init_38 ?_
  intro hv6 q9
  obtain ⟨g9, f9⟩ := q9
  have f8 : g_fr (o + 61) 4 hv5 hv6 := (g_fr.rf.up (Nat.le_refl _) (by omega)).tr f9
  clear f9
  replace x := (f8 _ (by omega)).trans x
  replace yd := yd.off f8 (by omega)
  replace im := im.off f8 (by omega)
  replace fr := fr.tr (f8.wd (by omega) (by omega))
  have fg := g9
  clear g9 f8
  refine (show Ev _ 64 1243 (some (o + 65)) hv6 _ _ _ from ?_)
  refine e_putF pfX7_28 rfl x rfl rfl rfl dX7_init_41 ?_
  generalize hh : g_up hv6 o _ = hv7
  have x9 : hv7 o = some (.inr (4, [.ref (o + 1), .ref (o + 31), .int (iN 0), .ref (o + 61), .null, .null, .null, .null, .null, .null])) := by rw [← hh]; exact g_up_s _ _ _
  have f8 : g_fr o 1 hv6 hv7 := by rw [← hh]; exact g_fr.rf.up (Nat.le_refl _) (by omega)
  clear hh
  replace yd := yd.off f8 (by omega)
  replace im := im.off f8 (by omega)
  replace fg := fg.off f8 (by omega)
  replace fr := fr.tr (f8.wd (by omega) (by omega))
  replace x := x9
  clear x9 f8
  refine e_aload_n dX7_init_44 rfl ?_
  refine e_new kX4 vl_X7_23 vn_Row vi_Row dfX4 rfl rfl dX7_init_45 ?_
  refine (show Ev _ 65 1247 (some (o + 66)) _ _ _ _ from ?_)
  refine e_dup dX7_init_48 rfl ?_
  refine e_bipush dX7_init_49 (by decide) ?_
  refine e_mkI qcX7_25 (S_rowInit (N := 60) (by omega) (g_up_s _ _ _)) rfl rfl rfl rfl dX7_init_51 ?_
  intro hv8 q9
  obtain ⟨g9, f9⟩ := q9
  have f8 : g_fr (o + 65) 4 hv7 hv8 := (g_fr.rf.up (Nat.le_refl _) (by omega)).tr f9
  clear f9
  replace x := (f8 _ (by omega)).trans x
  replace yd := yd.off f8 (by omega)
  replace im := im.off f8 (by omega)
  replace fg := fg.off f8 (by omega)
  replace fr := fr.tr (f8.wd (by omega) (by omega))
  have od := g9
  clear g9 f8
  refine (show Ev _ 68 1427 (some (o + 69)) hv8 _ _ _ from ?_)
  refine e_putF pfX7_32 rfl x rfl rfl rfl dX7_init_54 ?_
  generalize hh : g_up hv8 o _ = hv9
  have x9 : hv9 o = some (.inr (4, [.ref (o + 1), .ref (o + 31), .int (iN 0), .ref (o + 61), .ref (o + 65), .null, .null, .null, .null, .null])) := by rw [← hh]; exact g_up_s _ _ _
  have f8 : g_fr o 1 hv8 hv9 := by rw [← hh]; exact g_fr.rf.up (Nat.le_refl _) (by omega)
  clear hh
  replace yd := yd.off f8 (by omega)
  replace im := im.off f8 (by omega)
  replace fg := fg.off f8 (by omega)
  replace od := od.off f8 (by omega)
  replace fr := fr.tr (f8.wd (by omega) (by omega))
  replace x := x9
  clear x9 f8
  refine e_aload_n dX7_init_57 rfl ?_
  refine e_new kX4 vl_X7_23 vn_Row vi_Row dfX4 rfl rfl dX7_init_58 ?_
  refine (show Ev _ 69 1431 (some (o + 70)) _ _ _ _ from ?_)
  refine e_dup dX7_init_61 rfl ?_
  refine e_bipush dX7_init_62 (by decide) ?_
  refine e_mkI qcX7_25 (S_rowInit (N := 60) (by omega) (g_up_s _ _ _)) rfl rfl rfl rfl dX7_init_64 ?_
  intro hv10 q9
  obtain ⟨g9, f9⟩ := q9
  have f8 : g_fr (o + 69) 4 hv9 hv10 := (g_fr.rf.up (Nat.le_refl _) (by omega)).tr f9
  clear f9
  replace x := (f8 _ (by omega)).trans x
  replace yd := yd.off f8 (by omega)
  replace im := im.off f8 (by omega)
  replace fg := fg.off f8 (by omega)
  replace od := od.off f8 (by omega)
  replace fr := fr.tr (f8.wd (by omega) (by omega))
  have ht := g9
  clear g9 f8
  refine (show Ev _ 72 1611 (some (o + 73)) hv10 _ _ _ from ?_)
  refine e_putF pfX7_35 rfl x rfl rfl rfl dX7_init_67 ?_
  generalize hh : g_up hv10 o _ = hv11
  have x9 : hv11 o = some (.inr (4, [.ref (o + 1), .ref (o + 31), .int (iN 0), .ref (o + 61), .ref (o + 65), .ref (o + 69), .null, .null, .null, .null])) := by rw [← hh]; exact g_up_s _ _ _
  have f8 : g_fr o 1 hv10 hv11 := by rw [← hh]; exact g_fr.rf.up (Nat.le_refl _) (by omega)
  clear hh
  replace yd := yd.off f8 (by omega)
  replace im := im.off f8 (by omega)
  replace fg := fg.off f8 (by omega)
  replace od := od.off f8 (by omega)
  replace ht := ht.off f8 (by omega)
  replace fr := fr.tr (f8.wd (by omega) (by omega))
  replace x := x9
  clear x9 f8
  refine e_aload_n dX7_init_70 rfl ?_
  refine e_new kX4 vl_X7_23 vn_Row vi_Row dfX4 rfl rfl dX7_init_71 ?_
  refine (show Ev _ 73 1615 (some (o + 74)) _ _ _ _ from ?_)
  refine e_dup dX7_init_74 rfl ?_
  refine e_bipush dX7_init_75 (by decide) ?_
  refine e_mkI qcX7_25 (S_rowInit (N := 61) (by omega) (g_up_s _ _ _)) rfl rfl rfl rfl dX7_init_77 ?_
  intro hv12 q9
  obtain ⟨g9, f9⟩ := q9
  have f8 : g_fr (o + 73) 4 hv11 hv12 := (g_fr.rf.up (Nat.le_refl _) (by omega)).tr f9
  clear f9
  replace x := (f8 _ (by omega)).trans x
  replace yd := yd.off f8 (by omega)
  replace im := im.off f8 (by omega)
  replace fg := fg.off f8 (by omega)
  replace od := od.off f8 (by omega)
  replace ht := ht.off f8 (by omega)
  replace fr := fr.tr (f8.wd (by omega) (by omega))
  have fh := g9
  clear g9 f8
  refine (show Ev _ 76 1798 (some (o + 77)) hv12 _ _ _ from ?_)
  refine e_putF pfX7_38 rfl x rfl rfl rfl dX7_init_80 ?_
  generalize hh : g_up hv12 o _ = hv13
  have x9 : hv13 o = some (.inr (4, [.ref (o + 1), .ref (o + 31), .int (iN 0), .ref (o + 61), .ref (o + 65), .ref (o + 69), .ref (o + 73), .null, .null, .null])) := by rw [← hh]; exact g_up_s _ _ _
  have f8 : g_fr o 1 hv12 hv13 := by rw [← hh]; exact g_fr.rf.up (Nat.le_refl _) (by omega)
  clear hh
  replace yd := yd.off f8 (by omega)
  replace im := im.off f8 (by omega)
  replace fg := fg.off f8 (by omega)
  replace od := od.off f8 (by omega)
  replace ht := ht.off f8 (by omega)
  replace fh := fh.off f8 (by omega)
  replace fr := fr.tr (f8.wd (by omega) (by omega))
  replace x := x9
  clear x9 f8
  refine e_aload_n dX7_init_83 rfl ?_
  refine e_new kX4 vl_X7_23 vn_Row vi_Row dfX4 rfl rfl dX7_init_84 ?_
  refine (show Ev _ 77 1802 (some (o + 78)) _ _ _ _ from ?_)
  refine e_dup dX7_init_87 rfl ?_
  refine e_bipush dX7_init_88 (by decide) ?_
  refine e_mkI qcX7_25 (S_rowInit (N := 61) (by omega) (g_up_s _ _ _)) rfl rfl rfl rfl dX7_init_90 ?_
  intro hv14 q9
  obtain ⟨g9, f9⟩ := q9
  have f8 : g_fr (o + 77) 4 hv13 hv14 := (g_fr.rf.up (Nat.le_refl _) (by omega)).tr f9
  clear f9
  replace x := (f8 _ (by omega)).trans x
  replace yd := yd.off f8 (by omega)
  replace im := im.off f8 (by omega)
  replace fg := fg.off f8 (by omega)
  replace od := od.off f8 (by omega)
  replace ht := ht.off f8 (by omega)
  replace fh := fh.off f8 (by omega)
  replace fr := fr.tr (f8.wd (by omega) (by omega))
  have sh := g9
  clear g9 f8
  refine (show Ev _ 80 1985 (some (o + 81)) hv14 _ _ _ from ?_)
  refine e_putF pfX7_41 rfl x rfl rfl rfl dX7_init_93 ?_
  generalize hh : g_up hv14 o _ = hv15
  have x9 : hv15 o = some (.inr (4, [.ref (o + 1), .ref (o + 31), .int (iN 0), .ref (o + 61), .ref (o + 65), .ref (o + 69), .ref (o + 73), .ref (o + 77), .null, .null])) := by rw [← hh]; exact g_up_s _ _ _
  have f8 : g_fr o 1 hv14 hv15 := by rw [← hh]; exact g_fr.rf.up (Nat.le_refl _) (by omega)
  clear hh
  replace yd := yd.off f8 (by omega)
  replace im := im.off f8 (by omega)
  replace fg := fg.off f8 (by omega)
  replace od := od.off f8 (by omega)
  replace ht := ht.off f8 (by omega)
  replace fh := fh.off f8 (by omega)
  replace sh := sh.off f8 (by omega)
  replace fr := fr.tr (f8.wd (by omega) (by omega))
  replace x := x9
  clear x9 f8
  refine e_aload_n dX7_init_96 rfl ?_
  refine e_new kX2 vl_X7_44 vn_Parting vi_Parting dfX2 rfl rfl dX7_init_97 ?_
  refine (show Ev _ 81 1989 (some (o + 82)) _ _ _ _ from ?_)
  refine e_dup dX7_init_100 rfl ?_
  refine e_mkN qcN_46 (S_partInit (g_up_s _ _ _)) rfl rfl rfl rfl dX7_init_101 ?_
  intro hv16 q9
  obtain ⟨g9, f9⟩ := q9
  have f8 : g_fr (o + 81) 6 hv15 hv16 := (g_fr.rf.up (Nat.le_refl _) (by omega)).tr f9
  clear f9
  replace x := (f8 _ (by omega)).trans x
  replace yd := yd.off f8 (by omega)
  replace im := im.off f8 (by omega)
  replace fg := fg.off f8 (by omega)
  replace od := od.off f8 (by omega)
  replace ht := ht.off f8 (by omega)
  replace fh := fh.off f8 (by omega)
  replace sh := sh.off f8 (by omega)
  replace fr := fr.tr (f8.wd (by omega) (by omega))
  have pt := g9
  clear g9 f8
  refine (show Ev _ 86 2057 (some (o + 87)) hv16 _ _ _ from ?_)
  refine e_putF pfX7_47 rfl x rfl rfl rfl dX7_init_104 ?_
  generalize hh : g_up hv16 o _ = hv17
  have x9 : hv17 o = some (.inr (4, [.ref (o + 1), .ref (o + 31), .int (iN 0), .ref (o + 61), .ref (o + 65), .ref (o + 69), .ref (o + 73), .ref (o + 77), .ref (o + 81), .null])) := by rw [← hh]; exact g_up_s _ _ _
  have f8 : g_fr o 1 hv16 hv17 := by rw [← hh]; exact g_fr.rf.up (Nat.le_refl _) (by omega)
  clear hh
  replace yd := yd.off f8 (by omega)
  replace im := im.off f8 (by omega)
  replace fg := fg.off f8 (by omega)
  replace od := od.off f8 (by omega)
  replace ht := ht.off f8 (by omega)
  replace fh := fh.off f8 (by omega)
  replace sh := sh.off f8 (by omega)
  replace pt := pt.off f8 (by omega)
  replace fr := fr.tr (f8.wd (by omega) (by omega))
  replace x := x9
  clear x9 f8
  refine e_aload_n dX7_init_107 rfl ?_
  refine e_new kX0 vl_X7_51 vn_Census vi_Census dfX0 rfl rfl dX7_init_108 ?_
  refine (show Ev _ 87 2059 (some (o + 88)) _ _ _ _ from ?_)
  refine e_dup dX7_init_111 rfl ?_
  refine e_mkN qcN_53 (S_cenInit (g_up_s _ _ _)) rfl rfl rfl rfl dX7_init_112 ?_
  intro hv18 q9
  obtain ⟨g9, f9⟩ := q9
  have f8 : g_fr (o + 87) 9 hv17 hv18 := (g_fr.rf.up (Nat.le_refl _) (by omega)).tr f9
  clear f9
  replace x := (f8 _ (by omega)).trans x
  replace yd := yd.off f8 (by omega)
  replace im := im.off f8 (by omega)
  replace fg := fg.off f8 (by omega)
  replace od := od.off f8 (by omega)
  replace ht := ht.off f8 (by omega)
  replace fh := fh.off f8 (by omega)
  replace sh := sh.off f8 (by omega)
  replace pt := pt.off f8 (by omega)
  replace fr := fr.tr (f8.wd (by omega) (by omega))
  have cn := g9
  clear g9 f8
  refine (show Ev _ 95 2163 (some (o + 96)) hv18 _ _ _ from ?_)
  refine e_putF pfX7_54 rfl x rfl rfl rfl dX7_init_115 ?_
  generalize hh : g_up hv18 o _ = hv19
  have x9 : hv19 o = some (.inr (4, [.ref (o + 1), .ref (o + 31), .int (iN 0), .ref (o + 61), .ref (o + 65), .ref (o + 69), .ref (o + 73), .ref (o + 77), .ref (o + 81), .ref (o + 87)])) := by rw [← hh]; exact g_up_s _ _ _
  have f8 : g_fr o 1 hv18 hv19 := by rw [← hh]; exact g_fr.rf.up (Nat.le_refl _) (by omega)
  clear hh
  replace yd := yd.off f8 (by omega)
  replace im := im.off f8 (by omega)
  replace fg := fg.off f8 (by omega)
  replace od := od.off f8 (by omega)
  replace ht := ht.off f8 (by omega)
  replace fh := fh.off f8 (by omega)
  replace sh := sh.off f8 (by omega)
  replace pt := pt.off f8 (by omega)
  replace cn := cn.off f8 (by omega)
  replace fr := fr.tr (f8.wd (by omega) (by omega))
  replace x := x9
  clear x9 f8
  refine e_vret rfl dX7_init_118 (by decide) (by decide) ?_
  exact ⟨rfl, rfl, x, yd, im, fg, od, ht, fh, sh, pt, cn, fr⟩
end PINIT2
