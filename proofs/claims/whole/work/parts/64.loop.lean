/-! The law: its loop -/
/-- all that is owed of a state: the mathematics -/
def lwQ (P E : PL) (S : Nat → PL) (b : Int) (P2 E2 : PL) (S2 : Nat → PL) (F : PL) : Prop := QM_sorted_hm P E S b P2 E2 S2 F ∧ QM_places_hm P E S b P2 E2 S2 F ∧ QM_hull_hm P E S b P2 E2 S2 F ∧ QM_join_hm P E S b P2 E2 S2 F ∧ QC_sum_hh P E S b P2 E2 S2 F ∧ QM_sum_hm P E S b P2 E2 S2 F ∧ QM_layers_hg P E S b P2 E2 S2 F ∧ QM_layers_hm P E S b P2 E2 S2 F ∧ QM_layer_hg P E S b P2 E2 S2 F ∧ QM_layer_hm P E S b P2 E2 S2 F ∧ QM_layer_hm2 P E S b P2 E2 S2 F ∧ QM_hullOf_hm P E S b P2 E2 S2 F ∧ QM_inner_hm P E S b P2 E2 S2 F ∧ QM_lies_hm P E S b P2 E2 S2 F ∧ QC_width_hS P E S b P2 E2 S2 F ∧ QM_width_hm P E S b P2 E2 S2 F ∧ QM_isSimple_hgc P E S b P2 E2 S2 F ∧ QM_polygonEdge_hgc P E S b P2 E2 S2 F ∧ QM_polygonInner_hgc P E S b P2 E2 S2 F ∧ QM_polygonInner_hm P E S b P2 E2 S2 F ∧ QM_polygonLies_hgc P E S b P2 E2 S2 F ∧ QM_polygonLies_hm P E S b P2 E2 S2 F ∧ QM_holds_hgc P E S b P2 E2 S2 F ∧ QM_triangles_hgc P E S b P2 E2 S2 F ∧ QM_triangles_hd P E S b P2 E2 S2 F ∧ QM_triangles_hmk P E S b P2 E2 S2 F ∧ QM_triangleAt_hgc P E S b P2 E2 S2 F ∧ QM_triangleAt_hd P E S b P2 E2 S2 F ∧ QM_triangleAt_hmk P E S b P2 E2 S2 F ∧ QM_sees_hgc P E S b P2 E2 S2 F ∧ QM_sees_hm P E S b P2 E2 S2 F ∧ QM_view_hgc P E S b P2 E2 S2 F ∧ QM_view_hm P E S b P2 E2 S2 F ∧ QC_line_ev P E S b P2 E2 S2 F ∧ QC_distance_hh P E S b P2 E2 S2 F ∧ QM_distance_hh P E S b P2 E2 S2 F ∧ QM_box_hm P E S b P2 E2 S2 F ∧ QM_fence_hm P E S b P2 E2 S2 F ∧ QM_apart_hm1 P E S b P2 E2 S2 F ∧ QM_apart_hm2 P E S b P2 E2 S2 F ∧ QC_restore_hb P E S b P2 E2 S2 F ∧ QC_meanFar_hn P E S b P2 E2 S2 F ∧ QM_meanFar_hm P E S b P2 E2 S2 F ∧ QM_meanFar_hn P E S b P2 E2 S2 F ∧ QC_fills_hn P E S b P2 E2 S2 F ∧ QM_fills_hm P E S b P2 E2 S2 F ∧ QM_fills_hn P E S b P2 E2 S2 F ∧ QL_fills_hfn P E S b P2 E2 S2 F ∧ QC_errors_ns P E S b P2 E2 S2 F ∧ QC_errors_nf P E S b P2 E2 S2 F
def lwT (Gd : PL → PL → (Nat → PL) → Int → PL → PL → (Nat → PL) → PL → Prop) : Prop := (∀ (P E : PL) (S : Nat → PL) (b : Int) (P2 E2 : PL) (S2 : Nat → PL) (F : PL) (v1 : Int) (v2 : Int) (v3 : Int), Gd P E S b P2 E2 S2 F → Gd (s_point P v1 v2 v3) E S b P2 E2 S2 F) ∧ (∀ (P E : PL) (S : Nat → PL) (b : Int) (P2 E2 : PL) (S2 : Nat → PL) (F : PL) (v1 : Int), Gd P E S b P2 E2 S2 F → Gd (s_drop P v1) E S b P2 E2 S2 F) ∧ (∀ (P E : PL) (S : Nat → PL) (b : Int) (P2 E2 : PL) (S2 : Nat → PL) (F : PL) (v1 : Int), Gd P E S b P2 E2 S2 F → Gd P E S b P2 E2 S2 (s_hull P v1 F)) ∧ (∀ (P E : PL) (S : Nat → PL) (b : Int) (P2 E2 : PL) (S2 : Nat → PL) (F : PL) (v1 : Int) (v2 : Int), Gd P E S b P2 E2 S2 F → Gd P E S b P2 E2 S2 (s_join P v1 v2 F)) ∧ (∀ (P E : PL) (S : Nat → PL) (b : Int) (P2 E2 : PL) (S2 : Nat → PL) (F : PL) (v1 : Int) (v2 : Int), Gd P E S b P2 E2 S2 F → Gd P E S b P2 E2 S2 (s_sum P v1 v2 F)) ∧ (∀ (P E : PL) (S : Nat → PL) (b : Int) (P2 E2 : PL) (S2 : Nat → PL) (F : PL) (v1 : Int) (v2 : Int), Gd P E S b P2 E2 S2 F → Gd P E S b P2 E2 S2 (s_layer P v1 v2 F)) ∧ (∀ (P E : PL) (S : Nat → PL) (b : Int) (P2 E2 : PL) (S2 : Nat → PL) (F : PL) (v1 : Int), Gd P E S b P2 E2 S2 F → Gd P E S b P2 E2 S2 (s_hullOf S v1 F)) ∧ (∀ (P E : PL) (S : Nat → PL) (b : Int) (P2 E2 : PL) (S2 : Nat → PL) (F : PL) (v1 : Int) (v2 : Int) (v3 : Int), Gd P E S b P2 E2 S2 F → Gd P E (s_add S v1 v2 v3) b P2 E2 S2 F) ∧ (∀ (P E : PL) (S : Nat → PL) (b : Int) (P2 E2 : PL) (S2 : Nat → PL) (F : PL) (v1 : Int), Gd P E S b P2 E2 S2 F → Gd P E (s_clear S v1) b P2 E2 S2 F) ∧ (∀ (P E : PL) (S : Nat → PL) (b : Int) (P2 E2 : PL) (S2 : Nat → PL) (F : PL) (v1 : Int) (v2 : Int) (v3 : Int) (v4 : Int), Gd P E S b P2 E2 S2 F → Gd P (s_line E v1 v2 v3 v4) S b P2 E2 S2 F) ∧ (∀ (P E : PL) (S : Nat → PL) (b : Int) (P2 E2 : PL) (S2 : Nat → PL) (F : PL) , Gd P E S b P2 E2 S2 F → Gd P [] S b P2 E2 S2 F) ∧ (∀ (P E : PL) (S : Nat → PL) (b : Int) (P2 E2 : PL) (S2 : Nat → PL) (F : PL) , Gd P E S b P2 E2 S2 F → Gd P E S 1 P E S F) ∧ (∀ (P E : PL) (S : Nat → PL) (b : Int) (P2 E2 : PL) (S2 : Nat → PL) (F : PL) , Gd P E S b P2 E2 S2 F → Gd (if b = 0 then P else P2) (if b = 0 then E else E2) (if b = 0 then S else S2) b P2 E2 S2 F)
section LWID
variable {C : g_E} {k n : Nat} {z : Option Nat} {h : g_hp} {pc : Nat} {L : List (Nat × Value)} {st : List Value}
theorem e_widen {k' n' : Nat} (h1 : k ≤ k') (h2 : n ≤ n') (kk : Ev C k' n' z h pc L st) : Ev C k n z h pc L st := by
  intro p e s m args below meth c H locs ls hC hS hH hb hl
  exact W.widen h1 h2 (kk p e s m args below meth c H locs ls hC hS hH hb hl)
end LWID
section LLOOP
variable {G : g_X} {o m ao ad bs L : Nat} {xs : Nat → Int32} {ZZ : g_Q} {Gd : PL → PL → (Nat → PL) → Int → PL → PL → (Nat → PL) → PL → Prop}
set_option maxRecDepth 20000 in
theorem lw_loop (hL : L ≤ 2560) (hQ : ∀ (P E : PL) (S : Nat → PL) (b : Int) (P2 E2 : PL) (S2 : Nat → PL) (F : PL), Gd P E S b P2 E2 S2 F → lwQ P E S b P2 E2 S2 F) (hT : lwT Gd) (hE : ∀ (k n : Nat) (h : g_hp) (Lo : List (Nat × Value)), k ≤ 601024 → n ≤ 7293034 → Ev (lwE G bs L xs ZZ) k n none h 2964 Lo [.int (iN 1)]) : ∀ (f : Nat) (i : Int) (k n : Nat) (h : g_hp) (P E : PL) (S : Nat → PL) (b : Int) (P2 E2 : PL) (S2 : Nat → PL) (F : PL), Gd P E S b P2 E2 S2 F → lwW G P E S b P2 E2 S2 F o m ao ad h → 0 ≤ i → (L : Int) ≤ i + 5 * (f : Int) + 4 → i ≤ 2560 → k + f + 1 ≤ 601024 → n + 6 * f + 6 ≤ 7293034 → Ev (lwE G bs L xs ZZ) k n none h 28 [(5, .int (iN i)), (4, .ref ad), (3, .ref ao), (2, .ref m), (1, .ref o), (0, .ref bs)] [] := by
  intro f
  induction f with
  | zero =>
    intro i k n h P E S b P2 E2 S2 F g W9 hi hf hi2 hk hn
    refine e_iload dL_law_28 rfl ?_
    refine e_aload_n dL_law_30 rfl ?_
    refine e_slen dL_law_31 ?_
    refine e_iconst dL_law_32 ?_
    refine e_isub dL_law_33 ?_
    refine e_icmp_gt (tgt := 2963) ⟨by omega, by omega⟩ ⟨by omega, by omega⟩ dL_law_34 rfl (fun c9 => ?_) (fun c9 => absurd (by omega) c9)
    refine e_iconst dL_law_2963 ?_
    exact hE _ _ _ _ (by omega) (by omega)
  | succ f ih =>
    intro i k n h P E S b P2 E2 S2 F g W9 hi hf hi2 hk hn
    refine e_iload dL_law_28 rfl ?_
    refine e_aload_n dL_law_30 rfl ?_
    refine e_slen dL_law_31 ?_
    refine e_iconst dL_law_32 ?_
    refine e_isub dL_law_33 ?_
    refine e_icmp_gt (tgt := 2963) ⟨by omega, by omega⟩ ⟨by omega, by omega⟩ dL_law_34 rfl (fun c9 => ?_) (fun c9 => ?_)
    · refine e_iconst dL_law_2963 ?_
      exact hE _ _ _ _ (by omega) (by omega)
    have hi5 : i + 5 ≤ L := by omega
    have nx : ∀ {P E : PL} {S : Nat → PL} {b : Int} {P2 E2 : PL} {S2 : Nat → PL} {F : PL} (h1 : g_hp), Gd P E S b P2 E2 S2 F → lwW G P E S b P2 E2 S2 F o m ao ad h1 → Ev (lwE G bs L xs ZZ) (k + 1) (n + 6) none h1 2957 [(5, .int (iN i)), (4, .ref ad), (3, .ref ao), (2, .ref m), (1, .ref o), (0, .ref bs)] [] := by
      intro P E S b P2 E2 S2 F h1 g1 W1
      refine e_iinc dL_law_2957 rfl ?_
      refine e_goto (tgt := 28) dL_law_2960 rfl ?_
      refine e_loc [(5, .int (iN (i + 5))), (4, .ref ad), (3, .ref ao), (2, .ref m), (1, .ref o), (0, .ref bs)] ⟨rfl, rfl, rfl, rfl, rfl, rfl, trivial⟩ ?_
      exact ih (i + 5) (k + 1) (n + 6) h1 P E S b P2 E2 S2 F g1 W1 (by omega) (by omega) (by omega) (by omega) (by omega)
    have q := hQ P E S b P2 E2 S2 F g
    refine e_aload_n dL_law_37 rfl ?_
    refine e_iload dL_law_38 rfl ?_
    refine e_sld hi (by omega) hL dL_law_40 ?_
    refine e_bipush dL_law_41 (by decide) ?_
    refine e_iand dL_law_43 ?_
    generalize (iN (sv xs i) &&& _) = cw
    rw [← iN_asI cw]
    have rc : r32 cw.toInt := r32_of cw
    generalize cw.toInt = cv at rc ⊢
    by_cases c0 : cv < 0 ∨ 47 < cv
    · refine e_tswO (tgt := 2957) rc dL_law_44 c0 rfl ?_
      exact e_widen (k' := k + 1) (n' := n + 6) (by omega) (by omega) (nx h g W9)
    obtain ⟨j, rfl⟩ : ∃ j : Nat, cv = (j : Int) := ⟨cv.toNat, by omega⟩
    have hk1 : k + 1 ≤ 601024 := by omega
    have hn1 : n + 6 ≤ 7293034 := by omega
    have hj : j < 48 := by omega
    clear c0
    match j, hj with
    | 0, _ =>
      refine e_tswI (off := 208) (tgt := 252) rc dL_law_44 (by decide) (by decide) rfl rfl ?_
      exact lc_0 W9 hi hi5 hL hk1 hn1  (fun h1 W1 => nx h1 (hT.1 _ _ _ _ _ _ _ _ _ _ _ g) W1)
    | 1, _ =>
      refine e_tswI (off := 288) (tgt := 332) rc dL_law_44 (by decide) (by decide) rfl rfl ?_
      exact lc_1 W9 hi hi5 hL hk1 hn1  (fun h1 W1 => nx h1 (hT.2.1 _ _ _ _ _ _ _ _ _ g) W1)
    | 2, _ =>
      refine e_tswI (off := 344) (tgt := 388) rc dL_law_44 (by decide) (by decide) rfl rfl ?_
      exact lc_2 W9 hi hi5 hL hk1 hn1  (fun h1 W1 => nx h1 g W1)
    | 3, _ =>
      refine e_tswI (off := 412) (tgt := 456) rc dL_law_44 (by decide) (by decide) rfl rfl ?_
      exact lc_3 W9 hi hi5 hL hk1 hn1  (fun h1 W1 => nx h1 g W1)
    | 4, _ =>
      refine e_tswI (off := 468) (tgt := 512) rc dL_law_44 (by decide) (by decide) rfl rfl ?_
      exact lc_4 W9 hi hi5 hL hk1 hn1 q.1 (fun h1 W1 => nx h1 g W1)
    | 5, _ =>
      refine e_tswI (off := 536) (tgt := 580) rc dL_law_44 (by decide) (by decide) rfl rfl ?_
      exact lc_5 W9 hi hi5 hL hk1 hn1 q.2.1 (fun h1 W1 => nx h1 g W1)
    | 6, _ =>
      refine e_tswI (off := 592) (tgt := 636) rc dL_law_44 (by decide) (by decide) rfl rfl ?_
      exact lc_6 W9 hi hi5 hL hk1 hn1  (fun h1 W1 => nx h1 g W1)
    | 7, _ =>
      refine e_tswI (off := 672) (tgt := 716) rc dL_law_44 (by decide) (by decide) rfl rfl ?_
      exact lc_7 W9 hi hi5 hL hk1 hn1 q.2.2.1 (fun h1 W1 => nx h1 (hT.2.2.1 _ _ _ _ _ _ _ _ _ g) W1)
    | 8, _ =>
      refine e_tswI (off := 728) (tgt := 772) rc dL_law_44 (by decide) (by decide) rfl rfl ?_
      exact lc_8 W9 hi hi5 hL hk1 hn1 q.2.2.2.1 (fun h1 W1 => nx h1 (hT.2.2.2.1 _ _ _ _ _ _ _ _ _ _ g) W1)
    | 9, _ =>
      refine e_tswI (off := 796) (tgt := 840) rc dL_law_44 (by decide) (by decide) rfl rfl ?_
      exact lc_9 W9 hi hi5 hL hk1 hn1 q.2.2.2.2.1 q.2.2.2.2.2.1 (fun h1 W1 => nx h1 (hT.2.2.2.2.1 _ _ _ _ _ _ _ _ _ _ g) W1)
    | 10, _ =>
      refine e_tswI (off := 864) (tgt := 908) rc dL_law_44 (by decide) (by decide) rfl rfl ?_
      exact lc_10 W9 hi hi5 hL hk1 hn1 q.2.2.2.2.2.2.1 q.2.2.2.2.2.2.2.1 (fun h1 W1 => nx h1 g W1)
    | 11, _ =>
      refine e_tswI (off := 920) (tgt := 964) rc dL_law_44 (by decide) (by decide) rfl rfl ?_
      exact lc_11 W9 hi hi5 hL hk1 hn1 q.2.2.2.2.2.2.2.2.1 q.2.2.2.2.2.2.2.2.2.1 q.2.2.2.2.2.2.2.2.2.2.1 (fun h1 W1 => nx h1 (hT.2.2.2.2.2.1 _ _ _ _ _ _ _ _ _ _ g) W1)
    | 12, _ =>
      refine e_tswI (off := 988) (tgt := 1032) rc dL_law_44 (by decide) (by decide) rfl rfl ?_
      exact lc_12 W9 hi hi5 hL hk1 hn1 q.2.2.2.2.2.2.2.2.2.2.2.1 (fun h1 W1 => nx h1 (hT.2.2.2.2.2.2.1 _ _ _ _ _ _ _ _ _ g) W1)
    | 13, _ =>
      refine e_tswI (off := 1044) (tgt := 1088) rc dL_law_44 (by decide) (by decide) rfl rfl ?_
      exact lc_13 W9 hi hi5 hL hk1 hn1  (fun h1 W1 => nx h1 g W1)
    | 14, _ =>
      refine e_tswI (off := 1057) (tgt := 1101) rc dL_law_44 (by decide) (by decide) rfl rfl ?_
      exact lc_14 W9 hi hi5 hL hk1 hn1  (fun h1 W1 => nx h1 g W1)
    | 15, _ =>
      refine e_tswI (off := 1141) (tgt := 1185) rc dL_law_44 (by decide) (by decide) rfl rfl ?_
      exact lc_15 W9 hi hi5 hL hk1 hn1  (fun h1 W1 => nx h1 g W1)
    | 16, _ =>
      refine e_tswI (off := 1154) (tgt := 1198) rc dL_law_44 (by decide) (by decide) rfl rfl ?_
      exact lc_16 W9 hi hi5 hL hk1 hn1  (fun h1 W1 => nx h1 g W1)
    | 17, _ =>
      refine e_tswI (off := 1167) (tgt := 1211) rc dL_law_44 (by decide) (by decide) rfl rfl ?_
      exact lc_17 W9 hi hi5 hL hk1 hn1 q.2.2.2.2.2.2.2.2.2.2.2.2.1 (fun h1 W1 => nx h1 g W1)
    | 18, _ =>
      refine e_tswI (off := 1180) (tgt := 1224) rc dL_law_44 (by decide) (by decide) rfl rfl ?_
      exact lc_18 W9 hi hi5 hL hk1 hn1 q.2.2.2.2.2.2.2.2.2.2.2.2.2.1 (fun h1 W1 => nx h1 g W1)
    | 19, _ =>
      refine e_tswI (off := 1217) (tgt := 1261) rc dL_law_44 (by decide) (by decide) rfl rfl ?_
      exact lc_19 W9 hi hi5 hL hk1 hn1 q.2.2.2.2.2.2.2.2.2.2.2.2.2.2.1 q.2.2.2.2.2.2.2.2.2.2.2.2.2.2.2.1 (fun h1 W1 => nx h1 g W1)
    | 20, _ =>
      refine e_tswI (off := 1288) (tgt := 1332) rc dL_law_44 (by decide) (by decide) rfl rfl ?_
      exact lc_20 W9 hi hi5 hL hk1 hn1  (fun h1 W1 => nx h1 (hT.2.2.2.2.2.2.2.1 _ _ _ _ _ _ _ _ _ _ _ g) W1)
    | 21, _ =>
      refine e_tswI (off := 1368) (tgt := 1412) rc dL_law_44 (by decide) (by decide) rfl rfl ?_
      exact lc_21 W9 hi hi5 hL hk1 hn1  (fun h1 W1 => nx h1 (hT.2.2.2.2.2.2.2.2.1 _ _ _ _ _ _ _ _ _ g) W1)
    | 22, _ =>
      refine e_tswI (off := 1424) (tgt := 1468) rc dL_law_44 (by decide) (by decide) rfl rfl ?_
      exact lc_22 W9 hi hi5 hL hk1 hn1 q.2.2.2.2.2.2.2.2.2.2.2.2.2.2.2.2.1 (fun h1 W1 => nx h1 g W1)
    | 23, _ =>
      refine e_tswI (off := 1487) (tgt := 1531) rc dL_law_44 (by decide) (by decide) rfl rfl ?_
      exact lc_23 W9 hi hi5 hL hk1 hn1  (fun h1 W1 => nx h1 g W1)
    | 24, _ =>
      refine e_tswI (off := 1543) (tgt := 1587) rc dL_law_44 (by decide) (by decide) rfl rfl ?_
      exact lc_24 W9 hi hi5 hL hk1 hn1 q.2.2.2.2.2.2.2.2.2.2.2.2.2.2.2.2.2.1 (fun h1 W1 => nx h1 g W1)
    | 25, _ =>
      refine e_tswI (off := 1599) (tgt := 1643) rc dL_law_44 (by decide) (by decide) rfl rfl ?_
      exact lc_25 W9 hi hi5 hL hk1 hn1 q.2.2.2.2.2.2.2.2.2.2.2.2.2.2.2.2.2.2.1 q.2.2.2.2.2.2.2.2.2.2.2.2.2.2.2.2.2.2.2.1 (fun h1 W1 => nx h1 g W1)
    | 26, _ =>
      refine e_tswI (off := 1655) (tgt := 1699) rc dL_law_44 (by decide) (by decide) rfl rfl ?_
      exact lc_26 W9 hi hi5 hL hk1 hn1 q.2.2.2.2.2.2.2.2.2.2.2.2.2.2.2.2.2.2.2.2.1 q.2.2.2.2.2.2.2.2.2.2.2.2.2.2.2.2.2.2.2.2.2.1 (fun h1 W1 => nx h1 g W1)
    | 27, _ =>
      refine e_tswI (off := 1735) (tgt := 1779) rc dL_law_44 (by decide) (by decide) rfl rfl ?_
      exact lc_27 W9 hi hi5 hL hk1 hn1 q.2.2.2.2.2.2.2.2.2.2.2.2.2.2.2.2.2.2.2.2.2.2.1 (fun h1 W1 => nx h1 g W1)
    | 28, _ =>
      refine e_tswI (off := 1803) (tgt := 1847) rc dL_law_44 (by decide) (by decide) rfl rfl ?_
      exact lc_28 W9 hi hi5 hL hk1 hn1 q.2.2.2.2.2.2.2.2.2.2.2.2.2.2.2.2.2.2.2.2.2.2.2.1 q.2.2.2.2.2.2.2.2.2.2.2.2.2.2.2.2.2.2.2.2.2.2.2.2.1 q.2.2.2.2.2.2.2.2.2.2.2.2.2.2.2.2.2.2.2.2.2.2.2.2.2.1 (fun h1 W1 => nx h1 g W1)
    | 29, _ =>
      refine e_tswI (off := 1859) (tgt := 1903) rc dL_law_44 (by decide) (by decide) rfl rfl ?_
      exact lc_29 W9 hi hi5 hL hk1 hn1 q.2.2.2.2.2.2.2.2.2.2.2.2.2.2.2.2.2.2.2.2.2.2.2.2.2.2.1 q.2.2.2.2.2.2.2.2.2.2.2.2.2.2.2.2.2.2.2.2.2.2.2.2.2.2.2.1 q.2.2.2.2.2.2.2.2.2.2.2.2.2.2.2.2.2.2.2.2.2.2.2.2.2.2.2.2.1 (fun h1 W1 => nx h1 g W1)
    | 30, _ =>
      refine e_tswI (off := 1927) (tgt := 1971) rc dL_law_44 (by decide) (by decide) rfl rfl ?_
      exact lc_30 W9 hi hi5 hL hk1 hn1 q.2.2.2.2.2.2.2.2.2.2.2.2.2.2.2.2.2.2.2.2.2.2.2.2.2.2.2.2.2.1 q.2.2.2.2.2.2.2.2.2.2.2.2.2.2.2.2.2.2.2.2.2.2.2.2.2.2.2.2.2.2.1 (fun h1 W1 => nx h1 g W1)
    | 31, _ =>
      refine e_tswI (off := 2014) (tgt := 2058) rc dL_law_44 (by decide) (by decide) rfl rfl ?_
      exact lc_31 W9 hi hi5 hL hk1 hn1 q.2.2.2.2.2.2.2.2.2.2.2.2.2.2.2.2.2.2.2.2.2.2.2.2.2.2.2.2.2.2.2.1 q.2.2.2.2.2.2.2.2.2.2.2.2.2.2.2.2.2.2.2.2.2.2.2.2.2.2.2.2.2.2.2.2.1 (fun h1 W1 => nx h1 g W1)
    | 32, _ =>
      refine e_tswI (off := 2082) (tgt := 2126) rc dL_law_44 (by decide) (by decide) rfl rfl ?_
      exact lc_32 W9 hi hi5 hL hk1 hn1 q.2.2.2.2.2.2.2.2.2.2.2.2.2.2.2.2.2.2.2.2.2.2.2.2.2.2.2.2.2.2.2.2.2.1 (fun h1 W1 => nx h1 (hT.2.2.2.2.2.2.2.2.2.1 _ _ _ _ _ _ _ _ _ _ _ _ g) W1)
    | 33, _ =>
      refine e_tswI (off := 2174) (tgt := 2218) rc dL_law_44 (by decide) (by decide) rfl rfl ?_
      exact lc_33 W9 hi hi5 hL hk1 hn1  (fun h1 W1 => nx h1 (hT.2.2.2.2.2.2.2.2.2.2.1 _ _ _ _ _ _ _ _ g) W1)
    | 34, _ =>
      refine e_tswI (off := 2187) (tgt := 2231) rc dL_law_44 (by decide) (by decide) rfl rfl ?_
      exact lc_34 W9 hi hi5 hL hk1 hn1  (fun h1 W1 => nx h1 g W1)
    | 35, _ =>
      refine e_tswI (off := 2262) (tgt := 2306) rc dL_law_44 (by decide) (by decide) rfl rfl ?_
      exact lc_35 W9 hi hi5 hL hk1 hn1  (fun h1 W1 => nx h1 g W1)
    | 36, _ =>
      refine e_tswI (off := 2275) (tgt := 2319) rc dL_law_44 (by decide) (by decide) rfl rfl ?_
      exact lc_36 W9 hi hi5 hL hk1 hn1  (fun h1 W1 => nx h1 g W1)
    | 37, _ =>
      refine e_tswI (off := 2331) (tgt := 2375) rc dL_law_44 (by decide) (by decide) rfl rfl ?_
      exact lc_37 W9 hi hi5 hL hk1 hn1  (fun h1 W1 => nx h1 g W1)
    | 38, _ =>
      refine e_tswI (off := 2415) (tgt := 2459) rc dL_law_44 (by decide) (by decide) rfl rfl ?_
      exact lc_38 W9 hi hi5 hL hk1 hn1 q.2.2.2.2.2.2.2.2.2.2.2.2.2.2.2.2.2.2.2.2.2.2.2.2.2.2.2.2.2.2.2.2.2.2.1 q.2.2.2.2.2.2.2.2.2.2.2.2.2.2.2.2.2.2.2.2.2.2.2.2.2.2.2.2.2.2.2.2.2.2.2.1 (fun h1 W1 => nx h1 g W1)
    | 39, _ =>
      refine e_tswI (off := 2499) (tgt := 2543) rc dL_law_44 (by decide) (by decide) rfl rfl ?_
      exact lc_39 W9 hi hi5 hL hk1 hn1 q.2.2.2.2.2.2.2.2.2.2.2.2.2.2.2.2.2.2.2.2.2.2.2.2.2.2.2.2.2.2.2.2.2.2.2.2.1 (fun h1 W1 => nx h1 g W1)
    | 40, _ =>
      refine e_tswI (off := 2567) (tgt := 2611) rc dL_law_44 (by decide) (by decide) rfl rfl ?_
      exact lc_40 W9 hi hi5 hL hk1 hn1 q.2.2.2.2.2.2.2.2.2.2.2.2.2.2.2.2.2.2.2.2.2.2.2.2.2.2.2.2.2.2.2.2.2.2.2.2.2.1 (fun h1 W1 => nx h1 g W1)
    | 41, _ =>
      refine e_tswI (off := 2635) (tgt := 2679) rc dL_law_44 (by decide) (by decide) rfl rfl ?_
      exact lc_41 W9 hi hi5 hL hk1 hn1 q.2.2.2.2.2.2.2.2.2.2.2.2.2.2.2.2.2.2.2.2.2.2.2.2.2.2.2.2.2.2.2.2.2.2.2.2.2.2.1 q.2.2.2.2.2.2.2.2.2.2.2.2.2.2.2.2.2.2.2.2.2.2.2.2.2.2.2.2.2.2.2.2.2.2.2.2.2.2.2.1 (fun h1 W1 => nx h1 g W1)
    | 42, _ =>
      refine e_tswI (off := 2710) (tgt := 2754) rc dL_law_44 (by decide) (by decide) rfl rfl ?_
      exact lc_42 W9 hi hi5 hL hk1 hn1  (fun h1 W1 => nx h1 (hT.2.2.2.2.2.2.2.2.2.2.2.1 _ _ _ _ _ _ _ _ g) W1)
    | 43, _ =>
      refine e_tswI (off := 2723) (tgt := 2767) rc dL_law_44 (by decide) (by decide) rfl rfl ?_
      exact lc_43 W9 hi hi5 hL hk1 hn1 q.2.2.2.2.2.2.2.2.2.2.2.2.2.2.2.2.2.2.2.2.2.2.2.2.2.2.2.2.2.2.2.2.2.2.2.2.2.2.2.2.1 (fun h1 W1 => nx h1 (hT.2.2.2.2.2.2.2.2.2.2.2.2 _ _ _ _ _ _ _ _ g) W1)
    | 44, _ =>
      refine e_tswI (off := 2767) (tgt := 2811) rc dL_law_44 (by decide) (by decide) rfl rfl ?_
      exact lc_44 W9 hi hi5 hL hk1 hn1  (fun h1 W1 => nx h1 g W1)
    | 45, _ =>
      refine e_tswI (off := 2780) (tgt := 2824) rc dL_law_44 (by decide) (by decide) rfl rfl ?_
      exact lc_45 W9 hi hi5 hL hk1 hn1 q.2.2.2.2.2.2.2.2.2.2.2.2.2.2.2.2.2.2.2.2.2.2.2.2.2.2.2.2.2.2.2.2.2.2.2.2.2.2.2.2.2.1 q.2.2.2.2.2.2.2.2.2.2.2.2.2.2.2.2.2.2.2.2.2.2.2.2.2.2.2.2.2.2.2.2.2.2.2.2.2.2.2.2.2.2.1 q.2.2.2.2.2.2.2.2.2.2.2.2.2.2.2.2.2.2.2.2.2.2.2.2.2.2.2.2.2.2.2.2.2.2.2.2.2.2.2.2.2.2.2.1 (fun h1 W1 => nx h1 g W1)
    | 46, _ =>
      refine e_tswI (off := 2857) (tgt := 2901) rc dL_law_44 (by decide) (by decide) rfl rfl ?_
      exact lc_46 W9 hi hi5 hL hk1 hn1 q.2.2.2.2.2.2.2.2.2.2.2.2.2.2.2.2.2.2.2.2.2.2.2.2.2.2.2.2.2.2.2.2.2.2.2.2.2.2.2.2.2.2.2.2.1 q.2.2.2.2.2.2.2.2.2.2.2.2.2.2.2.2.2.2.2.2.2.2.2.2.2.2.2.2.2.2.2.2.2.2.2.2.2.2.2.2.2.2.2.2.2.1 q.2.2.2.2.2.2.2.2.2.2.2.2.2.2.2.2.2.2.2.2.2.2.2.2.2.2.2.2.2.2.2.2.2.2.2.2.2.2.2.2.2.2.2.2.2.2.1 q.2.2.2.2.2.2.2.2.2.2.2.2.2.2.2.2.2.2.2.2.2.2.2.2.2.2.2.2.2.2.2.2.2.2.2.2.2.2.2.2.2.2.2.2.2.2.2.1 (fun h1 W1 => nx h1 g W1)
    | 47, _ =>
      refine e_tswI (off := 2900) (tgt := 2944) rc dL_law_44 (by decide) (by decide) rfl rfl ?_
      exact lc_47 W9 hi hi5 hL hk1 hn1 q.2.2.2.2.2.2.2.2.2.2.2.2.2.2.2.2.2.2.2.2.2.2.2.2.2.2.2.2.2.2.2.2.2.2.2.2.2.2.2.2.2.2.2.2.2.2.2.2.1 q.2.2.2.2.2.2.2.2.2.2.2.2.2.2.2.2.2.2.2.2.2.2.2.2.2.2.2.2.2.2.2.2.2.2.2.2.2.2.2.2.2.2.2.2.2.2.2.2.2 (fun h1 W1 => nx h1 g W1)
    | j + 48, hj => exact absurd hj (by omega)
end LLOOP
