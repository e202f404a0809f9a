/-! The law: its helpers -/
theorem plL : plainName RL = true := by decide +kernel
set_option maxRecDepth 20000 in
theorem wLx13 : (.classLink RL 13 "java/lang/IllegalArgumentException" : Cond) ∈ GW := gw2 205 rfl rfl
set_option maxRecDepth 20000 in
theorem wLx15 : (.classLink RL 15 "java/lang/IllegalStateException" : Cond) ∈ GW := gw2 206 rfl rfl
set_option maxRecDepth 20000 in
theorem wLx21 : (.classLink RL 21 "java/lang/IndexOutOfBoundsException" : Cond) ∈ GW := gw3 67 rfl rfl
set_option maxRecDepth 20000 in
theorem wLx42 : (.classLink RL 42 "java/util/NoSuchElementException" : Cond) ∈ GW := gw3 147 rfl rfl
def w32 (v : Int) : Int := (iN v).toInt
def wK (K : Nat × Int) : Nat × Int := (K.1, w32 K.2)
def bK (K : Nat × Int) : Nat × Int := (K.1, if K.2 = 0 then 0 else 1)
theorem iN_w32 (v : Int) : iN (w32 v) = iN v := iN_asI _
theorem rsI_w (Es : List String) (K : Nat × Int) : rsI Es K = rsI Es (wK K) := by
  obtain ⟨c, v⟩ := K
  cases c with
  | zero =>
    show (Sum.inl (some (Value.int (iN v))) : g_O) = Sum.inl (some (Value.int (iN (w32 v))))
    rw [iN_w32]
  | succ c => rfl
def upL (G : g_X) (K : Nat × Int) (ao : Nat) (ag : Nat → Int) (hc : g_hp) : g_hp :=
  match K with
  | (0, v) => g_up hc ao (aL G 1 (uI ag 0 v))
  | (_ + 1, _) => hc
def upD (G : g_X) (K : Nat × UInt64) (ao : Nat) (ag : Nat → UInt64) (hc : g_hp) : g_hp :=
  match K with
  | (0, v) => g_up hc ao (aD G 1 (uD ag 0 v))
  | (_ + 1, _) => hc
abbrev zW (G : g_X) (K : Nat × Int) (P E : PL) (S : Nat → PL) (b : Int) (P2 E2 : PL) (S2 : Nat → PL) (F : PL) (o : Nat) (h0 : g_hp) (ao : Nat) (ag : Nat → Int) : g_Z := fun oc z1 h1 => z1 = none ∧ oc = .inl (some (.int (iN (K.1 : Nat)))) ∧ ∃ hc, (∃ L1 L2 H1 H2 QL QT qa CA CB, hsX G P E S b P2 E2 S2 F L1 L2 H1 H2 QL QT qa CA CB o h0 hc) ∧ h1 = upL G K ao ag hc
abbrev zWD (G : g_X) (K : Nat × UInt64) (P E : PL) (S : Nat → PL) (b : Int) (P2 E2 : PL) (S2 : Nat → PL) (F : PL) (o : Nat) (h0 : g_hp) (ao : Nat) (ag : Nat → UInt64) : g_Z := fun oc z1 h1 => z1 = none ∧ oc = .inl (some (.int (iN (K.1 : Nat)))) ∧ ∃ hc, (∃ L1 L2 H1 H2 QL QT qa CA CB, hsX G P E S b P2 E2 S2 F L1 L2 H1 H2 QL QT qa CA CB o h0 hc) ∧ h1 = upD G K ao ag hc
theorem cif_le {α : Type} {p : Prop} {a b : Nat × α} {n : Nat} (ha : a.1 ≤ n) (hb : b.1 ≤ n) : (cif p a b).1 ≤ n := by
  by_cases c : p
  · rw [cif_t c]; exact ha
  · rw [cif_f c]; exact hb
theorem caI_le (E : PL) (p : Int) (l : Nat) (k : Nat → Nat × Int) (hk : ∀ m, (k m).1 ≤ 1) : ∀ f o m, (caI E p l k f o m).1 ≤ 1
  | 0, _, m => hk m
  | f + 1, o, m => by
    unfold caI
    split
    · split
      · exact Nat.zero_le _
      · exact caI_le E p l k hk f _ _
    · exact caI_le E p l k hk f _ _
theorem caO_le (E : PL) (p : Int) : ∀ f l m, (caO E p f l m).1 ≤ 1
  | 0, _, _ => Nat.le_refl _
  | f + 1, l, m => by
    unfold caO
    exact caI_le _ _ _ _ (fun m => caO_le E p f (l + 1) m) _ _ _
theorem kc_crossingAt (E : PL) (p : Int) : (k_crossingAt E p).1 ≤ 1 := caO_le _ _ _ _ _
theorem kc_point (P : PL) (a x y : Int) : (k_point P a x y).1 ≤ 2 := by
  unfold k_point
  repeat (first | decide | exact Nat.zero_le _ | refine cif_le ?_ ?_ | split)
theorem kc_drop (P : PL) (i : Int) : (k_drop P i).1 ≤ 1 := by
  unfold k_drop
  repeat (first | decide | exact Nat.zero_le _ | refine cif_le ?_ ?_ | split)
theorem kc_pointOf (P : PL) (i w : Int) : (k_pointOf P i w).1 ≤ 2 := by
  unfold k_pointOf
  repeat (first | decide | exact Nat.zero_le _ | refine cif_le ?_ ?_ | split)
theorem kc_count (P : PL) (a : Int) : (k_count P a).1 ≤ 1 := by
  unfold k_count
  repeat (first | decide | exact Nat.zero_le _ | refine cif_le ?_ ?_ | split)
theorem kc_sorted (P : PL) (a p : Int) : (k_sorted P a p).1 ≤ 2 := by
  unfold k_sorted
  repeat (first | decide | exact Nat.zero_le _ | refine cif_le ?_ ?_ | split)
theorem kc_places (P : PL) (a : Int) : (k_places P a).1 ≤ 1 := by
  unfold k_places
  repeat (first | decide | exact Nat.zero_le _ | refine cif_le ?_ ?_ | split)
theorem kc_turn (P : PL) (i j l : Int) : (k_turn P i j l).1 ≤ 1 := by
  unfold k_turn
  repeat (first | decide | exact Nat.zero_le _ | refine cif_le ?_ ?_ | split)
theorem kc_hull (P : PL) (a : Int) : (k_hull P a).1 ≤ 2 := by
  unfold k_hull
  repeat (first | decide | exact Nat.zero_le _ | refine cif_le ?_ ?_ | split)
theorem kc_join (P : PL) (a b1 : Int) : (k_join P a b1).1 ≤ 2 := by
  unfold k_join
  repeat (first | decide | exact Nat.zero_le _ | refine cif_le ?_ ?_ | split)
theorem kc_sum (P : PL) (a b1 : Int) : (k_sum P a b1).1 ≤ 2 := by
  unfold k_sum
  repeat (first | decide | exact Nat.zero_le _ | refine cif_le ?_ ?_ | split)
theorem kc_layers (P : PL) (a : Int) : (k_layers P a).1 ≤ 1 := by
  unfold k_layers
  repeat (first | decide | exact Nat.zero_le _ | refine cif_le ?_ ?_ | split)
theorem kc_layer (P : PL) (a l : Int) : (k_layer P a l).1 ≤ 2 := by
  unfold k_layer
  repeat (first | decide | exact Nat.zero_le _ | refine cif_le ?_ ?_ | split)
theorem kc_hullOf (S : Nat → PL) (j : Int) : (k_hullOf S j).1 ≤ 2 := by
  unfold k_hullOf
  repeat (first | decide | exact Nat.zero_le _ | refine cif_le ?_ ?_ | split)
theorem kc_corner (F : PL) (k : Int) (u : Prop) [Decidable u] : (k_corner F k u).1 ≤ 1 := by
  unfold k_corner
  repeat (first | decide | exact Nat.zero_le _ | refine cif_le ?_ ?_ | split)
theorem kc_width (F : PL) (u : Prop) [Decidable u] : (k_width F u).1 ≤ 1 := by
  unfold k_width
  repeat (first | decide | exact Nat.zero_le _ | refine cif_le ?_ ?_ | split)
theorem kc_add (S : Nat → PL) (j x y : Int) : (k_add S j x y).1 ≤ 2 := by
  unfold k_add
  repeat (first | decide | exact Nat.zero_le _ | refine cif_le ?_ ?_ | split)
theorem kc_clear (S : Nat → PL) (j : Int) : (k_clear S j).1 ≤ 1 := by
  unfold k_clear
  repeat (first | decide | exact Nat.zero_le _ | refine cif_le ?_ ?_ | split)
theorem kc_isSimple (S : Nat → PL) (j : Int) : (k_isSimple S j).1 ≤ 1 := by
  unfold k_isSimple
  repeat (first | decide | exact Nat.zero_le _ | refine cif_le ?_ ?_ | split)
theorem kc_polygonArea (S : Nat → PL) (j : Int) : (k_polygonArea S j).1 ≤ 1 := by
  unfold k_polygonArea
  repeat (first | decide | exact Nat.zero_le _ | refine cif_le ?_ ?_ | split)
theorem kc_polygonEdge (S : Nat → PL) (j : Int) : (k_polygonEdge S j).1 ≤ 2 := by
  unfold k_polygonEdge
  repeat (first | decide | exact Nat.zero_le _ | refine cif_le ?_ ?_ | split)
theorem kc_polygonInner (S : Nat → PL) (j : Int) : (k_polygonInner S j).1 ≤ 2 := by
  unfold k_polygonInner
  repeat (first | decide | exact Nat.zero_le _ | refine cif_le ?_ ?_ | split)
theorem kc_polygonLies (S : Nat → PL) (j x y : Int) : (k_polygonLies S j x y).1 ≤ 2 := by
  unfold k_polygonLies
  repeat (first | decide | exact Nat.zero_le _ | refine cif_le ?_ ?_ | split)
theorem kc_holds (P : PL) (S : Nat → PL) (j a : Int) : (k_holds P S j a).1 ≤ 2 := by
  unfold k_holds
  repeat (first | decide | exact Nat.zero_le _ | refine cif_le ?_ ?_ | split)
theorem kc_triangles (S : Nat → PL) (j : Int) : (k_triangles S j).1 ≤ 2 := by
  unfold k_triangles
  repeat (first | decide | exact Nat.zero_le _ | refine cif_le ?_ ?_ | split)
theorem kc_triangleAt (S : Nat → PL) (j t : Int) : (k_triangleAt S j t).1 ≤ 3 := by
  unfold k_triangleAt
  repeat (first | decide | exact Nat.zero_le _ | refine cif_le ?_ ?_ | split)
theorem kc_sees (S : Nat → PL) (j k l : Int) : (k_sees S j k l).1 ≤ 3 := by
  unfold k_sees
  repeat (first | decide | exact Nat.zero_le _ | refine cif_le ?_ ?_ | split)
theorem kc_view (S : Nat → PL) (j k : Int) : (k_view S j k).1 ≤ 3 := by
  unfold k_view
  repeat (first | decide | exact Nat.zero_le _ | refine cif_le ?_ ?_ | split)
theorem kc_line (E : PL) (x y u v : Int) : (k_line E x y u v).1 ≤ 2 := by
  unfold k_line
  repeat (first | decide | exact Nat.zero_le _ | refine cif_le ?_ ?_ | split)
theorem kc_cross (E : PL) (l m : Int) : (k_cross E l m).1 ≤ 1 := by
  unfold k_cross
  repeat (first | decide | exact Nat.zero_le _ | refine cif_le ?_ ?_ | split)
theorem kc_pair (P : PL) (a : Int) (u : Prop) [Decidable u] : (k_pair P a u).1 ≤ 2 := by
  unfold k_pair
  repeat (first | decide | exact Nat.zero_le _ | refine cif_le ?_ ?_ | split)
theorem kc_distance (P : PL) (a : Int) (u : Prop) [Decidable u] : (k_distance P a u).1 ≤ 2 := by
  unfold k_distance
  repeat (first | decide | exact Nat.zero_le _ | refine cif_le ?_ ?_ | split)
theorem kc_box (P : PL) (a w : Int) : (k_box P a w).1 ≤ 2 := by
  unfold k_box
  repeat (first | decide | exact Nat.zero_le _ | refine cif_le ?_ ?_ | split)
theorem kc_fence (P : PL) (a p : Int) : (k_fence P a p).1 ≤ 2 := by
  unfold k_fence
  repeat (first | decide | exact Nat.zero_le _ | refine cif_le ?_ ?_ | split)
theorem kc_apart (P : PL) (a b1 : Int) : (k_apart P a b1).1 ≤ 2 := by
  unfold k_apart
  repeat (first | decide | exact Nat.zero_le _ | refine cif_le ?_ ?_ | split)
theorem kc_restore (b : Int) (P2 : PL) : (k_restore b P2).1 ≤ 1 := by
  unfold k_restore
  repeat (first | decide | exact Nat.zero_le _ | refine cif_le ?_ ?_ | split)
theorem kc_meanFar (P : PL) (a : Int) : (k_meanFar P a).1 ≤ 1 := by
  unfold k_meanFar
  repeat (first | decide | exact Nat.zero_le _ | refine cif_le ?_ ?_ | split)
section LHELP
variable {G : g_X} {P E : PL} {S : Nat → PL} {b : Int} {P2 E2 : PL} {S2 : Nat → PL} {F L1 L2 H1 H2 : PL} {QL : PL} {QT : List Int} {qa : Int} {CA CB : PL} {o : Nat} {h0 h : g_hp} {ao : Nat}
set_option maxRecDepth 20000 in
theorem H_point {ag : Nat → Int} (X : hsX G P E S b P2 E2 S2 F L1 L2 H1 H2 QL QT qa CA CB o h0 h) (fa : h0 ao = some (aL G 1 ag)) (na : ao < o ∨ o + 96 ≤ ao) {a : Int} (ra : r32 a) {x : Int} (rx : r32 x) {y : Int} (ry : r32 y) : Run G mL_point [.ref o, .int (iN a), .int (iN x), .int (iN y), .ref ao] none h 1 6 (zW G (wK ((k_point P a x y))) (s_point P a x y) E S b P2 E2 S2 F o h0 ao ag) := by
  have HC := C_point X ra rx ry
  rw [rsI_w] at HC
  have hk : (wK ((k_point P a x y))).1 ≤ 2 := by first | exact kc_point | exact kc_point _ | exact kc_point _ _ | exact kc_point _ _ _ | exact kc_point _ _ _ _ | exact kc_point _ _ _ _ _
  have hv : r32 (wK ((k_point P a x y))).2 := r32_of _
  generalize wK ((k_point P a x y)) = KK at HC hk hv ⊢
  obtain ⟨cc, vv⟩ := KK
  refine run_ofH rfl plL rfl ?_
  refine e_aload dL_point_0 rfl ?_
  refine e_iconst dL_point_2 ?_
  refine e_aload_n dL_point_3 rfl ?_
  refine e_iload_n dL_point_4 rfl ?_
  refine e_iload_n dL_point_5 rfl ?_
  refine e_iload_n dL_point_6 rfl ?_
  refine e_callV qcL_7 X.obj rfl rfl HC rfl rfl rfl rfl dL_point_7 (fun E9 z9 h9 w => ?_) (fun v9 z9 h9 w => ?_)
  · obtain ⟨rfl, w2, l1, l2, l3, l4, l5, l6, l7, l8, l9, X9⟩ := w
    rcases cc with _ | cc
    · exact nomatch w2
    rcases cc with _ | cc
    · have e2 : E9 = xIAE := Sum.inr.inj w2
      subst e2
      refine ex_catch [] ⟨0, 12, 15, 13⟩ [⟨0, 12, 19, 15⟩] rfl (by decide) (fun y hy => absurd hy List.not_mem_nil) (by decide) (by decide) wLx13 (by decide) (fun q9 => ?_)
      refine e_astore dL_point_15 rfl ?_
      refine e_iconst dL_point_17 ?_
      refine e_iret rfl dL_point_18 (by decide) (by decide) ?_
      exact ⟨rfl, rfl, h9, ⟨_, _, _, _, _, _, _, _, _, X9⟩, rfl⟩
    rcases cc with _ | cc
    · have e2 : E9 = xISE := Sum.inr.inj w2
      subst e2
      refine ex_catch [⟨0, 12, 15, 13⟩] ⟨0, 12, 19, 15⟩ [] rfl (by decide) (List.forall_mem_cons.mpr ⟨⟨by decide, xIAE, by decide, by decide, wLx13⟩, fun y hy => absurd hy List.not_mem_nil⟩) (by decide) (by decide) wLx15 (by decide) (fun q9 => ?_)
      refine e_astore dL_point_19 rfl ?_
      refine e_iconst dL_point_21 ?_
      refine e_iret rfl dL_point_22 (by decide) (by decide) ?_
      exact ⟨rfl, rfl, h9, ⟨_, _, _, _, _, _, _, _, _, X9⟩, rfl⟩
    exact absurd hk (by show ¬ (_ ≤ _); omega)
  · obtain ⟨rfl, w2, l1, l2, l3, l4, l5, l6, l7, l8, l9, X9⟩ := w
    rcases cc with _ | cc
    · have e2 : v9 = some (.int (iN vv)) := Sum.inl.inj w2
      subst e2
      refine (show Ev _ _ _ _ _ _ _ (.int (iN vv) :: .int (iN 0) :: .ref ao :: []) from ?_)
      refine e_i2l hv dL_point_10 ?_
      refine e_lastore ((X9.fr ao na).trans fa) (by omega) (by omega) rfl dL_point_11 ?_
      refine e_goto (tgt := 23) dL_point_12 rfl ?_
      refine e_iconst dL_point_23 ?_
      refine e_iret rfl dL_point_24 (by decide) (by decide) ?_
      exact ⟨rfl, rfl, h9, ⟨_, _, _, _, _, _, _, _, _, X9⟩, rfl⟩
    · exact nomatch w2
set_option maxRecDepth 20000 in
theorem H_drop {ag : Nat → Int} (X : hsX G P E S b P2 E2 S2 F L1 L2 H1 H2 QL QT qa CA CB o h0 h) (fa : h0 ao = some (aL G 1 ag)) (na : ao < o ∨ o + 96 ≤ ao) {i : Int} (ri : r32 i) : Run G mL_drop [.ref o, .int (iN i), .ref ao] none h 1 6 (zW G (wK ((k_drop P i))) (s_drop P i) E S b P2 E2 S2 F o h0 ao ag) := by
  have HC := C_drop X ri
  rw [rsI_w] at HC
  have hk : (wK ((k_drop P i))).1 ≤ 1 := by first | exact kc_drop | exact kc_drop _ | exact kc_drop _ _ | exact kc_drop _ _ _ | exact kc_drop _ _ _ _ | exact kc_drop _ _ _ _ _
  have hv : r32 (wK ((k_drop P i))).2 := r32_of _
  generalize wK ((k_drop P i)) = KK at HC hk hv ⊢
  obtain ⟨cc, vv⟩ := KK
  refine run_ofH rfl plL rfl ?_
  refine e_aload_n dL_drop_0 rfl ?_
  refine e_iconst dL_drop_1 ?_
  refine e_aload_n dL_drop_2 rfl ?_
  refine e_iload_n dL_drop_3 rfl ?_
  refine e_callV qcL_17 X.obj rfl rfl HC rfl rfl rfl rfl dL_drop_4 (fun E9 z9 h9 w => ?_) (fun v9 z9 h9 w => ?_)
  · obtain ⟨rfl, w2, l1, l2, l3, l4, l5, l6, l7, l8, l9, X9⟩ := w
    rcases cc with _ | cc
    · exact nomatch w2
    rcases cc with _ | cc
    · have e2 : E9 = xIOB := Sum.inr.inj w2
      subst e2
      refine ex_catch [] ⟨0, 9, 12, 21⟩ [] rfl (by decide) (fun y hy => absurd hy List.not_mem_nil) (by decide) (by decide) wLx21 (by decide) (fun q9 => ?_)
      refine e_astore_n dL_drop_12 rfl ?_
      refine e_iconst dL_drop_13 ?_
      refine e_iret rfl dL_drop_14 (by decide) (by decide) ?_
      exact ⟨rfl, rfl, h9, ⟨_, _, _, _, _, _, _, _, _, X9⟩, rfl⟩
    exact absurd hk (by show ¬ (_ ≤ _); omega)
  · obtain ⟨rfl, w2, l1, l2, l3, l4, l5, l6, l7, l8, l9, X9⟩ := w
    rcases cc with _ | cc
    · have e2 : v9 = some (.int (iN vv)) := Sum.inl.inj w2
      subst e2
      refine (show Ev _ _ _ _ _ _ _ (.int (iN vv) :: .int (iN 0) :: .ref ao :: []) from ?_)
      refine e_i2l hv dL_drop_7 ?_
      refine e_lastore ((X9.fr ao na).trans fa) (by omega) (by omega) rfl dL_drop_8 ?_
      refine e_goto (tgt := 15) dL_drop_9 rfl ?_
      refine e_iconst dL_drop_15 ?_
      refine e_iret rfl dL_drop_16 (by decide) (by decide) ?_
      exact ⟨rfl, rfl, h9, ⟨_, _, _, _, _, _, _, _, _, X9⟩, rfl⟩
    · exact nomatch w2
set_option maxRecDepth 20000 in
theorem H_pointOf {ag : Nat → Int} (X : hsX G P E S b P2 E2 S2 F L1 L2 H1 H2 QL QT qa CA CB o h0 h) (fa : h0 ao = some (aL G 1 ag)) (na : ao < o ∨ o + 96 ≤ ao) {i : Int} (ri : r32 i) {w : Int} (rw : r32 w) : Run G mL_pointOf [.ref o, .int (iN i), .int (iN w), .ref ao] none h 1 6 (zW G (wK ((k_pointOf P i w))) P E S b P2 E2 S2 F o h0 ao ag) := by
  have HC := C_pointOf X ri rw
  rw [rsI_w] at HC
  have hk : (wK ((k_pointOf P i w))).1 ≤ 2 := by first | exact kc_pointOf | exact kc_pointOf _ | exact kc_pointOf _ _ | exact kc_pointOf _ _ _ | exact kc_pointOf _ _ _ _ | exact kc_pointOf _ _ _ _ _
  have hv : r32 (wK ((k_pointOf P i w))).2 := r32_of _
  generalize wK ((k_pointOf P i w)) = KK at HC hk hv ⊢
  obtain ⟨cc, vv⟩ := KK
  refine run_ofH rfl plL rfl ?_
  refine e_aload_n dL_pointOf_0 rfl ?_
  refine e_iconst dL_pointOf_1 ?_
  refine e_aload_n dL_pointOf_2 rfl ?_
  refine e_iload_n dL_pointOf_3 rfl ?_
  refine e_iload_n dL_pointOf_4 rfl ?_
  refine e_callV qcL_23 X.obj rfl rfl HC rfl rfl rfl rfl dL_pointOf_5 (fun E9 z9 h9 w => ?_) (fun v9 z9 h9 w => ?_)
  · obtain ⟨rfl, w2, l1, l2, l3, l4, l5, l6, l7, l8, l9, X9⟩ := w
    rcases cc with _ | cc
    · exact nomatch w2
    rcases cc with _ | cc
    · have e2 : E9 = xIOB := Sum.inr.inj w2
      subst e2
      refine ex_catch [] ⟨0, 10, 13, 21⟩ [⟨0, 10, 17, 13⟩] rfl (by decide) (fun y hy => absurd hy List.not_mem_nil) (by decide) (by decide) wLx21 (by decide) (fun q9 => ?_)
      refine e_astore dL_pointOf_13 rfl ?_
      refine e_iconst dL_pointOf_15 ?_
      refine e_iret rfl dL_pointOf_16 (by decide) (by decide) ?_
      exact ⟨rfl, rfl, h9, ⟨_, _, _, _, _, _, _, _, _, X9⟩, rfl⟩
    rcases cc with _ | cc
    · have e2 : E9 = xIAE := Sum.inr.inj w2
      subst e2
      refine ex_catch [⟨0, 10, 13, 21⟩] ⟨0, 10, 17, 13⟩ [] rfl (by decide) (List.forall_mem_cons.mpr ⟨⟨by decide, xIOB, by decide, by decide, wLx21⟩, fun y hy => absurd hy List.not_mem_nil⟩) (by decide) (by decide) wLx13 (by decide) (fun q9 => ?_)
      refine e_astore dL_pointOf_17 rfl ?_
      refine e_iconst dL_pointOf_19 ?_
      refine e_iret rfl dL_pointOf_20 (by decide) (by decide) ?_
      exact ⟨rfl, rfl, h9, ⟨_, _, _, _, _, _, _, _, _, X9⟩, rfl⟩
    exact absurd hk (by show ¬ (_ ≤ _); omega)
  · obtain ⟨rfl, w2, l1, l2, l3, l4, l5, l6, l7, l8, l9, X9⟩ := w
    rcases cc with _ | cc
    · have e2 : v9 = some (.int (iN vv)) := Sum.inl.inj w2
      subst e2
      refine (show Ev _ _ _ _ _ _ _ (.int (iN vv) :: .int (iN 0) :: .ref ao :: []) from ?_)
      refine e_i2l hv dL_pointOf_8 ?_
      refine e_lastore ((X9.fr ao na).trans fa) (by omega) (by omega) rfl dL_pointOf_9 ?_
      refine e_goto (tgt := 21) dL_pointOf_10 rfl ?_
      refine e_iconst dL_pointOf_21 ?_
      refine e_iret rfl dL_pointOf_22 (by decide) (by decide) ?_
      exact ⟨rfl, rfl, h9, ⟨_, _, _, _, _, _, _, _, _, X9⟩, rfl⟩
    · exact nomatch w2
set_option maxRecDepth 20000 in
theorem H_count {ag : Nat → Int} (X : hsX G P E S b P2 E2 S2 F L1 L2 H1 H2 QL QT qa CA CB o h0 h) (fa : h0 ao = some (aL G 1 ag)) (na : ao < o ∨ o + 96 ≤ ao) {a : Int} (ra : r32 a) : Run G mL_count [.ref o, .int (iN a), .ref ao] none h 1 6 (zW G (wK ((k_count P a))) P E S b P2 E2 S2 F o h0 ao ag) := by
  have HC := C_count X ra
  rw [rsI_w] at HC
  have hk : (wK ((k_count P a))).1 ≤ 1 := by first | exact kc_count | exact kc_count _ | exact kc_count _ _ | exact kc_count _ _ _ | exact kc_count _ _ _ _ | exact kc_count _ _ _ _ _
  have hv : r32 (wK ((k_count P a))).2 := r32_of _
  generalize wK ((k_count P a)) = KK at HC hk hv ⊢
  obtain ⟨cc, vv⟩ := KK
  refine run_ofH rfl plL rfl ?_
  refine e_aload_n dL_count_0 rfl ?_
  refine e_iconst dL_count_1 ?_
  refine e_aload_n dL_count_2 rfl ?_
  refine e_iload_n dL_count_3 rfl ?_
  refine e_callV qcL_27 X.obj rfl rfl HC rfl rfl rfl rfl dL_count_4 (fun E9 z9 h9 w => ?_) (fun v9 z9 h9 w => ?_)
  · obtain ⟨rfl, w2, l1, l2, l3, l4, l5, l6, l7, l8, l9, X9⟩ := w
    rcases cc with _ | cc
    · exact nomatch w2
    rcases cc with _ | cc
    · have e2 : E9 = xIAE := Sum.inr.inj w2
      subst e2
      refine ex_catch [] ⟨0, 9, 12, 13⟩ [] rfl (by decide) (fun y hy => absurd hy List.not_mem_nil) (by decide) (by decide) wLx13 (by decide) (fun q9 => ?_)
      refine e_astore_n dL_count_12 rfl ?_
      refine e_iconst dL_count_13 ?_
      refine e_iret rfl dL_count_14 (by decide) (by decide) ?_
      exact ⟨rfl, rfl, h9, ⟨_, _, _, _, _, _, _, _, _, X9⟩, rfl⟩
    exact absurd hk (by show ¬ (_ ≤ _); omega)
  · obtain ⟨rfl, w2, l1, l2, l3, l4, l5, l6, l7, l8, l9, X9⟩ := w
    rcases cc with _ | cc
    · have e2 : v9 = some (.int (iN vv)) := Sum.inl.inj w2
      subst e2
      refine (show Ev _ _ _ _ _ _ _ (.int (iN vv) :: .int (iN 0) :: .ref ao :: []) from ?_)
      refine e_i2l hv dL_count_7 ?_
      refine e_lastore ((X9.fr ao na).trans fa) (by omega) (by omega) rfl dL_count_8 ?_
      refine e_goto (tgt := 15) dL_count_9 rfl ?_
      refine e_iconst dL_count_15 ?_
      refine e_iret rfl dL_count_16 (by decide) (by decide) ?_
      exact ⟨rfl, rfl, h9, ⟨_, _, _, _, _, _, _, _, _, X9⟩, rfl⟩
    · exact nomatch w2
set_option maxRecDepth 20000 in
theorem H_sorted {ag : Nat → Int} (X : hsX G P E S b P2 E2 S2 F L1 L2 H1 H2 QL QT qa CA CB o h0 h) (fa : h0 ao = some (aL G 1 ag)) (na : ao < o ∨ o + 96 ≤ ao) {a : Int} (ra : r32 a) {p : Int} (rp : r32 p) : Run G mL_sorted [.ref o, .int (iN a), .int (iN p), .ref ao] none h 1 6 (zW G (wK ((k_sorted P a p))) P E S b P2 E2 S2 F o h0 ao ag) := by
  have HC := C_sorted X ra rp
  rw [rsI_w] at HC
  have hk : (wK ((k_sorted P a p))).1 ≤ 2 := by first | exact kc_sorted | exact kc_sorted _ | exact kc_sorted _ _ | exact kc_sorted _ _ _ | exact kc_sorted _ _ _ _ | exact kc_sorted _ _ _ _ _
  have hv : r32 (wK ((k_sorted P a p))).2 := r32_of _
  generalize wK ((k_sorted P a p)) = KK at HC hk hv ⊢
  obtain ⟨cc, vv⟩ := KK
  refine run_ofH rfl plL rfl ?_
  refine e_aload_n dL_sorted_0 rfl ?_
  refine e_iconst dL_sorted_1 ?_
  refine e_aload_n dL_sorted_2 rfl ?_
  refine e_iload_n dL_sorted_3 rfl ?_
  refine e_iload_n dL_sorted_4 rfl ?_
  refine e_callV qcL_30 X.obj rfl rfl HC rfl rfl rfl rfl dL_sorted_5 (fun E9 z9 h9 w => ?_) (fun v9 z9 h9 w => ?_)
  · obtain ⟨rfl, w2, l1, l2, l3, l4, l5, l6, l7, l8, l9, X9⟩ := w
    rcases cc with _ | cc
    · exact nomatch w2
    rcases cc with _ | cc
    · have e2 : E9 = xIAE := Sum.inr.inj w2
      subst e2
      refine ex_catch [] ⟨0, 10, 13, 13⟩ [⟨0, 10, 17, 21⟩] rfl (by decide) (fun y hy => absurd hy List.not_mem_nil) (by decide) (by decide) wLx13 (by decide) (fun q9 => ?_)
      refine e_astore dL_sorted_13 rfl ?_
      refine e_iconst dL_sorted_15 ?_
      refine e_iret rfl dL_sorted_16 (by decide) (by decide) ?_
      exact ⟨rfl, rfl, h9, ⟨_, _, _, _, _, _, _, _, _, X9⟩, rfl⟩
    rcases cc with _ | cc
    · have e2 : E9 = xIOB := Sum.inr.inj w2
      subst e2
      refine ex_catch [⟨0, 10, 13, 13⟩] ⟨0, 10, 17, 21⟩ [] rfl (by decide) (List.forall_mem_cons.mpr ⟨⟨by decide, xIAE, by decide, by decide, wLx13⟩, fun y hy => absurd hy List.not_mem_nil⟩) (by decide) (by decide) wLx21 (by decide) (fun q9 => ?_)
      refine e_astore dL_sorted_17 rfl ?_
      refine e_iconst dL_sorted_19 ?_
      refine e_iret rfl dL_sorted_20 (by decide) (by decide) ?_
      exact ⟨rfl, rfl, h9, ⟨_, _, _, _, _, _, _, _, _, X9⟩, rfl⟩
    exact absurd hk (by show ¬ (_ ≤ _); omega)
  · obtain ⟨rfl, w2, l1, l2, l3, l4, l5, l6, l7, l8, l9, X9⟩ := w
    rcases cc with _ | cc
    · have e2 : v9 = some (.int (iN vv)) := Sum.inl.inj w2
      subst e2
      refine (show Ev _ _ _ _ _ _ _ (.int (iN vv) :: .int (iN 0) :: .ref ao :: []) from ?_)
      refine e_i2l hv dL_sorted_8 ?_
      refine e_lastore ((X9.fr ao na).trans fa) (by omega) (by omega) rfl dL_sorted_9 ?_
      refine e_goto (tgt := 21) dL_sorted_10 rfl ?_
      refine e_iconst dL_sorted_21 ?_
      refine e_iret rfl dL_sorted_22 (by decide) (by decide) ?_
      exact ⟨rfl, rfl, h9, ⟨_, _, _, _, _, _, _, _, _, X9⟩, rfl⟩
    · exact nomatch w2
set_option maxRecDepth 20000 in
theorem H_places {ag : Nat → Int} (X : hsX G P E S b P2 E2 S2 F L1 L2 H1 H2 QL QT qa CA CB o h0 h) (fa : h0 ao = some (aL G 1 ag)) (na : ao < o ∨ o + 96 ≤ ao) {a : Int} (ra : r32 a) : Run G mL_places [.ref o, .int (iN a), .ref ao] none h 1 6 (zW G (wK ((k_places P a))) P E S b P2 E2 S2 F o h0 ao ag) := by
  have HC := C_places X ra
  rw [rsI_w] at HC
  have hk : (wK ((k_places P a))).1 ≤ 1 := by first | exact kc_places | exact kc_places _ | exact kc_places _ _ | exact kc_places _ _ _ | exact kc_places _ _ _ _ | exact kc_places _ _ _ _ _
  have hv : r32 (wK ((k_places P a))).2 := r32_of _
  generalize wK ((k_places P a)) = KK at HC hk hv ⊢
  obtain ⟨cc, vv⟩ := KK
  refine run_ofH rfl plL rfl ?_
  refine e_aload_n dL_places_0 rfl ?_
  refine e_iconst dL_places_1 ?_
  refine e_aload_n dL_places_2 rfl ?_
  refine e_iload_n dL_places_3 rfl ?_
  refine e_callV qcL_33 X.obj rfl rfl HC rfl rfl rfl rfl dL_places_4 (fun E9 z9 h9 w => ?_) (fun v9 z9 h9 w => ?_)
  · obtain ⟨rfl, w2, l1, l2, l3, l4, l5, l6, l7, l8, l9, X9⟩ := w
    rcases cc with _ | cc
    · exact nomatch w2
    rcases cc with _ | cc
    · have e2 : E9 = xIAE := Sum.inr.inj w2
      subst e2
      refine ex_catch [] ⟨0, 9, 12, 13⟩ [] rfl (by decide) (fun y hy => absurd hy List.not_mem_nil) (by decide) (by decide) wLx13 (by decide) (fun q9 => ?_)
      refine e_astore_n dL_places_12 rfl ?_
      refine e_iconst dL_places_13 ?_
      refine e_iret rfl dL_places_14 (by decide) (by decide) ?_
      exact ⟨rfl, rfl, h9, ⟨_, _, _, _, _, _, _, _, _, X9⟩, rfl⟩
    exact absurd hk (by show ¬ (_ ≤ _); omega)
  · obtain ⟨rfl, w2, l1, l2, l3, l4, l5, l6, l7, l8, l9, X9⟩ := w
    rcases cc with _ | cc
    · have e2 : v9 = some (.int (iN vv)) := Sum.inl.inj w2
      subst e2
      refine (show Ev _ _ _ _ _ _ _ (.int (iN vv) :: .int (iN 0) :: .ref ao :: []) from ?_)
      refine e_i2l hv dL_places_7 ?_
      refine e_lastore ((X9.fr ao na).trans fa) (by omega) (by omega) rfl dL_places_8 ?_
      refine e_goto (tgt := 15) dL_places_9 rfl ?_
      refine e_iconst dL_places_15 ?_
      refine e_iret rfl dL_places_16 (by decide) (by decide) ?_
      exact ⟨rfl, rfl, h9, ⟨_, _, _, _, _, _, _, _, _, X9⟩, rfl⟩
    · exact nomatch w2
set_option maxRecDepth 20000 in
theorem H_turn {ag : Nat → Int} (X : hsX G P E S b P2 E2 S2 F L1 L2 H1 H2 QL QT qa CA CB o h0 h) (fa : h0 ao = some (aL G 1 ag)) (na : ao < o ∨ o + 96 ≤ ao) {i : Int} (ri : r32 i) {j : Int} (rj : r32 j) {l : Int} (rl : r32 l) : Run G mL_turn [.ref o, .int (iN i), .int (iN j), .int (iN l), .ref ao] none h 1 6 (zW G (wK ((k_turn P i j l))) P E S b P2 E2 S2 F o h0 ao ag) := by
  have HC := C_turn X ri rj rl
  rw [rsI_w] at HC
  have hk : (wK ((k_turn P i j l))).1 ≤ 1 := by first | exact kc_turn | exact kc_turn _ | exact kc_turn _ _ | exact kc_turn _ _ _ | exact kc_turn _ _ _ _ | exact kc_turn _ _ _ _ _
  have hv : r32 (wK ((k_turn P i j l))).2 := r32_of _
  generalize wK ((k_turn P i j l)) = KK at HC hk hv ⊢
  obtain ⟨cc, vv⟩ := KK
  refine run_ofH rfl plL rfl ?_
  refine e_aload dL_turn_0 rfl ?_
  refine e_iconst dL_turn_2 ?_
  refine e_aload_n dL_turn_3 rfl ?_
  refine e_iload_n dL_turn_4 rfl ?_
  refine e_iload_n dL_turn_5 rfl ?_
  refine e_iload_n dL_turn_6 rfl ?_
  refine e_callV qcL_36 X.obj rfl rfl HC rfl rfl rfl rfl dL_turn_7 (fun E9 z9 h9 w => ?_) (fun v9 z9 h9 w => ?_)
  · obtain ⟨rfl, w2, l1, l2, l3, l4, l5, l6, l7, l8, l9, X9⟩ := w
    rcases cc with _ | cc
    · exact nomatch w2
    rcases cc with _ | cc
    · have e2 : E9 = xIOB := Sum.inr.inj w2
      subst e2
      refine ex_catch [] ⟨0, 12, 15, 21⟩ [] rfl (by decide) (fun y hy => absurd hy List.not_mem_nil) (by decide) (by decide) wLx21 (by decide) (fun q9 => ?_)
      refine e_astore dL_turn_15 rfl ?_
      refine e_iconst dL_turn_17 ?_
      refine e_iret rfl dL_turn_18 (by decide) (by decide) ?_
      exact ⟨rfl, rfl, h9, ⟨_, _, _, _, _, _, _, _, _, X9⟩, rfl⟩
    exact absurd hk (by show ¬ (_ ≤ _); omega)
  · obtain ⟨rfl, w2, l1, l2, l3, l4, l5, l6, l7, l8, l9, X9⟩ := w
    rcases cc with _ | cc
    · have e2 : v9 = some (.int (iN vv)) := Sum.inl.inj w2
      subst e2
      refine (show Ev _ _ _ _ _ _ _ (.int (iN vv) :: .int (iN 0) :: .ref ao :: []) from ?_)
      refine e_i2l hv dL_turn_10 ?_
      refine e_lastore ((X9.fr ao na).trans fa) (by omega) (by omega) rfl dL_turn_11 ?_
      refine e_goto (tgt := 19) dL_turn_12 rfl ?_
      refine e_iconst dL_turn_19 ?_
      refine e_iret rfl dL_turn_20 (by decide) (by decide) ?_
      exact ⟨rfl, rfl, h9, ⟨_, _, _, _, _, _, _, _, _, X9⟩, rfl⟩
    · exact nomatch w2
set_option maxRecDepth 20000 in
theorem H_hull {ag : Nat → Int} (X : hsX G P E S b P2 E2 S2 F L1 L2 H1 H2 QL QT qa CA CB o h0 h) (fa : h0 ao = some (aL G 1 ag)) (na : ao < o ∨ o + 96 ≤ ao) {a : Int} (ra : r32 a) : Run G mL_hull [.ref o, .int (iN a), .ref ao] none h 1 6 (zW G (wK ((k_hull P a))) P E S b P2 E2 S2 (s_hull P a F) o h0 ao ag) := by
  have HC := C_hull X ra
  rw [rsI_w] at HC
  have hk : (wK ((k_hull P a))).1 ≤ 2 := by first | exact kc_hull | exact kc_hull _ | exact kc_hull _ _ | exact kc_hull _ _ _ | exact kc_hull _ _ _ _ | exact kc_hull _ _ _ _ _
  have hv : r32 (wK ((k_hull P a))).2 := r32_of _
  generalize wK ((k_hull P a)) = KK at HC hk hv ⊢
  obtain ⟨cc, vv⟩ := KK
  refine run_ofH rfl plL rfl ?_
  refine e_aload_n dL_hull_0 rfl ?_
  refine e_iconst dL_hull_1 ?_
  refine e_aload_n dL_hull_2 rfl ?_
  refine e_iload_n dL_hull_3 rfl ?_
  refine e_callV qcL_39 X.obj rfl rfl HC rfl rfl rfl rfl dL_hull_4 (fun E9 z9 h9 w => ?_) (fun v9 z9 h9 w => ?_)
  · obtain ⟨rfl, w2, l1, l2, l3, l4, l5, l6, l7, l8, l9, X9⟩ := w
    rcases cc with _ | cc
    · exact nomatch w2
    rcases cc with _ | cc
    · have e2 : E9 = xIAE := Sum.inr.inj w2
      subst e2
      refine ex_catch [] ⟨0, 9, 12, 13⟩ [⟨0, 9, 15, 42⟩] rfl (by decide) (fun y hy => absurd hy List.not_mem_nil) (by decide) (by decide) wLx13 (by decide) (fun q9 => ?_)
      refine e_astore_n dL_hull_12 rfl ?_
      refine e_iconst dL_hull_13 ?_
      refine e_iret rfl dL_hull_14 (by decide) (by decide) ?_
      exact ⟨rfl, rfl, h9, ⟨_, _, _, _, _, _, _, _, _, X9⟩, rfl⟩
    rcases cc with _ | cc
    · have e2 : E9 = xNSE := Sum.inr.inj w2
      subst e2
      refine ex_catch [⟨0, 9, 12, 13⟩] ⟨0, 9, 15, 42⟩ [] rfl (by decide) (List.forall_mem_cons.mpr ⟨⟨by decide, xIAE, by decide, by decide, wLx13⟩, fun y hy => absurd hy List.not_mem_nil⟩) (by decide) (by decide) wLx42 (by decide) (fun q9 => ?_)
      refine e_astore_n dL_hull_15 rfl ?_
      refine e_iconst dL_hull_16 ?_
      refine e_iret rfl dL_hull_17 (by decide) (by decide) ?_
      exact ⟨rfl, rfl, h9, ⟨_, _, _, _, _, _, _, _, _, X9⟩, rfl⟩
    exact absurd hk (by show ¬ (_ ≤ _); omega)
  · obtain ⟨rfl, w2, l1, l2, l3, l4, l5, l6, l7, l8, l9, X9⟩ := w
    rcases cc with _ | cc
    · have e2 : v9 = some (.int (iN vv)) := Sum.inl.inj w2
      subst e2
      refine (show Ev _ _ _ _ _ _ _ (.int (iN vv) :: .int (iN 0) :: .ref ao :: []) from ?_)
      refine e_i2l hv dL_hull_7 ?_
      refine e_lastore ((X9.fr ao na).trans fa) (by omega) (by omega) rfl dL_hull_8 ?_
      refine e_goto (tgt := 18) dL_hull_9 rfl ?_
      refine e_iconst dL_hull_18 ?_
      refine e_iret rfl dL_hull_19 (by decide) (by decide) ?_
      exact ⟨rfl, rfl, h9, ⟨_, _, _, _, _, _, _, _, _, X9⟩, rfl⟩
    · exact nomatch w2
set_option maxRecDepth 20000 in
theorem H_join {ag : Nat → Int} (X : hsX G P E S b P2 E2 S2 F L1 L2 H1 H2 QL QT qa CA CB o h0 h) (fa : h0 ao = some (aL G 1 ag)) (na : ao < o ∨ o + 96 ≤ ao) {a : Int} (ra : r32 a) {b1 : Int} (rb1 : r32 b1) : Run G mL_join [.ref o, .int (iN a), .int (iN b1), .ref ao] none h 1 6 (zW G (wK ((k_join P a b1))) P E S b P2 E2 S2 (s_join P a b1 F) o h0 ao ag) := by
  have HC := C_join X ra rb1
  rw [rsI_w] at HC
  have hk : (wK ((k_join P a b1))).1 ≤ 2 := by first | exact kc_join | exact kc_join _ | exact kc_join _ _ | exact kc_join _ _ _ | exact kc_join _ _ _ _ | exact kc_join _ _ _ _ _
  have hv : r32 (wK ((k_join P a b1))).2 := r32_of _
  generalize wK ((k_join P a b1)) = KK at HC hk hv ⊢
  obtain ⟨cc, vv⟩ := KK
  refine run_ofH rfl plL rfl ?_
  refine e_aload_n dL_join_0 rfl ?_
  refine e_iconst dL_join_1 ?_
  refine e_aload_n dL_join_2 rfl ?_
  refine e_iload_n dL_join_3 rfl ?_
  refine e_iload_n dL_join_4 rfl ?_
  refine e_callV qcL_44 X.obj rfl rfl HC rfl rfl rfl rfl dL_join_5 (fun E9 z9 h9 w => ?_) (fun v9 z9 h9 w => ?_)
  · obtain ⟨rfl, w2, l1, l2, l3, l4, l5, l6, l7, l8, l9, X9⟩ := w
    rcases cc with _ | cc
    · exact nomatch w2
    rcases cc with _ | cc
    · have e2 : E9 = xIAE := Sum.inr.inj w2
      subst e2
      refine ex_catch [] ⟨0, 10, 13, 13⟩ [⟨0, 10, 17, 42⟩] rfl (by decide) (fun y hy => absurd hy List.not_mem_nil) (by decide) (by decide) wLx13 (by decide) (fun q9 => ?_)
      refine e_astore dL_join_13 rfl ?_
      refine e_iconst dL_join_15 ?_
      refine e_iret rfl dL_join_16 (by decide) (by decide) ?_
      exact ⟨rfl, rfl, h9, ⟨_, _, _, _, _, _, _, _, _, X9⟩, rfl⟩
    rcases cc with _ | cc
    · have e2 : E9 = xNSE := Sum.inr.inj w2
      subst e2
      refine ex_catch [⟨0, 10, 13, 13⟩] ⟨0, 10, 17, 42⟩ [] rfl (by decide) (List.forall_mem_cons.mpr ⟨⟨by decide, xIAE, by decide, by decide, wLx13⟩, fun y hy => absurd hy List.not_mem_nil⟩) (by decide) (by decide) wLx42 (by decide) (fun q9 => ?_)
      refine e_astore dL_join_17 rfl ?_
      refine e_iconst dL_join_19 ?_
      refine e_iret rfl dL_join_20 (by decide) (by decide) ?_
      exact ⟨rfl, rfl, h9, ⟨_, _, _, _, _, _, _, _, _, X9⟩, rfl⟩
    exact absurd hk (by show ¬ (_ ≤ _); omega)
  · obtain ⟨rfl, w2, l1, l2, l3, l4, l5, l6, l7, l8, l9, X9⟩ := w
    rcases cc with _ | cc
    · have e2 : v9 = some (.int (iN vv)) := Sum.inl.inj w2
      subst e2
      refine (show Ev _ _ _ _ _ _ _ (.int (iN vv) :: .int (iN 0) :: .ref ao :: []) from ?_)
      refine e_i2l hv dL_join_8 ?_
      refine e_lastore ((X9.fr ao na).trans fa) (by omega) (by omega) rfl dL_join_9 ?_
      refine e_goto (tgt := 21) dL_join_10 rfl ?_
      refine e_iconst dL_join_21 ?_
      refine e_iret rfl dL_join_22 (by decide) (by decide) ?_
      exact ⟨rfl, rfl, h9, ⟨_, _, _, _, _, _, _, _, _, X9⟩, rfl⟩
    · exact nomatch w2
set_option maxRecDepth 20000 in
theorem H_sum {ag : Nat → Int} (X : hsX G P E S b P2 E2 S2 F L1 L2 H1 H2 QL QT qa CA CB o h0 h) (fa : h0 ao = some (aL G 1 ag)) (na : ao < o ∨ o + 96 ≤ ao) {a : Int} (ra : r32 a) {b1 : Int} (rb1 : r32 b1) (hh : ∀ v, cntN P v P.length ≠ 0 → okH (wrapN 61 (putN P v [] P.length)) ∧ 0 < (wrapN 61 (putN P v [] P.length)).length) : Run G mL_sum [.ref o, .int (iN a), .int (iN b1), .ref ao] none h 1 6 (zW G (wK ((k_sum P a b1))) P E S b P2 E2 S2 (s_sum P a b1 F) o h0 ao ag) := by
  have HC := C_sum X ra rb1 hh
  rw [rsI_w] at HC
  have hk : (wK ((k_sum P a b1))).1 ≤ 2 := by first | exact kc_sum | exact kc_sum _ | exact kc_sum _ _ | exact kc_sum _ _ _ | exact kc_sum _ _ _ _ | exact kc_sum _ _ _ _ _
  have hv : r32 (wK ((k_sum P a b1))).2 := r32_of _
  generalize wK ((k_sum P a b1)) = KK at HC hk hv ⊢
  obtain ⟨cc, vv⟩ := KK
  refine run_ofH rfl plL rfl ?_
  refine e_aload_n dL_sum_0 rfl ?_
  refine e_iconst dL_sum_1 ?_
  refine e_aload_n dL_sum_2 rfl ?_
  refine e_iload_n dL_sum_3 rfl ?_
  refine e_iload_n dL_sum_4 rfl ?_
  refine e_callV qcL_47 X.obj rfl rfl HC rfl rfl rfl rfl dL_sum_5 (fun E9 z9 h9 w => ?_) (fun v9 z9 h9 w => ?_)
  · obtain ⟨rfl, w2, l1, l2, l3, l4, l5, l6, l7, l8, l9, X9⟩ := w
    rcases cc with _ | cc
    · exact nomatch w2
    rcases cc with _ | cc
    · have e2 : E9 = xIAE := Sum.inr.inj w2
      subst e2
      refine ex_catch [] ⟨0, 10, 13, 13⟩ [⟨0, 10, 17, 42⟩] rfl (by decide) (fun y hy => absurd hy List.not_mem_nil) (by decide) (by decide) wLx13 (by decide) (fun q9 => ?_)
      refine e_astore dL_sum_13 rfl ?_
      refine e_iconst dL_sum_15 ?_
      refine e_iret rfl dL_sum_16 (by decide) (by decide) ?_
      exact ⟨rfl, rfl, h9, ⟨_, _, _, _, _, _, _, _, _, X9⟩, rfl⟩
    rcases cc with _ | cc
    · have e2 : E9 = xNSE := Sum.inr.inj w2
      subst e2
      refine ex_catch [⟨0, 10, 13, 13⟩] ⟨0, 10, 17, 42⟩ [] rfl (by decide) (List.forall_mem_cons.mpr ⟨⟨by decide, xIAE, by decide, by decide, wLx13⟩, fun y hy => absurd hy List.not_mem_nil⟩) (by decide) (by decide) wLx42 (by decide) (fun q9 => ?_)
      refine e_astore dL_sum_17 rfl ?_
      refine e_iconst dL_sum_19 ?_
      refine e_iret rfl dL_sum_20 (by decide) (by decide) ?_
      exact ⟨rfl, rfl, h9, ⟨_, _, _, _, _, _, _, _, _, X9⟩, rfl⟩
    exact absurd hk (by show ¬ (_ ≤ _); omega)
  · obtain ⟨rfl, w2, l1, l2, l3, l4, l5, l6, l7, l8, l9, X9⟩ := w
    rcases cc with _ | cc
    · have e2 : v9 = some (.int (iN vv)) := Sum.inl.inj w2
      subst e2
      refine (show Ev _ _ _ _ _ _ _ (.int (iN vv) :: .int (iN 0) :: .ref ao :: []) from ?_)
      refine e_i2l hv dL_sum_8 ?_
      refine e_lastore ((X9.fr ao na).trans fa) (by omega) (by omega) rfl dL_sum_9 ?_
      refine e_goto (tgt := 21) dL_sum_10 rfl ?_
      refine e_iconst dL_sum_21 ?_
      refine e_iret rfl dL_sum_22 (by decide) (by decide) ?_
      exact ⟨rfl, rfl, h9, ⟨_, _, _, _, _, _, _, _, _, X9⟩, rfl⟩
    · exact nomatch w2
set_option maxRecDepth 20000 in
theorem H_layers {ag : Nat → Int} (X : hsX G P E S b P2 E2 S2 F L1 L2 H1 H2 QL QT qa CA CB o h0 h) (fa : h0 ao = some (aL G 1 ag)) (na : ao < o ∨ o + 96 ≤ ao) {a : Int} (ra : r32 a) : Run G mL_layers [.ref o, .int (iN a), .ref ao] none h 1 6 (zW G (wK ((k_layers P a))) P E S b P2 E2 S2 F o h0 ao ag) := by
  have HC := C_layers X ra
  rw [rsI_w] at HC
  have hk : (wK ((k_layers P a))).1 ≤ 1 := by first | exact kc_layers | exact kc_layers _ | exact kc_layers _ _ | exact kc_layers _ _ _ | exact kc_layers _ _ _ _ | exact kc_layers _ _ _ _ _
  have hv : r32 (wK ((k_layers P a))).2 := r32_of _
  generalize wK ((k_layers P a)) = KK at HC hk hv ⊢
  obtain ⟨cc, vv⟩ := KK
  refine run_ofH rfl plL rfl ?_
  refine e_aload_n dL_layers_0 rfl ?_
  refine e_iconst dL_layers_1 ?_
  refine e_aload_n dL_layers_2 rfl ?_
  refine e_iload_n dL_layers_3 rfl ?_
  refine e_callV qcL_50 X.obj rfl rfl HC rfl rfl rfl rfl dL_layers_4 (fun E9 z9 h9 w => ?_) (fun v9 z9 h9 w => ?_)
  · obtain ⟨rfl, w2, l1, l2, l3, l4, l5, l6, l7, l8, l9, X9⟩ := w
    rcases cc with _ | cc
    · exact nomatch w2
    rcases cc with _ | cc
    · have e2 : E9 = xIAE := Sum.inr.inj w2
      subst e2
      refine ex_catch [] ⟨0, 9, 12, 13⟩ [] rfl (by decide) (fun y hy => absurd hy List.not_mem_nil) (by decide) (by decide) wLx13 (by decide) (fun q9 => ?_)
      refine e_astore_n dL_layers_12 rfl ?_
      refine e_iconst dL_layers_13 ?_
      refine e_iret rfl dL_layers_14 (by decide) (by decide) ?_
      exact ⟨rfl, rfl, h9, ⟨_, _, _, _, _, _, _, _, _, X9⟩, rfl⟩
    exact absurd hk (by show ¬ (_ ≤ _); omega)
  · obtain ⟨rfl, w2, l1, l2, l3, l4, l5, l6, l7, l8, l9, X9⟩ := w
    rcases cc with _ | cc
    · have e2 : v9 = some (.int (iN vv)) := Sum.inl.inj w2
      subst e2
      refine (show Ev _ _ _ _ _ _ _ (.int (iN vv) :: .int (iN 0) :: .ref ao :: []) from ?_)
      refine e_i2l hv dL_layers_7 ?_
      refine e_lastore ((X9.fr ao na).trans fa) (by omega) (by omega) rfl dL_layers_8 ?_
      refine e_goto (tgt := 15) dL_layers_9 rfl ?_
      refine e_iconst dL_layers_15 ?_
      refine e_iret rfl dL_layers_16 (by decide) (by decide) ?_
      exact ⟨rfl, rfl, h9, ⟨_, _, _, _, _, _, _, _, _, X9⟩, rfl⟩
    · exact nomatch w2
set_option maxRecDepth 20000 in
theorem H_layer {ag : Nat → Int} (X : hsX G P E S b P2 E2 S2 F L1 L2 H1 H2 QL QT qa CA CB o h0 h) (fa : h0 ao = some (aL G 1 ag)) (na : ao < o ∨ o + 96 ≤ ao) {a : Int} (ra : r32 a) {l : Int} (rl : r32 l) : Run G mL_layer [.ref o, .int (iN a), .int (iN l), .ref ao] none h 1 6 (zW G (wK ((k_layer P a l))) P E S b P2 E2 S2 (s_layer P a l F) o h0 ao ag) := by
  have HC := C_layer X ra rl
  rw [rsI_w] at HC
  have hk : (wK ((k_layer P a l))).1 ≤ 2 := by first | exact kc_layer | exact kc_layer _ | exact kc_layer _ _ | exact kc_layer _ _ _ | exact kc_layer _ _ _ _ | exact kc_layer _ _ _ _ _
  have hv : r32 (wK ((k_layer P a l))).2 := r32_of _
  generalize wK ((k_layer P a l)) = KK at HC hk hv ⊢
  obtain ⟨cc, vv⟩ := KK
  refine run_ofH rfl plL rfl ?_
  refine e_aload_n dL_layer_0 rfl ?_
  refine e_iconst dL_layer_1 ?_
  refine e_aload_n dL_layer_2 rfl ?_
  refine e_iload_n dL_layer_3 rfl ?_
  refine e_iload_n dL_layer_4 rfl ?_
  refine e_callV qcL_53 X.obj rfl rfl HC rfl rfl rfl rfl dL_layer_5 (fun E9 z9 h9 w => ?_) (fun v9 z9 h9 w => ?_)
  · obtain ⟨rfl, w2, l1, l2, l3, l4, l5, l6, l7, l8, l9, X9⟩ := w
    rcases cc with _ | cc
    · exact nomatch w2
    rcases cc with _ | cc
    · have e2 : E9 = xIAE := Sum.inr.inj w2
      subst e2
      refine ex_catch [] ⟨0, 10, 13, 13⟩ [⟨0, 10, 17, 21⟩] rfl (by decide) (fun y hy => absurd hy List.not_mem_nil) (by decide) (by decide) wLx13 (by decide) (fun q9 => ?_)
      refine e_astore dL_layer_13 rfl ?_
      refine e_iconst dL_layer_15 ?_
      refine e_iret rfl dL_layer_16 (by decide) (by decide) ?_
      exact ⟨rfl, rfl, h9, ⟨_, _, _, _, _, _, _, _, _, X9⟩, rfl⟩
    rcases cc with _ | cc
    · have e2 : E9 = xIOB := Sum.inr.inj w2
      subst e2
      refine ex_catch [⟨0, 10, 13, 13⟩] ⟨0, 10, 17, 21⟩ [] rfl (by decide) (List.forall_mem_cons.mpr ⟨⟨by decide, xIAE, by decide, by decide, wLx13⟩, fun y hy => absurd hy List.not_mem_nil⟩) (by decide) (by decide) wLx21 (by decide) (fun q9 => ?_)
      refine e_astore dL_layer_17 rfl ?_
      refine e_iconst dL_layer_19 ?_
      refine e_iret rfl dL_layer_20 (by decide) (by decide) ?_
      exact ⟨rfl, rfl, h9, ⟨_, _, _, _, _, _, _, _, _, X9⟩, rfl⟩
    exact absurd hk (by show ¬ (_ ≤ _); omega)
  · obtain ⟨rfl, w2, l1, l2, l3, l4, l5, l6, l7, l8, l9, X9⟩ := w
    rcases cc with _ | cc
    · have e2 : v9 = some (.int (iN vv)) := Sum.inl.inj w2
      subst e2
      refine (show Ev _ _ _ _ _ _ _ (.int (iN vv) :: .int (iN 0) :: .ref ao :: []) from ?_)
      refine e_i2l hv dL_layer_8 ?_
      refine e_lastore ((X9.fr ao na).trans fa) (by omega) (by omega) rfl dL_layer_9 ?_
      refine e_goto (tgt := 21) dL_layer_10 rfl ?_
      refine e_iconst dL_layer_21 ?_
      refine e_iret rfl dL_layer_22 (by decide) (by decide) ?_
      exact ⟨rfl, rfl, h9, ⟨_, _, _, _, _, _, _, _, _, X9⟩, rfl⟩
    · exact nomatch w2
set_option maxRecDepth 20000 in
theorem H_hullOf {ag : Nat → Int} (X : hsX G P E S b P2 E2 S2 F L1 L2 H1 H2 QL QT qa CA CB o h0 h) (fa : h0 ao = some (aL G 1 ag)) (na : ao < o ∨ o + 96 ≤ ao) {j : Int} (rj : r32 j) : Run G mL_hullOf [.ref o, .int (iN j), .ref ao] none h 1 6 (zW G (wK ((k_hullOf S j))) P E S b P2 E2 S2 (s_hullOf S j F) o h0 ao ag) := by
  have HC := C_hullOf X rj
  rw [rsI_w] at HC
  have hk : (wK ((k_hullOf S j))).1 ≤ 2 := by first | exact kc_hullOf | exact kc_hullOf _ | exact kc_hullOf _ _ | exact kc_hullOf _ _ _ | exact kc_hullOf _ _ _ _ | exact kc_hullOf _ _ _ _ _
  have hv : r32 (wK ((k_hullOf S j))).2 := r32_of _
  generalize wK ((k_hullOf S j)) = KK at HC hk hv ⊢
  obtain ⟨cc, vv⟩ := KK
  refine run_ofH rfl plL rfl ?_
  refine e_aload_n dL_hullOf_0 rfl ?_
  refine e_iconst dL_hullOf_1 ?_
  refine e_aload_n dL_hullOf_2 rfl ?_
  refine e_iload_n dL_hullOf_3 rfl ?_
  refine e_callV qcL_56 X.obj rfl rfl HC rfl rfl rfl rfl dL_hullOf_4 (fun E9 z9 h9 w => ?_) (fun v9 z9 h9 w => ?_)
  · obtain ⟨rfl, w2, l1, l2, l3, l4, l5, l6, l7, l8, l9, X9⟩ := w
    rcases cc with _ | cc
    · exact nomatch w2
    rcases cc with _ | cc
    · have e2 : E9 = xIAE := Sum.inr.inj w2
      subst e2
      refine ex_catch [] ⟨0, 9, 12, 13⟩ [⟨0, 9, 15, 42⟩] rfl (by decide) (fun y hy => absurd hy List.not_mem_nil) (by decide) (by decide) wLx13 (by decide) (fun q9 => ?_)
      refine e_astore_n dL_hullOf_12 rfl ?_
      refine e_iconst dL_hullOf_13 ?_
      refine e_iret rfl dL_hullOf_14 (by decide) (by decide) ?_
      exact ⟨rfl, rfl, h9, ⟨_, _, _, _, _, _, _, _, _, X9⟩, rfl⟩
    rcases cc with _ | cc
    · have e2 : E9 = xNSE := Sum.inr.inj w2
      subst e2
      refine ex_catch [⟨0, 9, 12, 13⟩] ⟨0, 9, 15, 42⟩ [] rfl (by decide) (List.forall_mem_cons.mpr ⟨⟨by decide, xIAE, by decide, by decide, wLx13⟩, fun y hy => absurd hy List.not_mem_nil⟩) (by decide) (by decide) wLx42 (by decide) (fun q9 => ?_)
      refine e_astore_n dL_hullOf_15 rfl ?_
      refine e_iconst dL_hullOf_16 ?_
      refine e_iret rfl dL_hullOf_17 (by decide) (by decide) ?_
      exact ⟨rfl, rfl, h9, ⟨_, _, _, _, _, _, _, _, _, X9⟩, rfl⟩
    exact absurd hk (by show ¬ (_ ≤ _); omega)
  · obtain ⟨rfl, w2, l1, l2, l3, l4, l5, l6, l7, l8, l9, X9⟩ := w
    rcases cc with _ | cc
    · have e2 : v9 = some (.int (iN vv)) := Sum.inl.inj w2
      subst e2
      refine (show Ev _ _ _ _ _ _ _ (.int (iN vv) :: .int (iN 0) :: .ref ao :: []) from ?_)
      refine e_i2l hv dL_hullOf_7 ?_
      refine e_lastore ((X9.fr ao na).trans fa) (by omega) (by omega) rfl dL_hullOf_8 ?_
      refine e_goto (tgt := 18) dL_hullOf_9 rfl ?_
      refine e_iconst dL_hullOf_18 ?_
      refine e_iret rfl dL_hullOf_19 (by decide) (by decide) ?_
      exact ⟨rfl, rfl, h9, ⟨_, _, _, _, _, _, _, _, _, X9⟩, rfl⟩
    · exact nomatch w2
set_option maxRecDepth 20000 in
theorem H_corner {ag : Nat → Int} (X : hsX G P E S b P2 E2 S2 F L1 L2 H1 H2 QL QT qa CA CB o h0 h) (fa : h0 ao = some (aL G 1 ag)) (na : ao < o ∨ o + 96 ≤ ao) {k : Int} (rk : r32 k) {u : Prop} [Decidable u] : Run G mL_corner [.ref o, .int (iN k), .int (iN (bP u)), .ref ao] none h 1 6 (zW G (wK ((k_corner F k u))) P E S b P2 E2 S2 F o h0 ao ag) := by
  have HC := C_corner X (u := u) rk
  rw [rsI_w] at HC
  have hk : (wK ((k_corner F k u))).1 ≤ 1 := by first | exact kc_corner | exact kc_corner _ | exact kc_corner _ _ | exact kc_corner _ _ _ | exact kc_corner _ _ _ _ | exact kc_corner _ _ _ _ _
  have hv : r32 (wK ((k_corner F k u))).2 := r32_of _
  generalize wK ((k_corner F k u)) = KK at HC hk hv ⊢
  obtain ⟨cc, vv⟩ := KK
  refine run_ofH rfl plL rfl ?_
  refine e_aload_n dL_corner_0 rfl ?_
  refine e_iconst dL_corner_1 ?_
  refine e_aload_n dL_corner_2 rfl ?_
  refine e_iload_n dL_corner_3 rfl ?_
  refine e_iload_n dL_corner_4 rfl ?_
  refine e_callV qcL_59 X.obj rfl rfl HC rfl rfl rfl rfl dL_corner_5 (fun E9 z9 h9 w => ?_) (fun v9 z9 h9 w => ?_)
  · obtain ⟨rfl, w2, l1, l2, l3, l4, l5, l6, l7, l8, l9, X9⟩ := w
    rcases cc with _ | cc
    · exact nomatch w2
    rcases cc with _ | cc
    · have e2 : E9 = xIOB := Sum.inr.inj w2
      subst e2
      refine ex_catch [] ⟨0, 10, 13, 21⟩ [] rfl (by decide) (fun y hy => absurd hy List.not_mem_nil) (by decide) (by decide) wLx21 (by decide) (fun q9 => ?_)
      refine e_astore dL_corner_13 rfl ?_
      refine e_iconst dL_corner_15 ?_
      refine e_iret rfl dL_corner_16 (by decide) (by decide) ?_
      exact ⟨rfl, rfl, h9, ⟨_, _, _, _, _, _, _, _, _, X9⟩, rfl⟩
    exact absurd hk (by show ¬ (_ ≤ _); omega)
  · obtain ⟨rfl, w2, l1, l2, l3, l4, l5, l6, l7, l8, l9, X9⟩ := w
    rcases cc with _ | cc
    · have e2 : v9 = some (.int (iN vv)) := Sum.inl.inj w2
      subst e2
      refine (show Ev _ _ _ _ _ _ _ (.int (iN vv) :: .int (iN 0) :: .ref ao :: []) from ?_)
      refine e_i2l hv dL_corner_8 ?_
      refine e_lastore ((X9.fr ao na).trans fa) (by omega) (by omega) rfl dL_corner_9 ?_
      refine e_goto (tgt := 17) dL_corner_10 rfl ?_
      refine e_iconst dL_corner_17 ?_
      refine e_iret rfl dL_corner_18 (by decide) (by decide) ?_
      exact ⟨rfl, rfl, h9, ⟨_, _, _, _, _, _, _, _, _, X9⟩, rfl⟩
    · exact nomatch w2
set_option maxRecDepth 20000 in
theorem H_width {ag : Nat → Int} (X : hsX G P E S b P2 E2 S2 F L1 L2 H1 H2 QL QT qa CA CB o h0 h) (fa : h0 ao = some (aL G 1 ag)) (na : ao < o ∨ o + 96 ≤ ao) {u : Prop} [Decidable u] (hS : okS F) : Run G mL_width [.ref o, .int (iN (bP u)), .ref ao] none h 1 6 (zW G (((k_width F u))) P E S b P2 E2 S2 F o h0 ao ag) := by
  have HC := C_width X (u := u) hS
  have hk : ((k_width F u)).1 ≤ 1 := by first | exact kc_width | exact kc_width _ | exact kc_width _ _ | exact kc_width _ _ _
  generalize (k_width F u) = KK at HC hk ⊢
  obtain ⟨cc, vv⟩ := KK
  refine run_ofH rfl plL rfl ?_
  refine e_aload_n dL_width_0 rfl ?_
  refine e_iconst dL_width_1 ?_
  refine e_aload_n dL_width_2 rfl ?_
  refine e_iload_n dL_width_3 rfl ?_
  refine e_callV qcL_63 X.obj rfl rfl HC rfl rfl rfl rfl dL_width_4 (fun E9 z9 h9 w => ?_) (fun v9 z9 h9 w => ?_)
  · obtain ⟨rfl, w2, l1, l2, l3, l4, l5, l6, l7, l8, l9, X9⟩ := w
    rcases cc with _ | cc
    · exact nomatch w2
    rcases cc with _ | cc
    · have e2 : E9 = xISE := Sum.inr.inj w2
      subst e2
      refine ex_catch [] ⟨0, 8, 11, 15⟩ [] rfl (by decide) (fun y hy => absurd hy List.not_mem_nil) (by decide) (by decide) wLx15 (by decide) (fun q9 => ?_)
      refine e_astore_n dL_width_11 rfl ?_
      refine e_iconst dL_width_12 ?_
      refine e_iret rfl dL_width_13 (by decide) (by decide) ?_
      exact ⟨rfl, rfl, h9, ⟨_, _, _, _, _, _, _, _, _, X9⟩, rfl⟩
    exact absurd hk (by show ¬ (_ ≤ _); omega)
  · obtain ⟨rfl, w2, l1, l2, l3, l4, l5, l6, l7, l8, l9, X9⟩ := w
    rcases cc with _ | cc
    · have e2 : v9 = some (.long (lI vv)) := Sum.inl.inj w2
      subst e2
      refine (show Ev _ _ _ _ _ _ _ (.long (lI vv) :: .int (iN 0) :: .ref ao :: []) from ?_)
      refine e_lastore ((X9.fr ao na).trans fa) (by omega) (by omega) rfl dL_width_7 ?_
      refine e_goto (tgt := 14) dL_width_8 rfl ?_
      refine e_iconst dL_width_14 ?_
      refine e_iret rfl dL_width_15 (by decide) (by decide) ?_
      exact ⟨rfl, rfl, h9, ⟨_, _, _, _, _, _, _, _, _, X9⟩, rfl⟩
    · exact nomatch w2
set_option maxRecDepth 20000 in
theorem H_add {ag : Nat → Int} (X : hsX G P E S b P2 E2 S2 F L1 L2 H1 H2 QL QT qa CA CB o h0 h) (fa : h0 ao = some (aL G 1 ag)) (na : ao < o ∨ o + 96 ≤ ao) {j : Int} (rj : r32 j) {x : Int} (rx : r32 x) {y : Int} (ry : r32 y) : Run G mL_add [.ref o, .int (iN j), .int (iN x), .int (iN y), .ref ao] none h 1 6 (zW G (wK ((k_add S j x y))) P E (s_add S j x y) b P2 E2 S2 F o h0 ao ag) := by
  have HC := C_add X rj rx ry
  rw [rsI_w] at HC
  have hk : (wK ((k_add S j x y))).1 ≤ 2 := by first | exact kc_add | exact kc_add _ | exact kc_add _ _ | exact kc_add _ _ _ | exact kc_add _ _ _ _ | exact kc_add _ _ _ _ _
  have hv : r32 (wK ((k_add S j x y))).2 := r32_of _
  generalize wK ((k_add S j x y)) = KK at HC hk hv ⊢
  obtain ⟨cc, vv⟩ := KK
  refine run_ofH rfl plL rfl ?_
  refine e_aload dL_add_0 rfl ?_
  refine e_iconst dL_add_2 ?_
  refine e_aload_n dL_add_3 rfl ?_
  refine e_iload_n dL_add_4 rfl ?_
  refine e_iload_n dL_add_5 rfl ?_
  refine e_iload_n dL_add_6 rfl ?_
  refine e_callV qcL_67 X.obj rfl rfl HC rfl rfl rfl rfl dL_add_7 (fun E9 z9 h9 w => ?_) (fun v9 z9 h9 w => ?_)
  · obtain ⟨rfl, w2, l1, l2, l3, l4, l5, l6, l7, l8, l9, X9⟩ := w
    rcases cc with _ | cc
    · exact nomatch w2
    rcases cc with _ | cc
    · have e2 : E9 = xIAE := Sum.inr.inj w2
      subst e2
      refine ex_catch [] ⟨0, 12, 15, 13⟩ [⟨0, 12, 19, 15⟩] rfl (by decide) (fun y hy => absurd hy List.not_mem_nil) (by decide) (by decide) wLx13 (by decide) (fun q9 => ?_)
      refine e_astore dL_add_15 rfl ?_
      refine e_iconst dL_add_17 ?_
      refine e_iret rfl dL_add_18 (by decide) (by decide) ?_
      exact ⟨rfl, rfl, h9, ⟨_, _, _, _, _, _, _, _, _, X9⟩, rfl⟩
    rcases cc with _ | cc
    · have e2 : E9 = xISE := Sum.inr.inj w2
      subst e2
      refine ex_catch [⟨0, 12, 15, 13⟩] ⟨0, 12, 19, 15⟩ [] rfl (by decide) (List.forall_mem_cons.mpr ⟨⟨by decide, xIAE, by decide, by decide, wLx13⟩, fun y hy => absurd hy List.not_mem_nil⟩) (by decide) (by decide) wLx15 (by decide) (fun q9 => ?_)
      refine e_astore dL_add_19 rfl ?_
      refine e_iconst dL_add_21 ?_
      refine e_iret rfl dL_add_22 (by decide) (by decide) ?_
      exact ⟨rfl, rfl, h9, ⟨_, _, _, _, _, _, _, _, _, X9⟩, rfl⟩
    exact absurd hk (by show ¬ (_ ≤ _); omega)
  · obtain ⟨rfl, w2, l1, l2, l3, l4, l5, l6, l7, l8, l9, X9⟩ := w
    rcases cc with _ | cc
    · have e2 : v9 = some (.int (iN vv)) := Sum.inl.inj w2
      subst e2
      refine (show Ev _ _ _ _ _ _ _ (.int (iN vv) :: .int (iN 0) :: .ref ao :: []) from ?_)
      refine e_i2l hv dL_add_10 ?_
      refine e_lastore ((X9.fr ao na).trans fa) (by omega) (by omega) rfl dL_add_11 ?_
      refine e_goto (tgt := 23) dL_add_12 rfl ?_
      refine e_iconst dL_add_23 ?_
      refine e_iret rfl dL_add_24 (by decide) (by decide) ?_
      exact ⟨rfl, rfl, h9, ⟨_, _, _, _, _, _, _, _, _, X9⟩, rfl⟩
    · exact nomatch w2
set_option maxRecDepth 20000 in
theorem H_clear {ag : Nat → Int} (X : hsX G P E S b P2 E2 S2 F L1 L2 H1 H2 QL QT qa CA CB o h0 h) (fa : h0 ao = some (aL G 1 ag)) (na : ao < o ∨ o + 96 ≤ ao) {j : Int} (rj : r32 j) : Run G mL_clear [.ref o, .int (iN j), .ref ao] none h 1 6 (zW G (wK ((k_clear S j))) P E (s_clear S j) b P2 E2 S2 F o h0 ao ag) := by
  have HC := C_clear X rj
  rw [rsI_w] at HC
  have hk : (wK ((k_clear S j))).1 ≤ 1 := by first | exact kc_clear | exact kc_clear _ | exact kc_clear _ _ | exact kc_clear _ _ _ | exact kc_clear _ _ _ _ | exact kc_clear _ _ _ _ _
  have hv : r32 (wK ((k_clear S j))).2 := r32_of _
  generalize wK ((k_clear S j)) = KK at HC hk hv ⊢
  obtain ⟨cc, vv⟩ := KK
  refine run_ofH rfl plL rfl ?_
  refine e_aload_n dL_clear_0 rfl ?_
  refine e_iconst dL_clear_1 ?_
  refine e_aload_n dL_clear_2 rfl ?_
  refine e_iload_n dL_clear_3 rfl ?_
  refine e_callV qcL_70 X.obj rfl rfl HC rfl rfl rfl rfl dL_clear_4 (fun E9 z9 h9 w => ?_) (fun v9 z9 h9 w => ?_)
  · obtain ⟨rfl, w2, l1, l2, l3, l4, l5, l6, l7, l8, l9, X9⟩ := w
    rcases cc with _ | cc
    · exact nomatch w2
    rcases cc with _ | cc
    · have e2 : E9 = xIAE := Sum.inr.inj w2
      subst e2
      refine ex_catch [] ⟨0, 9, 12, 13⟩ [] rfl (by decide) (fun y hy => absurd hy List.not_mem_nil) (by decide) (by decide) wLx13 (by decide) (fun q9 => ?_)
      refine e_astore_n dL_clear_12 rfl ?_
      refine e_iconst dL_clear_13 ?_
      refine e_iret rfl dL_clear_14 (by decide) (by decide) ?_
      exact ⟨rfl, rfl, h9, ⟨_, _, _, _, _, _, _, _, _, X9⟩, rfl⟩
    exact absurd hk (by show ¬ (_ ≤ _); omega)
  · obtain ⟨rfl, w2, l1, l2, l3, l4, l5, l6, l7, l8, l9, X9⟩ := w
    rcases cc with _ | cc
    · have e2 : v9 = some (.int (iN vv)) := Sum.inl.inj w2
      subst e2
      refine (show Ev _ _ _ _ _ _ _ (.int (iN vv) :: .int (iN 0) :: .ref ao :: []) from ?_)
      refine e_i2l hv dL_clear_7 ?_
      refine e_lastore ((X9.fr ao na).trans fa) (by omega) (by omega) rfl dL_clear_8 ?_
      refine e_goto (tgt := 15) dL_clear_9 rfl ?_
      refine e_iconst dL_clear_15 ?_
      refine e_iret rfl dL_clear_16 (by decide) (by decide) ?_
      exact ⟨rfl, rfl, h9, ⟨_, _, _, _, _, _, _, _, _, X9⟩, rfl⟩
    · exact nomatch w2
set_option maxRecDepth 20000 in
theorem H_isSimple {ag : Nat → Int} (X : hsX G P E S b P2 E2 S2 F L1 L2 H1 H2 QL QT qa CA CB o h0 h) (fa : h0 ao = some (aL G 1 ag)) (na : ao < o ∨ o + 96 ≤ ao) {j : Int} (rj : r32 j) : Run G mL_isSimple [.ref o, .int (iN j), .ref ao] none h 1 6 (zW G (bK (wK ((k_isSimple S j)))) P E S b P2 E2 S2 F o h0 ao ag) := by
  have HC := C_isSimple X rj
  rw [rsI_w] at HC
  have hk : (wK ((k_isSimple S j))).1 ≤ 1 := by first | exact kc_isSimple | exact kc_isSimple _ | exact kc_isSimple _ _ | exact kc_isSimple _ _ _ | exact kc_isSimple _ _ _ _ | exact kc_isSimple _ _ _ _ _
  have hv : r32 (wK ((k_isSimple S j))).2 := r32_of _
  generalize wK ((k_isSimple S j)) = KK at HC hk hv ⊢
  obtain ⟨cc, vv⟩ := KK
  refine run_ofH rfl plL rfl ?_
  refine e_aload_n dL_isSimple_0 rfl ?_
  refine e_iconst dL_isSimple_1 ?_
  refine e_aload_n dL_isSimple_2 rfl ?_
  refine e_iload_n dL_isSimple_3 rfl ?_
  refine e_callV qcL_73 X.obj rfl rfl HC rfl rfl rfl rfl dL_isSimple_4 (fun E9 z9 h9 w => ?_) (fun v9 z9 h9 w => ?_)
  · obtain ⟨rfl, w2, l1, l2, l3, l4, l5, l6, l7, l8, l9, X9⟩ := w
    rcases cc with _ | cc
    · exact nomatch w2
    rcases cc with _ | cc
    · have e2 : E9 = xIAE := Sum.inr.inj w2
      subst e2
      refine ex_catch [] ⟨0, 16, 19, 13⟩ [] rfl (by decide) (fun y hy => absurd hy List.not_mem_nil) (by decide) (by decide) wLx13 (by decide) (fun q9 => ?_)
      refine e_astore_n dL_isSimple_19 rfl ?_
      refine e_iconst dL_isSimple_20 ?_
      refine e_iret rfl dL_isSimple_21 (by decide) (by decide) ?_
      exact ⟨rfl, rfl, h9, ⟨_, _, _, _, _, _, _, _, _, X9⟩, rfl⟩
    exact absurd hk (by show ¬ (_ ≤ _); omega)
  · obtain ⟨rfl, w2, l1, l2, l3, l4, l5, l6, l7, l8, l9, X9⟩ := w
    rcases cc with _ | cc
    · have e2 : v9 = some (.int (iN vv)) := Sum.inl.inj w2
      subst e2
      refine (show Ev _ _ _ _ _ _ _ (.int (iN vv) :: .int (iN 0) :: .ref ao :: []) from ?_)
      refine e_if_eq (tgt := 14) hv dL_isSimple_7 rfl (fun c_7 => ?_) (fun c_7 => ?_)
      · refine (show Ev _ _ _ _ _ _ _ _ from ?_)
        have eb : bK (0, vv) = (0, 0) := by show (0, if vv = 0 then (0 : Int) else 1) = _; rw [if_pos c_7]
        rw [eb]
        refine e_lconst dL_isSimple_14 ?_
        refine e_lastore ((X9.fr ao na).trans fa) (by omega) (by omega) rfl dL_isSimple_15 ?_
        refine e_goto (tgt := 22) dL_isSimple_16 rfl ?_
        refine e_iconst dL_isSimple_22 ?_
        refine e_iret rfl dL_isSimple_23 (by decide) (by decide) ?_
        exact ⟨rfl, rfl, h9, ⟨_, _, _, _, _, _, _, _, _, X9⟩, rfl⟩
      · have eb : bK (0, vv) = (0, 1) := by show (0, if vv = 0 then (0 : Int) else 1) = _; rw [if_neg c_7]
        rw [eb]
        refine e_lconst dL_isSimple_10 ?_
        refine e_goto (tgt := 15) dL_isSimple_11 rfl ?_
        refine e_lastore ((X9.fr ao na).trans fa) (by omega) (by omega) rfl dL_isSimple_15 ?_
        refine e_goto (tgt := 22) dL_isSimple_16 rfl ?_
        refine e_iconst dL_isSimple_22 ?_
        refine e_iret rfl dL_isSimple_23 (by decide) (by decide) ?_
        exact ⟨rfl, rfl, h9, ⟨_, _, _, _, _, _, _, _, _, X9⟩, rfl⟩
    · exact nomatch w2
set_option maxRecDepth 20000 in
theorem H_polygonArea {ag : Nat → Int} (X : hsX G P E S b P2 E2 S2 F L1 L2 H1 H2 QL QT qa CA CB o h0 h) (fa : h0 ao = some (aL G 1 ag)) (na : ao < o ∨ o + 96 ≤ ao) {j : Int} (rj : r32 j) : Run G mL_polygonArea [.ref o, .int (iN j), .ref ao] none h 1 6 (zW G (wK ((k_polygonArea S j))) P E S b P2 E2 S2 F o h0 ao ag) := by
  have HC := C_polygonArea X rj
  rw [rsI_w] at HC
  have hk : (wK ((k_polygonArea S j))).1 ≤ 1 := by first | exact kc_polygonArea | exact kc_polygonArea _ | exact kc_polygonArea _ _ | exact kc_polygonArea _ _ _ | exact kc_polygonArea _ _ _ _ | exact kc_polygonArea _ _ _ _ _
  have hv : r32 (wK ((k_polygonArea S j))).2 := r32_of _
  generalize wK ((k_polygonArea S j)) = KK at HC hk hv ⊢
  obtain ⟨cc, vv⟩ := KK
  refine run_ofH rfl plL rfl ?_
  refine e_aload_n dL_polygonArea_0 rfl ?_
  refine e_iconst dL_polygonArea_1 ?_
  refine e_aload_n dL_polygonArea_2 rfl ?_
  refine e_iload_n dL_polygonArea_3 rfl ?_
  refine e_callV qcL_77 X.obj rfl rfl HC rfl rfl rfl rfl dL_polygonArea_4 (fun E9 z9 h9 w => ?_) (fun v9 z9 h9 w => ?_)
  · obtain ⟨rfl, w2, l1, l2, l3, l4, l5, l6, l7, l8, l9, X9⟩ := w
    rcases cc with _ | cc
    · exact nomatch w2
    rcases cc with _ | cc
    · have e2 : E9 = xIAE := Sum.inr.inj w2
      subst e2
      refine ex_catch [] ⟨0, 9, 12, 13⟩ [] rfl (by decide) (fun y hy => absurd hy List.not_mem_nil) (by decide) (by decide) wLx13 (by decide) (fun q9 => ?_)
      refine e_astore_n dL_polygonArea_12 rfl ?_
      refine e_iconst dL_polygonArea_13 ?_
      refine e_iret rfl dL_polygonArea_14 (by decide) (by decide) ?_
      exact ⟨rfl, rfl, h9, ⟨_, _, _, _, _, _, _, _, _, X9⟩, rfl⟩
    exact absurd hk (by show ¬ (_ ≤ _); omega)
  · obtain ⟨rfl, w2, l1, l2, l3, l4, l5, l6, l7, l8, l9, X9⟩ := w
    rcases cc with _ | cc
    · have e2 : v9 = some (.int (iN vv)) := Sum.inl.inj w2
      subst e2
      refine (show Ev _ _ _ _ _ _ _ (.int (iN vv) :: .int (iN 0) :: .ref ao :: []) from ?_)
      refine e_i2l hv dL_polygonArea_7 ?_
      refine e_lastore ((X9.fr ao na).trans fa) (by omega) (by omega) rfl dL_polygonArea_8 ?_
      refine e_goto (tgt := 15) dL_polygonArea_9 rfl ?_
      refine e_iconst dL_polygonArea_15 ?_
      refine e_iret rfl dL_polygonArea_16 (by decide) (by decide) ?_
      exact ⟨rfl, rfl, h9, ⟨_, _, _, _, _, _, _, _, _, X9⟩, rfl⟩
    · exact nomatch w2
set_option maxRecDepth 20000 in
theorem H_polygonEdge {ag : Nat → Int} (X : hsX G P E S b P2 E2 S2 F L1 L2 H1 H2 QL QT qa CA CB o h0 h) (fa : h0 ao = some (aL G 1 ag)) (na : ao < o ∨ o + 96 ≤ ao) {j : Int} (rj : r32 j) : Run G mL_polygonEdge [.ref o, .int (iN j), .ref ao] none h 1 6 (zW G (wK ((k_polygonEdge S j))) P E S b P2 E2 S2 F o h0 ao ag) := by
  have HC := C_polygonEdge X rj
  rw [rsI_w] at HC
  have hk : (wK ((k_polygonEdge S j))).1 ≤ 2 := by first | exact kc_polygonEdge | exact kc_polygonEdge _ | exact kc_polygonEdge _ _ | exact kc_polygonEdge _ _ _ | exact kc_polygonEdge _ _ _ _ | exact kc_polygonEdge _ _ _ _ _
  have hv : r32 (wK ((k_polygonEdge S j))).2 := r32_of _
  generalize wK ((k_polygonEdge S j)) = KK at HC hk hv ⊢
  obtain ⟨cc, vv⟩ := KK
  refine run_ofH rfl plL rfl ?_
  refine e_aload_n dL_polygonEdge_0 rfl ?_
  refine e_iconst dL_polygonEdge_1 ?_
  refine e_aload_n dL_polygonEdge_2 rfl ?_
  refine e_iload_n dL_polygonEdge_3 rfl ?_
  refine e_callV qcL_80 X.obj rfl rfl HC rfl rfl rfl rfl dL_polygonEdge_4 (fun E9 z9 h9 w => ?_) (fun v9 z9 h9 w => ?_)
  · obtain ⟨rfl, w2, l1, l2, l3, l4, l5, l6, l7, l8, l9, X9⟩ := w
    rcases cc with _ | cc
    · exact nomatch w2
    rcases cc with _ | cc
    · have e2 : E9 = xIAE := Sum.inr.inj w2
      subst e2
      refine ex_catch [] ⟨0, 9, 12, 13⟩ [⟨0, 9, 15, 15⟩] rfl (by decide) (fun y hy => absurd hy List.not_mem_nil) (by decide) (by decide) wLx13 (by decide) (fun q9 => ?_)
      refine e_astore_n dL_polygonEdge_12 rfl ?_
      refine e_iconst dL_polygonEdge_13 ?_
      refine e_iret rfl dL_polygonEdge_14 (by decide) (by decide) ?_
      exact ⟨rfl, rfl, h9, ⟨_, _, _, _, _, _, _, _, _, X9⟩, rfl⟩
    rcases cc with _ | cc
    · have e2 : E9 = xISE := Sum.inr.inj w2
      subst e2
      refine ex_catch [⟨0, 9, 12, 13⟩] ⟨0, 9, 15, 15⟩ [] rfl (by decide) (List.forall_mem_cons.mpr ⟨⟨by decide, xIAE, by decide, by decide, wLx13⟩, fun y hy => absurd hy List.not_mem_nil⟩) (by decide) (by decide) wLx15 (by decide) (fun q9 => ?_)
      refine e_astore_n dL_polygonEdge_15 rfl ?_
      refine e_iconst dL_polygonEdge_16 ?_
      refine e_iret rfl dL_polygonEdge_17 (by decide) (by decide) ?_
      exact ⟨rfl, rfl, h9, ⟨_, _, _, _, _, _, _, _, _, X9⟩, rfl⟩
    exact absurd hk (by show ¬ (_ ≤ _); omega)
  · obtain ⟨rfl, w2, l1, l2, l3, l4, l5, l6, l7, l8, l9, X9⟩ := w
    rcases cc with _ | cc
    · have e2 : v9 = some (.int (iN vv)) := Sum.inl.inj w2
      subst e2
      refine (show Ev _ _ _ _ _ _ _ (.int (iN vv) :: .int (iN 0) :: .ref ao :: []) from ?_)
      refine e_i2l hv dL_polygonEdge_7 ?_
      refine e_lastore ((X9.fr ao na).trans fa) (by omega) (by omega) rfl dL_polygonEdge_8 ?_
      refine e_goto (tgt := 18) dL_polygonEdge_9 rfl ?_
      refine e_iconst dL_polygonEdge_18 ?_
      refine e_iret rfl dL_polygonEdge_19 (by decide) (by decide) ?_
      exact ⟨rfl, rfl, h9, ⟨_, _, _, _, _, _, _, _, _, X9⟩, rfl⟩
    · exact nomatch w2
set_option maxRecDepth 20000 in
theorem H_polygonInner {ag : Nat → Int} (X : hsX G P E S b P2 E2 S2 F L1 L2 H1 H2 QL QT qa CA CB o h0 h) (fa : h0 ao = some (aL G 1 ag)) (na : ao < o ∨ o + 96 ≤ ao) {j : Int} (rj : r32 j) : Run G mL_polygonInner [.ref o, .int (iN j), .ref ao] none h 1 6 (zW G (wK ((k_polygonInner S j))) P E S b P2 E2 S2 F o h0 ao ag) := by
  have HC := C_polygonInner X rj
  rw [rsI_w] at HC
  have hk : (wK ((k_polygonInner S j))).1 ≤ 2 := by first | exact kc_polygonInner | exact kc_polygonInner _ | exact kc_polygonInner _ _ | exact kc_polygonInner _ _ _ | exact kc_polygonInner _ _ _ _ | exact kc_polygonInner _ _ _ _ _
  have hv : r32 (wK ((k_polygonInner S j))).2 := r32_of _
  generalize wK ((k_polygonInner S j)) = KK at HC hk hv ⊢
  obtain ⟨cc, vv⟩ := KK
  refine run_ofH rfl plL rfl ?_
  refine e_aload_n dL_polygonInner_0 rfl ?_
  refine e_iconst dL_polygonInner_1 ?_
  refine e_aload_n dL_polygonInner_2 rfl ?_
  refine e_iload_n dL_polygonInner_3 rfl ?_
  refine e_callV qcL_83 X.obj rfl rfl HC rfl rfl rfl rfl dL_polygonInner_4 (fun E9 z9 h9 w => ?_) (fun v9 z9 h9 w => ?_)
  · obtain ⟨rfl, w2, l1, l2, l3, l4, l5, l6, l7, l8, l9, X9⟩ := w
    rcases cc with _ | cc
    · exact nomatch w2
    rcases cc with _ | cc
    · have e2 : E9 = xIAE := Sum.inr.inj w2
      subst e2
      refine ex_catch [] ⟨0, 9, 12, 13⟩ [⟨0, 9, 15, 15⟩] rfl (by decide) (fun y hy => absurd hy List.not_mem_nil) (by decide) (by decide) wLx13 (by decide) (fun q9 => ?_)
      refine e_astore_n dL_polygonInner_12 rfl ?_
      refine e_iconst dL_polygonInner_13 ?_
      refine e_iret rfl dL_polygonInner_14 (by decide) (by decide) ?_
      exact ⟨rfl, rfl, h9, ⟨_, _, _, _, _, _, _, _, _, X9⟩, rfl⟩
    rcases cc with _ | cc
    · have e2 : E9 = xISE := Sum.inr.inj w2
      subst e2
      refine ex_catch [⟨0, 9, 12, 13⟩] ⟨0, 9, 15, 15⟩ [] rfl (by decide) (List.forall_mem_cons.mpr ⟨⟨by decide, xIAE, by decide, by decide, wLx13⟩, fun y hy => absurd hy List.not_mem_nil⟩) (by decide) (by decide) wLx15 (by decide) (fun q9 => ?_)
      refine e_astore_n dL_polygonInner_15 rfl ?_
      refine e_iconst dL_polygonInner_16 ?_
      refine e_iret rfl dL_polygonInner_17 (by decide) (by decide) ?_
      exact ⟨rfl, rfl, h9, ⟨_, _, _, _, _, _, _, _, _, X9⟩, rfl⟩
    exact absurd hk (by show ¬ (_ ≤ _); omega)
  · obtain ⟨rfl, w2, l1, l2, l3, l4, l5, l6, l7, l8, l9, X9⟩ := w
    rcases cc with _ | cc
    · have e2 : v9 = some (.int (iN vv)) := Sum.inl.inj w2
      subst e2
      refine (show Ev _ _ _ _ _ _ _ (.int (iN vv) :: .int (iN 0) :: .ref ao :: []) from ?_)
      refine e_i2l hv dL_polygonInner_7 ?_
      refine e_lastore ((X9.fr ao na).trans fa) (by omega) (by omega) rfl dL_polygonInner_8 ?_
      refine e_goto (tgt := 18) dL_polygonInner_9 rfl ?_
      refine e_iconst dL_polygonInner_18 ?_
      refine e_iret rfl dL_polygonInner_19 (by decide) (by decide) ?_
      exact ⟨rfl, rfl, h9, ⟨_, _, _, _, _, _, _, _, _, X9⟩, rfl⟩
    · exact nomatch w2
set_option maxRecDepth 20000 in
theorem H_polygonLies {ag : Nat → Int} (X : hsX G P E S b P2 E2 S2 F L1 L2 H1 H2 QL QT qa CA CB o h0 h) (fa : h0 ao = some (aL G 1 ag)) (na : ao < o ∨ o + 96 ≤ ao) {j : Int} (rj : r32 j) {x : Int} (rx : r32 x) {y : Int} (ry : r32 y) : Run G mL_polygonLies [.ref o, .int (iN j), .int (iN x), .int (iN y), .ref ao] none h 1 6 (zW G (wK ((k_polygonLies S j x y))) P E S b P2 E2 S2 F o h0 ao ag) := by
  have HC := C_polygonLies X rj rx ry
  rw [rsI_w] at HC
  have hk : (wK ((k_polygonLies S j x y))).1 ≤ 2 := by first | exact kc_polygonLies | exact kc_polygonLies _ | exact kc_polygonLies _ _ | exact kc_polygonLies _ _ _ | exact kc_polygonLies _ _ _ _ | exact kc_polygonLies _ _ _ _ _
  have hv : r32 (wK ((k_polygonLies S j x y))).2 := r32_of _
  generalize wK ((k_polygonLies S j x y)) = KK at HC hk hv ⊢
  obtain ⟨cc, vv⟩ := KK
  refine run_ofH rfl plL rfl ?_
  refine e_aload dL_polygonLies_0 rfl ?_
  refine e_iconst dL_polygonLies_2 ?_
  refine e_aload_n dL_polygonLies_3 rfl ?_
  refine e_iload_n dL_polygonLies_4 rfl ?_
  refine e_iload_n dL_polygonLies_5 rfl ?_
  refine e_iload_n dL_polygonLies_6 rfl ?_
  refine e_callV qcL_86 X.obj rfl rfl HC rfl rfl rfl rfl dL_polygonLies_7 (fun E9 z9 h9 w => ?_) (fun v9 z9 h9 w => ?_)
  · obtain ⟨rfl, w2, l1, l2, l3, l4, l5, l6, l7, l8, l9, X9⟩ := w
    rcases cc with _ | cc
    · exact nomatch w2
    rcases cc with _ | cc
    · have e2 : E9 = xIAE := Sum.inr.inj w2
      subst e2
      refine ex_catch [] ⟨0, 12, 15, 13⟩ [⟨0, 12, 19, 15⟩] rfl (by decide) (fun y hy => absurd hy List.not_mem_nil) (by decide) (by decide) wLx13 (by decide) (fun q9 => ?_)
      refine e_astore dL_polygonLies_15 rfl ?_
      refine e_iconst dL_polygonLies_17 ?_
      refine e_iret rfl dL_polygonLies_18 (by decide) (by decide) ?_
      exact ⟨rfl, rfl, h9, ⟨_, _, _, _, _, _, _, _, _, X9⟩, rfl⟩
    rcases cc with _ | cc
    · have e2 : E9 = xISE := Sum.inr.inj w2
      subst e2
      refine ex_catch [⟨0, 12, 15, 13⟩] ⟨0, 12, 19, 15⟩ [] rfl (by decide) (List.forall_mem_cons.mpr ⟨⟨by decide, xIAE, by decide, by decide, wLx13⟩, fun y hy => absurd hy List.not_mem_nil⟩) (by decide) (by decide) wLx15 (by decide) (fun q9 => ?_)
      refine e_astore dL_polygonLies_19 rfl ?_
      refine e_iconst dL_polygonLies_21 ?_
      refine e_iret rfl dL_polygonLies_22 (by decide) (by decide) ?_
      exact ⟨rfl, rfl, h9, ⟨_, _, _, _, _, _, _, _, _, X9⟩, rfl⟩
    exact absurd hk (by show ¬ (_ ≤ _); omega)
  · obtain ⟨rfl, w2, l1, l2, l3, l4, l5, l6, l7, l8, l9, X9⟩ := w
    rcases cc with _ | cc
    · have e2 : v9 = some (.int (iN vv)) := Sum.inl.inj w2
      subst e2
      refine (show Ev _ _ _ _ _ _ _ (.int (iN vv) :: .int (iN 0) :: .ref ao :: []) from ?_)
      refine e_i2l hv dL_polygonLies_10 ?_
      refine e_lastore ((X9.fr ao na).trans fa) (by omega) (by omega) rfl dL_polygonLies_11 ?_
      refine e_goto (tgt := 23) dL_polygonLies_12 rfl ?_
      refine e_iconst dL_polygonLies_23 ?_
      refine e_iret rfl dL_polygonLies_24 (by decide) (by decide) ?_
      exact ⟨rfl, rfl, h9, ⟨_, _, _, _, _, _, _, _, _, X9⟩, rfl⟩
    · exact nomatch w2
set_option maxRecDepth 20000 in
theorem H_holds {ag : Nat → Int} (X : hsX G P E S b P2 E2 S2 F L1 L2 H1 H2 QL QT qa CA CB o h0 h) (fa : h0 ao = some (aL G 1 ag)) (na : ao < o ∨ o + 96 ≤ ao) {j : Int} (rj : r32 j) {a : Int} (ra : r32 a) : Run G mL_holds [.ref o, .int (iN j), .int (iN a), .ref ao] none h 1 6 (zW G (wK ((k_holds P S j a))) P E S b P2 E2 S2 F o h0 ao ag) := by
  have HC := C_holds X rj ra
  rw [rsI_w] at HC
  have hk : (wK ((k_holds P S j a))).1 ≤ 2 := by first | exact kc_holds | exact kc_holds _ | exact kc_holds _ _ | exact kc_holds _ _ _ | exact kc_holds _ _ _ _ | exact kc_holds _ _ _ _ _
  have hv : r32 (wK ((k_holds P S j a))).2 := r32_of _
  generalize wK ((k_holds P S j a)) = KK at HC hk hv ⊢
  obtain ⟨cc, vv⟩ := KK
  refine run_ofH rfl plL rfl ?_
  refine e_aload_n dL_holds_0 rfl ?_
  refine e_iconst dL_holds_1 ?_
  refine e_aload_n dL_holds_2 rfl ?_
  refine e_iload_n dL_holds_3 rfl ?_
  refine e_iload_n dL_holds_4 rfl ?_
  refine e_callV qcL_89 X.obj rfl rfl HC rfl rfl rfl rfl dL_holds_5 (fun E9 z9 h9 w => ?_) (fun v9 z9 h9 w => ?_)
  · obtain ⟨rfl, w2, l1, l2, l3, l4, l5, l6, l7, l8, l9, X9⟩ := w
    rcases cc with _ | cc
    · exact nomatch w2
    rcases cc with _ | cc
    · have e2 : E9 = xIAE := Sum.inr.inj w2
      subst e2
      refine ex_catch [] ⟨0, 10, 13, 13⟩ [⟨0, 10, 17, 15⟩] rfl (by decide) (fun y hy => absurd hy List.not_mem_nil) (by decide) (by decide) wLx13 (by decide) (fun q9 => ?_)
      refine e_astore dL_holds_13 rfl ?_
      refine e_iconst dL_holds_15 ?_
      refine e_iret rfl dL_holds_16 (by decide) (by decide) ?_
      exact ⟨rfl, rfl, h9, ⟨_, _, _, _, _, _, _, _, _, X9⟩, rfl⟩
    rcases cc with _ | cc
    · have e2 : E9 = xISE := Sum.inr.inj w2
      subst e2
      refine ex_catch [⟨0, 10, 13, 13⟩] ⟨0, 10, 17, 15⟩ [] rfl (by decide) (List.forall_mem_cons.mpr ⟨⟨by decide, xIAE, by decide, by decide, wLx13⟩, fun y hy => absurd hy List.not_mem_nil⟩) (by decide) (by decide) wLx15 (by decide) (fun q9 => ?_)
      refine e_astore dL_holds_17 rfl ?_
      refine e_iconst dL_holds_19 ?_
      refine e_iret rfl dL_holds_20 (by decide) (by decide) ?_
      exact ⟨rfl, rfl, h9, ⟨_, _, _, _, _, _, _, _, _, X9⟩, rfl⟩
    exact absurd hk (by show ¬ (_ ≤ _); omega)
  · obtain ⟨rfl, w2, l1, l2, l3, l4, l5, l6, l7, l8, l9, X9⟩ := w
    rcases cc with _ | cc
    · have e2 : v9 = some (.int (iN vv)) := Sum.inl.inj w2
      subst e2
      refine (show Ev _ _ _ _ _ _ _ (.int (iN vv) :: .int (iN 0) :: .ref ao :: []) from ?_)
      refine e_i2l hv dL_holds_8 ?_
      refine e_lastore ((X9.fr ao na).trans fa) (by omega) (by omega) rfl dL_holds_9 ?_
      refine e_goto (tgt := 21) dL_holds_10 rfl ?_
      refine e_iconst dL_holds_21 ?_
      refine e_iret rfl dL_holds_22 (by decide) (by decide) ?_
      exact ⟨rfl, rfl, h9, ⟨_, _, _, _, _, _, _, _, _, X9⟩, rfl⟩
    · exact nomatch w2
set_option maxRecDepth 20000 in
theorem H_triangles {ag : Nat → Int} (X : hsX G P E S b P2 E2 S2 F L1 L2 H1 H2 QL QT qa CA CB o h0 h) (fa : h0 ao = some (aL G 1 ag)) (na : ao < o ∨ o + 96 ≤ ao) {j : Int} (rj : r32 j) : Run G mL_triangles [.ref o, .int (iN j), .ref ao] none h 1 6 (zW G (wK ((k_triangles S j))) P E S b P2 E2 S2 F o h0 ao ag) := by
  have HC := C_triangles X rj
  rw [rsI_w] at HC
  have hk : (wK ((k_triangles S j))).1 ≤ 2 := by first | exact kc_triangles | exact kc_triangles _ | exact kc_triangles _ _ | exact kc_triangles _ _ _ | exact kc_triangles _ _ _ _ | exact kc_triangles _ _ _ _ _
  have hv : r32 (wK ((k_triangles S j))).2 := r32_of _
  generalize wK ((k_triangles S j)) = KK at HC hk hv ⊢
  obtain ⟨cc, vv⟩ := KK
  refine run_ofH rfl plL rfl ?_
  refine e_aload_n dL_triangles_0 rfl ?_
  refine e_iconst dL_triangles_1 ?_
  refine e_aload_n dL_triangles_2 rfl ?_
  refine e_iload_n dL_triangles_3 rfl ?_
  refine e_callV qcL_92 X.obj rfl rfl HC rfl rfl rfl rfl dL_triangles_4 (fun E9 z9 h9 w => ?_) (fun v9 z9 h9 w => ?_)
  · obtain ⟨rfl, w2, l1, l2, l3, l4, l5, l6, l7, l8, l9, X9⟩ := w
    rcases cc with _ | cc
    · exact nomatch w2
    rcases cc with _ | cc
    · have e2 : E9 = xIAE := Sum.inr.inj w2
      subst e2
      refine ex_catch [] ⟨0, 9, 12, 13⟩ [⟨0, 9, 15, 15⟩] rfl (by decide) (fun y hy => absurd hy List.not_mem_nil) (by decide) (by decide) wLx13 (by decide) (fun q9 => ?_)
      refine e_astore_n dL_triangles_12 rfl ?_
      refine e_iconst dL_triangles_13 ?_
      refine e_iret rfl dL_triangles_14 (by decide) (by decide) ?_
      exact ⟨rfl, rfl, h9, ⟨_, _, _, _, _, _, _, _, _, X9⟩, rfl⟩
    rcases cc with _ | cc
    · have e2 : E9 = xISE := Sum.inr.inj w2
      subst e2
      refine ex_catch [⟨0, 9, 12, 13⟩] ⟨0, 9, 15, 15⟩ [] rfl (by decide) (List.forall_mem_cons.mpr ⟨⟨by decide, xIAE, by decide, by decide, wLx13⟩, fun y hy => absurd hy List.not_mem_nil⟩) (by decide) (by decide) wLx15 (by decide) (fun q9 => ?_)
      refine e_astore_n dL_triangles_15 rfl ?_
      refine e_iconst dL_triangles_16 ?_
      refine e_iret rfl dL_triangles_17 (by decide) (by decide) ?_
      exact ⟨rfl, rfl, h9, ⟨_, _, _, _, _, _, _, _, _, X9⟩, rfl⟩
    exact absurd hk (by show ¬ (_ ≤ _); omega)
  · obtain ⟨rfl, w2, l1, l2, l3, l4, l5, l6, l7, l8, l9, X9⟩ := w
    rcases cc with _ | cc
    · have e2 : v9 = some (.int (iN vv)) := Sum.inl.inj w2
      subst e2
      refine (show Ev _ _ _ _ _ _ _ (.int (iN vv) :: .int (iN 0) :: .ref ao :: []) from ?_)
      refine e_i2l hv dL_triangles_7 ?_
      refine e_lastore ((X9.fr ao na).trans fa) (by omega) (by omega) rfl dL_triangles_8 ?_
      refine e_goto (tgt := 18) dL_triangles_9 rfl ?_
      refine e_iconst dL_triangles_18 ?_
      refine e_iret rfl dL_triangles_19 (by decide) (by decide) ?_
      exact ⟨rfl, rfl, h9, ⟨_, _, _, _, _, _, _, _, _, X9⟩, rfl⟩
    · exact nomatch w2
set_option maxRecDepth 20000 in
theorem H_triangleAt {ag : Nat → Int} (X : hsX G P E S b P2 E2 S2 F L1 L2 H1 H2 QL QT qa CA CB o h0 h) (fa : h0 ao = some (aL G 1 ag)) (na : ao < o ∨ o + 96 ≤ ao) {j : Int} (rj : r32 j) {t : Int} (rt : r32 t) : Run G mL_triangleAt [.ref o, .int (iN j), .int (iN t), .ref ao] none h 1 6 (zW G (wK ((k_triangleAt S j t))) P E S b P2 E2 S2 F o h0 ao ag) := by
  have HC := C_triangleAt X rj rt
  rw [rsI_w] at HC
  have hk : (wK ((k_triangleAt S j t))).1 ≤ 3 := by first | exact kc_triangleAt | exact kc_triangleAt _ | exact kc_triangleAt _ _ | exact kc_triangleAt _ _ _ | exact kc_triangleAt _ _ _ _ | exact kc_triangleAt _ _ _ _ _
  have hv : r32 (wK ((k_triangleAt S j t))).2 := r32_of _
  generalize wK ((k_triangleAt S j t)) = KK at HC hk hv ⊢
  obtain ⟨cc, vv⟩ := KK
  refine run_ofH rfl plL rfl ?_
  refine e_aload_n dL_triangleAt_0 rfl ?_
  refine e_iconst dL_triangleAt_1 ?_
  refine e_aload_n dL_triangleAt_2 rfl ?_
  refine e_iload_n dL_triangleAt_3 rfl ?_
  refine e_iload_n dL_triangleAt_4 rfl ?_
  refine e_callV qcL_95 X.obj rfl rfl HC rfl rfl rfl rfl dL_triangleAt_5 (fun E9 z9 h9 w => ?_) (fun v9 z9 h9 w => ?_)
  · obtain ⟨rfl, w2, l1, l2, l3, l4, l5, l6, l7, l8, l9, X9⟩ := w
    rcases cc with _ | cc
    · exact nomatch w2
    rcases cc with _ | cc
    · have e2 : E9 = xIAE := Sum.inr.inj w2
      subst e2
      refine ex_catch [] ⟨0, 10, 13, 13⟩ [⟨0, 10, 17, 15⟩, ⟨0, 10, 21, 21⟩] rfl (by decide) (fun y hy => absurd hy List.not_mem_nil) (by decide) (by decide) wLx13 (by decide) (fun q9 => ?_)
      refine e_astore dL_triangleAt_13 rfl ?_
      refine e_iconst dL_triangleAt_15 ?_
      refine e_iret rfl dL_triangleAt_16 (by decide) (by decide) ?_
      exact ⟨rfl, rfl, h9, ⟨_, _, _, _, _, _, _, _, _, X9⟩, rfl⟩
    rcases cc with _ | cc
    · have e2 : E9 = xISE := Sum.inr.inj w2
      subst e2
      refine ex_catch [⟨0, 10, 13, 13⟩] ⟨0, 10, 17, 15⟩ [⟨0, 10, 21, 21⟩] rfl (by decide) (List.forall_mem_cons.mpr ⟨⟨by decide, xIAE, by decide, by decide, wLx13⟩, fun y hy => absurd hy List.not_mem_nil⟩) (by decide) (by decide) wLx15 (by decide) (fun q9 => ?_)
      refine e_astore dL_triangleAt_17 rfl ?_
      refine e_iconst dL_triangleAt_19 ?_
      refine e_iret rfl dL_triangleAt_20 (by decide) (by decide) ?_
      exact ⟨rfl, rfl, h9, ⟨_, _, _, _, _, _, _, _, _, X9⟩, rfl⟩
    rcases cc with _ | cc
    · have e2 : E9 = xIOB := Sum.inr.inj w2
      subst e2
      refine ex_catch [⟨0, 10, 13, 13⟩, ⟨0, 10, 17, 15⟩] ⟨0, 10, 21, 21⟩ [] rfl (by decide) (List.forall_mem_cons.mpr ⟨⟨by decide, xIAE, by decide, by decide, wLx13⟩, List.forall_mem_cons.mpr ⟨⟨by decide, xISE, by decide, by decide, wLx15⟩, fun y hy => absurd hy List.not_mem_nil⟩⟩) (by decide) (by decide) wLx21 (by decide) (fun q9 => ?_)
      refine e_astore dL_triangleAt_21 rfl ?_
      refine e_iconst dL_triangleAt_23 ?_
      refine e_iret rfl dL_triangleAt_24 (by decide) (by decide) ?_
      exact ⟨rfl, rfl, h9, ⟨_, _, _, _, _, _, _, _, _, X9⟩, rfl⟩
    exact absurd hk (by show ¬ (_ ≤ _); omega)
  · obtain ⟨rfl, w2, l1, l2, l3, l4, l5, l6, l7, l8, l9, X9⟩ := w
    rcases cc with _ | cc
    · have e2 : v9 = some (.int (iN vv)) := Sum.inl.inj w2
      subst e2
      refine (show Ev _ _ _ _ _ _ _ (.int (iN vv) :: .int (iN 0) :: .ref ao :: []) from ?_)
      refine e_i2l hv dL_triangleAt_8 ?_
      refine e_lastore ((X9.fr ao na).trans fa) (by omega) (by omega) rfl dL_triangleAt_9 ?_
      refine e_goto (tgt := 25) dL_triangleAt_10 rfl ?_
      refine e_iconst dL_triangleAt_25 ?_
      refine e_iret rfl dL_triangleAt_26 (by decide) (by decide) ?_
      exact ⟨rfl, rfl, h9, ⟨_, _, _, _, _, _, _, _, _, X9⟩, rfl⟩
    · exact nomatch w2
set_option maxRecDepth 20000 in
theorem H_sees {ag : Nat → Int} (X : hsX G P E S b P2 E2 S2 F L1 L2 H1 H2 QL QT qa CA CB o h0 h) (fa : h0 ao = some (aL G 1 ag)) (na : ao < o ∨ o + 96 ≤ ao) {j : Int} (rj : r32 j) {k : Int} (rk : r32 k) {l : Int} (rl : r32 l) : Run G mL_sees [.ref o, .int (iN j), .int (iN k), .int (iN l), .ref ao] none h 1 6 (zW G (bK (wK ((k_sees S j k l)))) P E S b P2 E2 S2 F o h0 ao ag) := by
  have HC := C_sees X rj rk rl
  rw [rsI_w] at HC
  have hk : (wK ((k_sees S j k l))).1 ≤ 3 := by first | exact kc_sees | exact kc_sees _ | exact kc_sees _ _ | exact kc_sees _ _ _ | exact kc_sees _ _ _ _ | exact kc_sees _ _ _ _ _
  have hv : r32 (wK ((k_sees S j k l))).2 := r32_of _
  generalize wK ((k_sees S j k l)) = KK at HC hk hv ⊢
  obtain ⟨cc, vv⟩ := KK
  refine run_ofH rfl plL rfl ?_
  refine e_aload dL_sees_0 rfl ?_
  refine e_iconst dL_sees_2 ?_
  refine e_aload_n dL_sees_3 rfl ?_
  refine e_iload_n dL_sees_4 rfl ?_
  refine e_iload_n dL_sees_5 rfl ?_
  refine e_iload_n dL_sees_6 rfl ?_
  refine e_callV qcL_98 X.obj rfl rfl HC rfl rfl rfl rfl dL_sees_7 (fun E9 z9 h9 w => ?_) (fun v9 z9 h9 w => ?_)
  · obtain ⟨rfl, w2, l1, l2, l3, l4, l5, l6, l7, l8, l9, X9⟩ := w
    rcases cc with _ | cc
    · exact nomatch w2
    rcases cc with _ | cc
    · have e2 : E9 = xIAE := Sum.inr.inj w2
      subst e2
      refine ex_catch [] ⟨0, 19, 22, 13⟩ [⟨0, 19, 26, 21⟩, ⟨0, 19, 30, 15⟩] rfl (by decide) (fun y hy => absurd hy List.not_mem_nil) (by decide) (by decide) wLx13 (by decide) (fun q9 => ?_)
      refine e_astore dL_sees_22 rfl ?_
      refine e_iconst dL_sees_24 ?_
      refine e_iret rfl dL_sees_25 (by decide) (by decide) ?_
      exact ⟨rfl, rfl, h9, ⟨_, _, _, _, _, _, _, _, _, X9⟩, rfl⟩
    rcases cc with _ | cc
    · have e2 : E9 = xIOB := Sum.inr.inj w2
      subst e2
      refine ex_catch [⟨0, 19, 22, 13⟩] ⟨0, 19, 26, 21⟩ [⟨0, 19, 30, 15⟩] rfl (by decide) (List.forall_mem_cons.mpr ⟨⟨by decide, xIAE, by decide, by decide, wLx13⟩, fun y hy => absurd hy List.not_mem_nil⟩) (by decide) (by decide) wLx21 (by decide) (fun q9 => ?_)
      refine e_astore dL_sees_26 rfl ?_
      refine e_iconst dL_sees_28 ?_
      refine e_iret rfl dL_sees_29 (by decide) (by decide) ?_
      exact ⟨rfl, rfl, h9, ⟨_, _, _, _, _, _, _, _, _, X9⟩, rfl⟩
    rcases cc with _ | cc
    · have e2 : E9 = xISE := Sum.inr.inj w2
      subst e2
      refine ex_catch [⟨0, 19, 22, 13⟩, ⟨0, 19, 26, 21⟩] ⟨0, 19, 30, 15⟩ [] rfl (by decide) (List.forall_mem_cons.mpr ⟨⟨by decide, xIAE, by decide, by decide, wLx13⟩, List.forall_mem_cons.mpr ⟨⟨by decide, xIOB, by decide, by decide, wLx21⟩, fun y hy => absurd hy List.not_mem_nil⟩⟩) (by decide) (by decide) wLx15 (by decide) (fun q9 => ?_)
      refine e_astore dL_sees_30 rfl ?_
      refine e_iconst dL_sees_32 ?_
      refine e_iret rfl dL_sees_33 (by decide) (by decide) ?_
      exact ⟨rfl, rfl, h9, ⟨_, _, _, _, _, _, _, _, _, X9⟩, rfl⟩
    exact absurd hk (by show ¬ (_ ≤ _); omega)
  · obtain ⟨rfl, w2, l1, l2, l3, l4, l5, l6, l7, l8, l9, X9⟩ := w
    rcases cc with _ | cc
    · have e2 : v9 = some (.int (iN vv)) := Sum.inl.inj w2
      subst e2
      refine (show Ev _ _ _ _ _ _ _ (.int (iN vv) :: .int (iN 0) :: .ref ao :: []) from ?_)
      refine e_if_eq (tgt := 17) hv dL_sees_10 rfl (fun c_10 => ?_) (fun c_10 => ?_)
      · refine (show Ev _ _ _ _ _ _ _ _ from ?_)
        have eb : bK (0, vv) = (0, 0) := by show (0, if vv = 0 then (0 : Int) else 1) = _; rw [if_pos c_10]
        rw [eb]
        refine e_lconst dL_sees_17 ?_
        refine e_lastore ((X9.fr ao na).trans fa) (by omega) (by omega) rfl dL_sees_18 ?_
        refine e_goto (tgt := 34) dL_sees_19 rfl ?_
        refine e_iconst dL_sees_34 ?_
        refine e_iret rfl dL_sees_35 (by decide) (by decide) ?_
        exact ⟨rfl, rfl, h9, ⟨_, _, _, _, _, _, _, _, _, X9⟩, rfl⟩
      · have eb : bK (0, vv) = (0, 1) := by show (0, if vv = 0 then (0 : Int) else 1) = _; rw [if_neg c_10]
        rw [eb]
        refine e_lconst dL_sees_13 ?_
        refine e_goto (tgt := 18) dL_sees_14 rfl ?_
        refine e_lastore ((X9.fr ao na).trans fa) (by omega) (by omega) rfl dL_sees_18 ?_
        refine e_goto (tgt := 34) dL_sees_19 rfl ?_
        refine e_iconst dL_sees_34 ?_
        refine e_iret rfl dL_sees_35 (by decide) (by decide) ?_
        exact ⟨rfl, rfl, h9, ⟨_, _, _, _, _, _, _, _, _, X9⟩, rfl⟩
    · exact nomatch w2
set_option maxRecDepth 20000 in
theorem H_view {ag : Nat → Int} (X : hsX G P E S b P2 E2 S2 F L1 L2 H1 H2 QL QT qa CA CB o h0 h) (fa : h0 ao = some (aL G 1 ag)) (na : ao < o ∨ o + 96 ≤ ao) {j : Int} (rj : r32 j) {k : Int} (rk : r32 k) : Run G mL_view [.ref o, .int (iN j), .int (iN k), .ref ao] none h 1 6 (zW G (wK ((k_view S j k))) P E S b P2 E2 S2 F o h0 ao ag) := by
  have HC := C_view X rj rk
  rw [rsI_w] at HC
  have hk : (wK ((k_view S j k))).1 ≤ 3 := by first | exact kc_view | exact kc_view _ | exact kc_view _ _ | exact kc_view _ _ _ | exact kc_view _ _ _ _ | exact kc_view _ _ _ _ _
  have hv : r32 (wK ((k_view S j k))).2 := r32_of _
  generalize wK ((k_view S j k)) = KK at HC hk hv ⊢
  obtain ⟨cc, vv⟩ := KK
  refine run_ofH rfl plL rfl ?_
  refine e_aload_n dL_view_0 rfl ?_
  refine e_iconst dL_view_1 ?_
  refine e_aload_n dL_view_2 rfl ?_
  refine e_iload_n dL_view_3 rfl ?_
  refine e_iload_n dL_view_4 rfl ?_
  refine e_callV qcL_102 X.obj rfl rfl HC rfl rfl rfl rfl dL_view_5 (fun E9 z9 h9 w => ?_) (fun v9 z9 h9 w => ?_)
  · obtain ⟨rfl, w2, l1, l2, l3, l4, l5, l6, l7, l8, l9, X9⟩ := w
    rcases cc with _ | cc
    · exact nomatch w2
    rcases cc with _ | cc
    · have e2 : E9 = xIAE := Sum.inr.inj w2
      subst e2
      refine ex_catch [] ⟨0, 10, 13, 13⟩ [⟨0, 10, 17, 21⟩, ⟨0, 10, 21, 15⟩] rfl (by decide) (fun y hy => absurd hy List.not_mem_nil) (by decide) (by decide) wLx13 (by decide) (fun q9 => ?_)
      refine e_astore dL_view_13 rfl ?_
      refine e_iconst dL_view_15 ?_
      refine e_iret rfl dL_view_16 (by decide) (by decide) ?_
      exact ⟨rfl, rfl, h9, ⟨_, _, _, _, _, _, _, _, _, X9⟩, rfl⟩
    rcases cc with _ | cc
    · have e2 : E9 = xIOB := Sum.inr.inj w2
      subst e2
      refine ex_catch [⟨0, 10, 13, 13⟩] ⟨0, 10, 17, 21⟩ [⟨0, 10, 21, 15⟩] rfl (by decide) (List.forall_mem_cons.mpr ⟨⟨by decide, xIAE, by decide, by decide, wLx13⟩, fun y hy => absurd hy List.not_mem_nil⟩) (by decide) (by decide) wLx21 (by decide) (fun q9 => ?_)
      refine e_astore dL_view_17 rfl ?_
      refine e_iconst dL_view_19 ?_
      refine e_iret rfl dL_view_20 (by decide) (by decide) ?_
      exact ⟨rfl, rfl, h9, ⟨_, _, _, _, _, _, _, _, _, X9⟩, rfl⟩
    rcases cc with _ | cc
    · have e2 : E9 = xISE := Sum.inr.inj w2
      subst e2
      refine ex_catch [⟨0, 10, 13, 13⟩, ⟨0, 10, 17, 21⟩] ⟨0, 10, 21, 15⟩ [] rfl (by decide) (List.forall_mem_cons.mpr ⟨⟨by decide, xIAE, by decide, by decide, wLx13⟩, List.forall_mem_cons.mpr ⟨⟨by decide, xIOB, by decide, by decide, wLx21⟩, fun y hy => absurd hy List.not_mem_nil⟩⟩) (by decide) (by decide) wLx15 (by decide) (fun q9 => ?_)
      refine e_astore dL_view_21 rfl ?_
      refine e_iconst dL_view_23 ?_
      refine e_iret rfl dL_view_24 (by decide) (by decide) ?_
      exact ⟨rfl, rfl, h9, ⟨_, _, _, _, _, _, _, _, _, X9⟩, rfl⟩
    exact absurd hk (by show ¬ (_ ≤ _); omega)
  · obtain ⟨rfl, w2, l1, l2, l3, l4, l5, l6, l7, l8, l9, X9⟩ := w
    rcases cc with _ | cc
    · have e2 : v9 = some (.int (iN vv)) := Sum.inl.inj w2
      subst e2
      refine (show Ev _ _ _ _ _ _ _ (.int (iN vv) :: .int (iN 0) :: .ref ao :: []) from ?_)
      refine e_i2l hv dL_view_8 ?_
      refine e_lastore ((X9.fr ao na).trans fa) (by omega) (by omega) rfl dL_view_9 ?_
      refine e_goto (tgt := 25) dL_view_10 rfl ?_
      refine e_iconst dL_view_25 ?_
      refine e_iret rfl dL_view_26 (by decide) (by decide) ?_
      exact ⟨rfl, rfl, h9, ⟨_, _, _, _, _, _, _, _, _, X9⟩, rfl⟩
    · exact nomatch w2
set_option maxRecDepth 20000 in
theorem H_line {ag : Nat → Int} (X : hsX G P E S b P2 E2 S2 F L1 L2 H1 H2 QL QT qa CA CB o h0 h) (fa : h0 ao = some (aL G 1 ag)) (na : ao < o ∨ o + 96 ≤ ao) {x : Int} (rx : r32 x) {y : Int} (ry : r32 y) {u : Int} (ru : r32 u) {v : Int} (rv : r32 v) (ev : E.length % 2 = 0) : Run G mL_line [.ref o, .int (iN x), .int (iN y), .int (iN u), .int (iN v), .ref ao] none h 1 6 (zW G (wK ((k_line E x y u v))) P (s_line E x y u v) S b P2 E2 S2 F o h0 ao ag) := by
  have HC := C_line X rx ry ru rv ev
  rw [rsI_w] at HC
  have hk : (wK ((k_line E x y u v))).1 ≤ 2 := by first | exact kc_line | exact kc_line _ | exact kc_line _ _ | exact kc_line _ _ _ | exact kc_line _ _ _ _ | exact kc_line _ _ _ _ _
  have hv : r32 (wK ((k_line E x y u v))).2 := r32_of _
  generalize wK ((k_line E x y u v)) = KK at HC hk hv ⊢
  obtain ⟨cc, vv⟩ := KK
  refine run_ofH rfl plL rfl ?_
  refine e_aload dL_line_0 rfl ?_
  refine e_iconst dL_line_2 ?_
  refine e_aload_n dL_line_3 rfl ?_
  refine e_iload_n dL_line_4 rfl ?_
  refine e_iload_n dL_line_5 rfl ?_
  refine e_iload_n dL_line_6 rfl ?_
  refine e_iload dL_line_7 rfl ?_
  refine e_callV qcL_105 X.obj rfl rfl HC rfl rfl rfl rfl dL_line_9 (fun E9 z9 h9 w => ?_) (fun v9 z9 h9 w => ?_)
  · obtain ⟨rfl, w2, l1, l2, l3, l4, l5, l6, l7, l8, l9, X9⟩ := w
    rcases cc with _ | cc
    · exact nomatch w2
    rcases cc with _ | cc
    · have e2 : E9 = xIAE := Sum.inr.inj w2
      subst e2
      refine ex_catch [] ⟨0, 14, 17, 13⟩ [⟨0, 14, 21, 15⟩] rfl (by decide) (fun y hy => absurd hy List.not_mem_nil) (by decide) (by decide) wLx13 (by decide) (fun q9 => ?_)
      refine e_astore dL_line_17 rfl ?_
      refine e_iconst dL_line_19 ?_
      refine e_iret rfl dL_line_20 (by decide) (by decide) ?_
      exact ⟨rfl, rfl, h9, ⟨_, _, _, _, _, _, _, _, _, X9⟩, rfl⟩
    rcases cc with _ | cc
    · have e2 : E9 = xISE := Sum.inr.inj w2
      subst e2
      refine ex_catch [⟨0, 14, 17, 13⟩] ⟨0, 14, 21, 15⟩ [] rfl (by decide) (List.forall_mem_cons.mpr ⟨⟨by decide, xIAE, by decide, by decide, wLx13⟩, fun y hy => absurd hy List.not_mem_nil⟩) (by decide) (by decide) wLx15 (by decide) (fun q9 => ?_)
      refine e_astore dL_line_21 rfl ?_
      refine e_iconst dL_line_23 ?_
      refine e_iret rfl dL_line_24 (by decide) (by decide) ?_
      exact ⟨rfl, rfl, h9, ⟨_, _, _, _, _, _, _, _, _, X9⟩, rfl⟩
    exact absurd hk (by show ¬ (_ ≤ _); omega)
  · obtain ⟨rfl, w2, l1, l2, l3, l4, l5, l6, l7, l8, l9, X9⟩ := w
    rcases cc with _ | cc
    · have e2 : v9 = some (.int (iN vv)) := Sum.inl.inj w2
      subst e2
      refine (show Ev _ _ _ _ _ _ _ (.int (iN vv) :: .int (iN 0) :: .ref ao :: []) from ?_)
      refine e_i2l hv dL_line_12 ?_
      refine e_lastore ((X9.fr ao na).trans fa) (by omega) (by omega) rfl dL_line_13 ?_
      refine e_goto (tgt := 25) dL_line_14 rfl ?_
      refine e_iconst dL_line_25 ?_
      refine e_iret rfl dL_line_26 (by decide) (by decide) ?_
      exact ⟨rfl, rfl, h9, ⟨_, _, _, _, _, _, _, _, _, X9⟩, rfl⟩
    · exact nomatch w2
set_option maxRecDepth 20000 in
theorem H_cross {ag : Nat → Int} (X : hsX G P E S b P2 E2 S2 F L1 L2 H1 H2 QL QT qa CA CB o h0 h) (fa : h0 ao = some (aL G 1 ag)) (na : ao < o ∨ o + 96 ≤ ao) {l : Int} (rl : r32 l) {m : Int} (rm : r32 m) : Run G mL_cross [.ref o, .int (iN l), .int (iN m), .ref ao] none h 1 6 (zW G (bK (wK ((k_cross E l m)))) P E S b P2 E2 S2 F o h0 ao ag) := by
  have HC := C_cross X rl rm
  rw [rsI_w] at HC
  have hk : (wK ((k_cross E l m))).1 ≤ 1 := by first | exact kc_cross | exact kc_cross _ | exact kc_cross _ _ | exact kc_cross _ _ _ | exact kc_cross _ _ _ _ | exact kc_cross _ _ _ _ _
  have hv : r32 (wK ((k_cross E l m))).2 := r32_of _
  generalize wK ((k_cross E l m)) = KK at HC hk hv ⊢
  obtain ⟨cc, vv⟩ := KK
  refine run_ofH rfl plL rfl ?_
  refine e_aload_n dL_cross_0 rfl ?_
  refine e_iconst dL_cross_1 ?_
  refine e_aload_n dL_cross_2 rfl ?_
  refine e_iload_n dL_cross_3 rfl ?_
  refine e_iload_n dL_cross_4 rfl ?_
  refine e_callV qcL_109 X.obj rfl rfl HC rfl rfl rfl rfl dL_cross_5 (fun E9 z9 h9 w => ?_) (fun v9 z9 h9 w => ?_)
  · obtain ⟨rfl, w2, l1, l2, l3, l4, l5, l6, l7, l8, l9, X9⟩ := w
    rcases cc with _ | cc
    · exact nomatch w2
    rcases cc with _ | cc
    · have e2 : E9 = xIOB := Sum.inr.inj w2
      subst e2
      refine ex_catch [] ⟨0, 17, 20, 21⟩ [] rfl (by decide) (fun y hy => absurd hy List.not_mem_nil) (by decide) (by decide) wLx21 (by decide) (fun q9 => ?_)
      refine e_astore dL_cross_20 rfl ?_
      refine e_iconst dL_cross_22 ?_
      refine e_iret rfl dL_cross_23 (by decide) (by decide) ?_
      exact ⟨rfl, rfl, h9, ⟨_, _, _, _, _, _, _, _, _, X9⟩, rfl⟩
    exact absurd hk (by show ¬ (_ ≤ _); omega)
  · obtain ⟨rfl, w2, l1, l2, l3, l4, l5, l6, l7, l8, l9, X9⟩ := w
    rcases cc with _ | cc
    · have e2 : v9 = some (.int (iN vv)) := Sum.inl.inj w2
      subst e2
      refine (show Ev _ _ _ _ _ _ _ (.int (iN vv) :: .int (iN 0) :: .ref ao :: []) from ?_)
      refine e_if_eq (tgt := 15) hv dL_cross_8 rfl (fun c_8 => ?_) (fun c_8 => ?_)
      · refine (show Ev _ _ _ _ _ _ _ _ from ?_)
        have eb : bK (0, vv) = (0, 0) := by show (0, if vv = 0 then (0 : Int) else 1) = _; rw [if_pos c_8]
        rw [eb]
        refine e_lconst dL_cross_15 ?_
        refine e_lastore ((X9.fr ao na).trans fa) (by omega) (by omega) rfl dL_cross_16 ?_
        refine e_goto (tgt := 24) dL_cross_17 rfl ?_
        refine e_iconst dL_cross_24 ?_
        refine e_iret rfl dL_cross_25 (by decide) (by decide) ?_
        exact ⟨rfl, rfl, h9, ⟨_, _, _, _, _, _, _, _, _, X9⟩, rfl⟩
      · have eb : bK (0, vv) = (0, 1) := by show (0, if vv = 0 then (0 : Int) else 1) = _; rw [if_neg c_8]
        rw [eb]
        refine e_lconst dL_cross_11 ?_
        refine e_goto (tgt := 16) dL_cross_12 rfl ?_
        refine e_lastore ((X9.fr ao na).trans fa) (by omega) (by omega) rfl dL_cross_16 ?_
        refine e_goto (tgt := 24) dL_cross_17 rfl ?_
        refine e_iconst dL_cross_24 ?_
        refine e_iret rfl dL_cross_25 (by decide) (by decide) ?_
        exact ⟨rfl, rfl, h9, ⟨_, _, _, _, _, _, _, _, _, X9⟩, rfl⟩
    · exact nomatch w2
set_option maxRecDepth 20000 in
theorem H_crossingAt {ag : Nat → Int} (X : hsX G P E S b P2 E2 S2 F L1 L2 H1 H2 QL QT qa CA CB o h0 h) (fa : h0 ao = some (aL G 1 ag)) (na : ao < o ∨ o + 96 ≤ ao) {p : Int} (rp : r32 p) : Run G mL_crossingAt [.ref o, .int (iN p), .ref ao] none h 1 6 (zW G (wK ((k_crossingAt E p))) P E S b P2 E2 S2 F o h0 ao ag) := by
  have HC := C_crossingAt X rp
  rw [rsI_w] at HC
  have hk : (wK ((k_crossingAt E p))).1 ≤ 1 := by first | exact kc_crossingAt | exact kc_crossingAt _ | exact kc_crossingAt _ _ | exact kc_crossingAt _ _ _ | exact kc_crossingAt _ _ _ _ | exact kc_crossingAt _ _ _ _ _
  have hv : r32 (wK ((k_crossingAt E p))).2 := r32_of _
  generalize wK ((k_crossingAt E p)) = KK at HC hk hv ⊢
  obtain ⟨cc, vv⟩ := KK
  refine run_ofH rfl plL rfl ?_
  refine e_aload_n dL_crossingAt_0 rfl ?_
  refine e_iconst dL_crossingAt_1 ?_
  refine e_aload_n dL_crossingAt_2 rfl ?_
  refine e_iload_n dL_crossingAt_3 rfl ?_
  refine e_callV qcL_113 X.obj rfl rfl HC rfl rfl rfl rfl dL_crossingAt_4 (fun E9 z9 h9 w => ?_) (fun v9 z9 h9 w => ?_)
  · obtain ⟨rfl, w2, l1, l2, l3, l4, l5, l6, l7, l8, l9, X9⟩ := w
    rcases cc with _ | cc
    · exact nomatch w2
    rcases cc with _ | cc
    · have e2 : E9 = xIOB := Sum.inr.inj w2
      subst e2
      refine ex_catch [] ⟨0, 9, 12, 21⟩ [] rfl (by decide) (fun y hy => absurd hy List.not_mem_nil) (by decide) (by decide) wLx21 (by decide) (fun q9 => ?_)
      refine e_astore_n dL_crossingAt_12 rfl ?_
      refine e_iconst dL_crossingAt_13 ?_
      refine e_iret rfl dL_crossingAt_14 (by decide) (by decide) ?_
      exact ⟨rfl, rfl, h9, ⟨_, _, _, _, _, _, _, _, _, X9⟩, rfl⟩
    exact absurd hk (by show ¬ (_ ≤ _); omega)
  · obtain ⟨rfl, w2, l1, l2, l3, l4, l5, l6, l7, l8, l9, X9⟩ := w
    rcases cc with _ | cc
    · have e2 : v9 = some (.int (iN vv)) := Sum.inl.inj w2
      subst e2
      refine (show Ev _ _ _ _ _ _ _ (.int (iN vv) :: .int (iN 0) :: .ref ao :: []) from ?_)
      refine e_i2l hv dL_crossingAt_7 ?_
      refine e_lastore ((X9.fr ao na).trans fa) (by omega) (by omega) rfl dL_crossingAt_8 ?_
      refine e_goto (tgt := 15) dL_crossingAt_9 rfl ?_
      refine e_iconst dL_crossingAt_15 ?_
      refine e_iret rfl dL_crossingAt_16 (by decide) (by decide) ?_
      exact ⟨rfl, rfl, h9, ⟨_, _, _, _, _, _, _, _, _, X9⟩, rfl⟩
    · exact nomatch w2
set_option maxRecDepth 20000 in
theorem H_pair {ag : Nat → Int} (X : hsX G P E S b P2 E2 S2 F L1 L2 H1 H2 QL QT qa CA CB o h0 h) (fa : h0 ao = some (aL G 1 ag)) (na : ao < o ∨ o + 96 ≤ ao) {a : Int} (ra : r32 a) {u : Prop} [Decidable u] : Run G mL_pair [.ref o, .int (iN a), .int (iN (bP u)), .ref ao] none h 1 6 (zW G (wK ((k_pair P a u))) P E S b P2 E2 S2 F o h0 ao ag) := by
  have HC := C_pair X (u := u) ra
  rw [rsI_w] at HC
  have hk : (wK ((k_pair P a u))).1 ≤ 2 := by first | exact kc_pair | exact kc_pair _ | exact kc_pair _ _ | exact kc_pair _ _ _ | exact kc_pair _ _ _ _ | exact kc_pair _ _ _ _ _
  have hv : r32 (wK ((k_pair P a u))).2 := r32_of _
  generalize wK ((k_pair P a u)) = KK at HC hk hv ⊢
  obtain ⟨cc, vv⟩ := KK
  refine run_ofH rfl plL rfl ?_
  refine e_aload_n dL_pair_0 rfl ?_
  refine e_iconst dL_pair_1 ?_
  refine e_aload_n dL_pair_2 rfl ?_
  refine e_iload_n dL_pair_3 rfl ?_
  refine e_iload_n dL_pair_4 rfl ?_
  refine e_callV qcL_116 X.obj rfl rfl HC rfl rfl rfl rfl dL_pair_5 (fun E9 z9 h9 w => ?_) (fun v9 z9 h9 w => ?_)
  · obtain ⟨rfl, w2, l1, l2, l3, l4, l5, l6, l7, l8, l9, X9⟩ := w
    rcases cc with _ | cc
    · exact nomatch w2
    rcases cc with _ | cc
    · have e2 : E9 = xIAE := Sum.inr.inj w2
      subst e2
      refine ex_catch [] ⟨0, 10, 13, 13⟩ [⟨0, 10, 17, 42⟩] rfl (by decide) (fun y hy => absurd hy List.not_mem_nil) (by decide) (by decide) wLx13 (by decide) (fun q9 => ?_)
      refine e_astore dL_pair_13 rfl ?_
      refine e_iconst dL_pair_15 ?_
      refine e_iret rfl dL_pair_16 (by decide) (by decide) ?_
      exact ⟨rfl, rfl, h9, ⟨_, _, _, _, _, _, _, _, _, X9⟩, rfl⟩
    rcases cc with _ | cc
    · have e2 : E9 = xNSE := Sum.inr.inj w2
      subst e2
      refine ex_catch [⟨0, 10, 13, 13⟩] ⟨0, 10, 17, 42⟩ [] rfl (by decide) (List.forall_mem_cons.mpr ⟨⟨by decide, xIAE, by decide, by decide, wLx13⟩, fun y hy => absurd hy List.not_mem_nil⟩) (by decide) (by decide) wLx42 (by decide) (fun q9 => ?_)
      refine e_astore dL_pair_17 rfl ?_
      refine e_iconst dL_pair_19 ?_
      refine e_iret rfl dL_pair_20 (by decide) (by decide) ?_
      exact ⟨rfl, rfl, h9, ⟨_, _, _, _, _, _, _, _, _, X9⟩, rfl⟩
    exact absurd hk (by show ¬ (_ ≤ _); omega)
  · obtain ⟨rfl, w2, l1, l2, l3, l4, l5, l6, l7, l8, l9, X9⟩ := w
    rcases cc with _ | cc
    · have e2 : v9 = some (.int (iN vv)) := Sum.inl.inj w2
      subst e2
      refine (show Ev _ _ _ _ _ _ _ (.int (iN vv) :: .int (iN 0) :: .ref ao :: []) from ?_)
      refine e_i2l hv dL_pair_8 ?_
      refine e_lastore ((X9.fr ao na).trans fa) (by omega) (by omega) rfl dL_pair_9 ?_
      refine e_goto (tgt := 21) dL_pair_10 rfl ?_
      refine e_iconst dL_pair_21 ?_
      refine e_iret rfl dL_pair_22 (by decide) (by decide) ?_
      exact ⟨rfl, rfl, h9, ⟨_, _, _, _, _, _, _, _, _, X9⟩, rfl⟩
    · exact nomatch w2
set_option maxRecDepth 20000 in
theorem H_distance {ag : Nat → Int} (X : hsX G P E S b P2 E2 S2 F L1 L2 H1 H2 QL QT qa CA CB o h0 h) (fa : h0 ao = some (aL G 1 ag)) (na : ao < o ∨ o + 96 ≤ ao) {a : Int} (ra : r32 a) {u : Prop} [Decidable u] (hh : 2 ≤ cntN P a P.length → 0 ≤ (exI P a u P.length).1 ∧ (exI P a u P.length).1 ≤ 10000 ∧ exT P a u / 100 < P.length ∧ exT P a u % 100 < P.length) : Run G mL_distance [.ref o, .int (iN a), .int (iN (bP u)), .ref ao] none h 1 6 (zW G (wK ((k_distance P a u))) P E S b P2 E2 S2 F o h0 ao ag) := by
  have HC := C_distance X (u := u) ra hh
  rw [rsI_w] at HC
  have hk : (wK ((k_distance P a u))).1 ≤ 2 := by first | exact kc_distance | exact kc_distance _ | exact kc_distance _ _ | exact kc_distance _ _ _ | exact kc_distance _ _ _ _ | exact kc_distance _ _ _ _ _
  have hv : r32 (wK ((k_distance P a u))).2 := r32_of _
  generalize wK ((k_distance P a u)) = KK at HC hk hv ⊢
  obtain ⟨cc, vv⟩ := KK
  refine run_ofH rfl plL rfl ?_
  refine e_aload_n dL_distance_0 rfl ?_
  refine e_iconst dL_distance_1 ?_
  refine e_aload_n dL_distance_2 rfl ?_
  refine e_iload_n dL_distance_3 rfl ?_
  refine e_iload_n dL_distance_4 rfl ?_
  refine e_callV qcL_119 X.obj rfl rfl HC rfl rfl rfl rfl dL_distance_5 (fun E9 z9 h9 w => ?_) (fun v9 z9 h9 w => ?_)
  · obtain ⟨rfl, w2, l1, l2, l3, l4, l5, l6, l7, l8, l9, X9⟩ := w
    rcases cc with _ | cc
    · exact nomatch w2
    rcases cc with _ | cc
    · have e2 : E9 = xIAE := Sum.inr.inj w2
      subst e2
      refine ex_catch [] ⟨0, 10, 13, 13⟩ [⟨0, 10, 17, 42⟩] rfl (by decide) (fun y hy => absurd hy List.not_mem_nil) (by decide) (by decide) wLx13 (by decide) (fun q9 => ?_)
      refine e_astore dL_distance_13 rfl ?_
      refine e_iconst dL_distance_15 ?_
      refine e_iret rfl dL_distance_16 (by decide) (by decide) ?_
      exact ⟨rfl, rfl, h9, ⟨_, _, _, _, _, _, _, _, _, X9⟩, rfl⟩
    rcases cc with _ | cc
    · have e2 : E9 = xNSE := Sum.inr.inj w2
      subst e2
      refine ex_catch [⟨0, 10, 13, 13⟩] ⟨0, 10, 17, 42⟩ [] rfl (by decide) (List.forall_mem_cons.mpr ⟨⟨by decide, xIAE, by decide, by decide, wLx13⟩, fun y hy => absurd hy List.not_mem_nil⟩) (by decide) (by decide) wLx42 (by decide) (fun q9 => ?_)
      refine e_astore dL_distance_17 rfl ?_
      refine e_iconst dL_distance_19 ?_
      refine e_iret rfl dL_distance_20 (by decide) (by decide) ?_
      exact ⟨rfl, rfl, h9, ⟨_, _, _, _, _, _, _, _, _, X9⟩, rfl⟩
    exact absurd hk (by show ¬ (_ ≤ _); omega)
  · obtain ⟨rfl, w2, l1, l2, l3, l4, l5, l6, l7, l8, l9, X9⟩ := w
    rcases cc with _ | cc
    · have e2 : v9 = some (.int (iN vv)) := Sum.inl.inj w2
      subst e2
      refine (show Ev _ _ _ _ _ _ _ (.int (iN vv) :: .int (iN 0) :: .ref ao :: []) from ?_)
      refine e_i2l hv dL_distance_8 ?_
      refine e_lastore ((X9.fr ao na).trans fa) (by omega) (by omega) rfl dL_distance_9 ?_
      refine e_goto (tgt := 21) dL_distance_10 rfl ?_
      refine e_iconst dL_distance_21 ?_
      refine e_iret rfl dL_distance_22 (by decide) (by decide) ?_
      exact ⟨rfl, rfl, h9, ⟨_, _, _, _, _, _, _, _, _, X9⟩, rfl⟩
    · exact nomatch w2
set_option maxRecDepth 20000 in
theorem H_box {ag : Nat → Int} (X : hsX G P E S b P2 E2 S2 F L1 L2 H1 H2 QL QT qa CA CB o h0 h) (fa : h0 ao = some (aL G 1 ag)) (na : ao < o ∨ o + 96 ≤ ao) {a : Int} (ra : r32 a) {w : Int} (rw : r32 w) : Run G mL_box [.ref o, .int (iN a), .int (iN w), .ref ao] none h 1 6 (zW G (wK ((k_box P a w))) P E S b P2 E2 S2 F o h0 ao ag) := by
  have HC := C_box X ra rw
  rw [rsI_w] at HC
  have hk : (wK ((k_box P a w))).1 ≤ 2 := by first | exact kc_box | exact kc_box _ | exact kc_box _ _ | exact kc_box _ _ _ | exact kc_box _ _ _ _ | exact kc_box _ _ _ _ _
  have hv : r32 (wK ((k_box P a w))).2 := r32_of _
  generalize wK ((k_box P a w)) = KK at HC hk hv ⊢
  obtain ⟨cc, vv⟩ := KK
  refine run_ofH rfl plL rfl ?_
  refine e_aload_n dL_box_0 rfl ?_
  refine e_iconst dL_box_1 ?_
  refine e_aload_n dL_box_2 rfl ?_
  refine e_iload_n dL_box_3 rfl ?_
  refine e_iload_n dL_box_4 rfl ?_
  refine e_callV qcL_122 X.obj rfl rfl HC rfl rfl rfl rfl dL_box_5 (fun E9 z9 h9 w => ?_) (fun v9 z9 h9 w => ?_)
  · obtain ⟨rfl, w2, l1, l2, l3, l4, l5, l6, l7, l8, l9, X9⟩ := w
    rcases cc with _ | cc
    · exact nomatch w2
    rcases cc with _ | cc
    · have e2 : E9 = xIAE := Sum.inr.inj w2
      subst e2
      refine ex_catch [] ⟨0, 10, 13, 13⟩ [⟨0, 10, 17, 42⟩] rfl (by decide) (fun y hy => absurd hy List.not_mem_nil) (by decide) (by decide) wLx13 (by decide) (fun q9 => ?_)
      refine e_astore dL_box_13 rfl ?_
      refine e_iconst dL_box_15 ?_
      refine e_iret rfl dL_box_16 (by decide) (by decide) ?_
      exact ⟨rfl, rfl, h9, ⟨_, _, _, _, _, _, _, _, _, X9⟩, rfl⟩
    rcases cc with _ | cc
    · have e2 : E9 = xNSE := Sum.inr.inj w2
      subst e2
      refine ex_catch [⟨0, 10, 13, 13⟩] ⟨0, 10, 17, 42⟩ [] rfl (by decide) (List.forall_mem_cons.mpr ⟨⟨by decide, xIAE, by decide, by decide, wLx13⟩, fun y hy => absurd hy List.not_mem_nil⟩) (by decide) (by decide) wLx42 (by decide) (fun q9 => ?_)
      refine e_astore dL_box_17 rfl ?_
      refine e_iconst dL_box_19 ?_
      refine e_iret rfl dL_box_20 (by decide) (by decide) ?_
      exact ⟨rfl, rfl, h9, ⟨_, _, _, _, _, _, _, _, _, X9⟩, rfl⟩
    exact absurd hk (by show ¬ (_ ≤ _); omega)
  · obtain ⟨rfl, w2, l1, l2, l3, l4, l5, l6, l7, l8, l9, X9⟩ := w
    rcases cc with _ | cc
    · have e2 : v9 = some (.int (iN vv)) := Sum.inl.inj w2
      subst e2
      refine (show Ev _ _ _ _ _ _ _ (.int (iN vv) :: .int (iN 0) :: .ref ao :: []) from ?_)
      refine e_i2l hv dL_box_8 ?_
      refine e_lastore ((X9.fr ao na).trans fa) (by omega) (by omega) rfl dL_box_9 ?_
      refine e_goto (tgt := 21) dL_box_10 rfl ?_
      refine e_iconst dL_box_21 ?_
      refine e_iret rfl dL_box_22 (by decide) (by decide) ?_
      exact ⟨rfl, rfl, h9, ⟨_, _, _, _, _, _, _, _, _, X9⟩, rfl⟩
    · exact nomatch w2
set_option maxRecDepth 20000 in
theorem H_fence {ag : Nat → Int} (X : hsX G P E S b P2 E2 S2 F L1 L2 H1 H2 QL QT qa CA CB o h0 h) (fa : h0 ao = some (aL G 1 ag)) (na : ao < o ∨ o + 96 ≤ ao) {a : Int} (ra : r32 a) {p : Int} (rp : r32 p) : Run G mL_fence [.ref o, .int (iN a), .int (iN p), .ref ao] none h 1 6 (zW G (wK ((k_fence P a p))) P E S b P2 E2 S2 F o h0 ao ag) := by
  have HC := C_fence X ra rp
  rw [rsI_w] at HC
  have hk : (wK ((k_fence P a p))).1 ≤ 2 := by first | exact kc_fence | exact kc_fence _ | exact kc_fence _ _ | exact kc_fence _ _ _ | exact kc_fence _ _ _ _ | exact kc_fence _ _ _ _ _
  have hv : r32 (wK ((k_fence P a p))).2 := r32_of _
  generalize wK ((k_fence P a p)) = KK at HC hk hv ⊢
  obtain ⟨cc, vv⟩ := KK
  refine run_ofH rfl plL rfl ?_
  refine e_aload_n dL_fence_0 rfl ?_
  refine e_iconst dL_fence_1 ?_
  refine e_aload_n dL_fence_2 rfl ?_
  refine e_iload_n dL_fence_3 rfl ?_
  refine e_iload_n dL_fence_4 rfl ?_
  refine e_callV qcL_125 X.obj rfl rfl HC rfl rfl rfl rfl dL_fence_5 (fun E9 z9 h9 w => ?_) (fun v9 z9 h9 w => ?_)
  · obtain ⟨rfl, w2, l1, l2, l3, l4, l5, l6, l7, l8, l9, X9⟩ := w
    rcases cc with _ | cc
    · exact nomatch w2
    rcases cc with _ | cc
    · have e2 : E9 = xIAE := Sum.inr.inj w2
      subst e2
      refine ex_catch [] ⟨0, 10, 13, 13⟩ [⟨0, 10, 17, 42⟩] rfl (by decide) (fun y hy => absurd hy List.not_mem_nil) (by decide) (by decide) wLx13 (by decide) (fun q9 => ?_)
      refine e_astore dL_fence_13 rfl ?_
      refine e_iconst dL_fence_15 ?_
      refine e_iret rfl dL_fence_16 (by decide) (by decide) ?_
      exact ⟨rfl, rfl, h9, ⟨_, _, _, _, _, _, _, _, _, X9⟩, rfl⟩
    rcases cc with _ | cc
    · have e2 : E9 = xNSE := Sum.inr.inj w2
      subst e2
      refine ex_catch [⟨0, 10, 13, 13⟩] ⟨0, 10, 17, 42⟩ [] rfl (by decide) (List.forall_mem_cons.mpr ⟨⟨by decide, xIAE, by decide, by decide, wLx13⟩, fun y hy => absurd hy List.not_mem_nil⟩) (by decide) (by decide) wLx42 (by decide) (fun q9 => ?_)
      refine e_astore dL_fence_17 rfl ?_
      refine e_iconst dL_fence_19 ?_
      refine e_iret rfl dL_fence_20 (by decide) (by decide) ?_
      exact ⟨rfl, rfl, h9, ⟨_, _, _, _, _, _, _, _, _, X9⟩, rfl⟩
    exact absurd hk (by show ¬ (_ ≤ _); omega)
  · obtain ⟨rfl, w2, l1, l2, l3, l4, l5, l6, l7, l8, l9, X9⟩ := w
    rcases cc with _ | cc
    · have e2 : v9 = some (.int (iN vv)) := Sum.inl.inj w2
      subst e2
      refine (show Ev _ _ _ _ _ _ _ (.int (iN vv) :: .int (iN 0) :: .ref ao :: []) from ?_)
      refine e_i2l hv dL_fence_8 ?_
      refine e_lastore ((X9.fr ao na).trans fa) (by omega) (by omega) rfl dL_fence_9 ?_
      refine e_goto (tgt := 21) dL_fence_10 rfl ?_
      refine e_iconst dL_fence_21 ?_
      refine e_iret rfl dL_fence_22 (by decide) (by decide) ?_
      exact ⟨rfl, rfl, h9, ⟨_, _, _, _, _, _, _, _, _, X9⟩, rfl⟩
    · exact nomatch w2
set_option maxRecDepth 20000 in
theorem H_apart {ag : Nat → Int} (X : hsX G P E S b P2 E2 S2 F L1 L2 H1 H2 QL QT qa CA CB o h0 h) (fa : h0 ao = some (aL G 1 ag)) (na : ao < o ∨ o + 96 ≤ ao) {a : Int} (ra : r32 a) {b1 : Int} (rb1 : r32 b1) : Run G mL_apart [.ref o, .int (iN a), .int (iN b1), .ref ao] none h 1 6 (zW G (bK (wK ((k_apart P a b1)))) P E S b P2 E2 S2 F o h0 ao ag) := by
  have HC := C_apart X ra rb1
  rw [rsI_w] at HC
  have hk : (wK ((k_apart P a b1))).1 ≤ 2 := by first | exact kc_apart | exact kc_apart _ | exact kc_apart _ _ | exact kc_apart _ _ _ | exact kc_apart _ _ _ _ | exact kc_apart _ _ _ _ _
  have hv : r32 (wK ((k_apart P a b1))).2 := r32_of _
  generalize wK ((k_apart P a b1)) = KK at HC hk hv ⊢
  obtain ⟨cc, vv⟩ := KK
  refine run_ofH rfl plL rfl ?_
  refine e_aload_n dL_apart_0 rfl ?_
  refine e_iconst dL_apart_1 ?_
  refine e_aload_n dL_apart_2 rfl ?_
  refine e_iload_n dL_apart_3 rfl ?_
  refine e_iload_n dL_apart_4 rfl ?_
  refine e_callV qcL_128 X.obj rfl rfl HC rfl rfl rfl rfl dL_apart_5 (fun E9 z9 h9 w => ?_) (fun v9 z9 h9 w => ?_)
  · obtain ⟨rfl, w2, l1, l2, l3, l4, l5, l6, l7, l8, l9, X9⟩ := w
    rcases cc with _ | cc
    · exact nomatch w2
    rcases cc with _ | cc
    · have e2 : E9 = xIAE := Sum.inr.inj w2
      subst e2
      refine ex_catch [] ⟨0, 17, 20, 13⟩ [⟨0, 17, 24, 42⟩] rfl (by decide) (fun y hy => absurd hy List.not_mem_nil) (by decide) (by decide) wLx13 (by decide) (fun q9 => ?_)
      refine e_astore dL_apart_20 rfl ?_
      refine e_iconst dL_apart_22 ?_
      refine e_iret rfl dL_apart_23 (by decide) (by decide) ?_
      exact ⟨rfl, rfl, h9, ⟨_, _, _, _, _, _, _, _, _, X9⟩, rfl⟩
    rcases cc with _ | cc
    · have e2 : E9 = xNSE := Sum.inr.inj w2
      subst e2
      refine ex_catch [⟨0, 17, 20, 13⟩] ⟨0, 17, 24, 42⟩ [] rfl (by decide) (List.forall_mem_cons.mpr ⟨⟨by decide, xIAE, by decide, by decide, wLx13⟩, fun y hy => absurd hy List.not_mem_nil⟩) (by decide) (by decide) wLx42 (by decide) (fun q9 => ?_)
      refine e_astore dL_apart_24 rfl ?_
      refine e_iconst dL_apart_26 ?_
      refine e_iret rfl dL_apart_27 (by decide) (by decide) ?_
      exact ⟨rfl, rfl, h9, ⟨_, _, _, _, _, _, _, _, _, X9⟩, rfl⟩
    exact absurd hk (by show ¬ (_ ≤ _); omega)
  · obtain ⟨rfl, w2, l1, l2, l3, l4, l5, l6, l7, l8, l9, X9⟩ := w
    rcases cc with _ | cc
    · have e2 : v9 = some (.int (iN vv)) := Sum.inl.inj w2
      subst e2
      refine (show Ev _ _ _ _ _ _ _ (.int (iN vv) :: .int (iN 0) :: .ref ao :: []) from ?_)
      refine e_if_eq (tgt := 15) hv dL_apart_8 rfl (fun c_8 => ?_) (fun c_8 => ?_)
      · refine (show Ev _ _ _ _ _ _ _ _ from ?_)
        have eb : bK (0, vv) = (0, 0) := by show (0, if vv = 0 then (0 : Int) else 1) = _; rw [if_pos c_8]
        rw [eb]
        refine e_lconst dL_apart_15 ?_
        refine e_lastore ((X9.fr ao na).trans fa) (by omega) (by omega) rfl dL_apart_16 ?_
        refine e_goto (tgt := 28) dL_apart_17 rfl ?_
        refine e_iconst dL_apart_28 ?_
        refine e_iret rfl dL_apart_29 (by decide) (by decide) ?_
        exact ⟨rfl, rfl, h9, ⟨_, _, _, _, _, _, _, _, _, X9⟩, rfl⟩
      · have eb : bK (0, vv) = (0, 1) := by show (0, if vv = 0 then (0 : Int) else 1) = _; rw [if_neg c_8]
        rw [eb]
        refine e_lconst dL_apart_11 ?_
        refine e_goto (tgt := 16) dL_apart_12 rfl ?_
        refine e_lastore ((X9.fr ao na).trans fa) (by omega) (by omega) rfl dL_apart_16 ?_
        refine e_goto (tgt := 28) dL_apart_17 rfl ?_
        refine e_iconst dL_apart_28 ?_
        refine e_iret rfl dL_apart_29 (by decide) (by decide) ?_
        exact ⟨rfl, rfl, h9, ⟨_, _, _, _, _, _, _, _, _, X9⟩, rfl⟩
    · exact nomatch w2
set_option maxRecDepth 20000 in
theorem H_restore {ag : Nat → Int} (X : hsX G P E S b P2 E2 S2 F L1 L2 H1 H2 QL QT qa CA CB o h0 h) (fa : h0 ao = some (aL G 1 ag)) (na : ao < o ∨ o + 96 ≤ ao) (hb : r32 b) : Run G mL_restore [.ref o, .ref ao] none h 1 6 (zW G (wK ((k_restore b P2))) (if b = 0 then P else P2) (if b = 0 then E else E2) (if b = 0 then S else S2) b P2 E2 S2 F o h0 ao ag) := by
  have HC := C_restore X hb
  rw [rsI_w] at HC
  have hk : (wK ((k_restore b P2))).1 ≤ 1 := by first | exact kc_restore | exact kc_restore _ | exact kc_restore _ _ | exact kc_restore _ _ _ | exact kc_restore _ _ _ _ | exact kc_restore _ _ _ _ _
  have hv : r32 (wK ((k_restore b P2))).2 := r32_of _
  generalize wK ((k_restore b P2)) = KK at HC hk hv ⊢
  obtain ⟨cc, vv⟩ := KK
  refine run_ofH rfl plL rfl ?_
  refine e_aload_n dL_restore_0 rfl ?_
  refine e_iconst dL_restore_1 ?_
  refine e_aload_n dL_restore_2 rfl ?_
  refine e_callV qcL_131 X.obj rfl rfl HC rfl rfl rfl rfl dL_restore_3 (fun E9 z9 h9 w => ?_) (fun v9 z9 h9 w => ?_)
  · obtain ⟨rfl, w2, l1, l2, l3, l4, l5, l6, l7, l8, l9, X9⟩ := w
    rcases cc with _ | cc
    · exact nomatch w2
    rcases cc with _ | cc
    · have e2 : E9 = xNSE := Sum.inr.inj w2
      subst e2
      refine ex_catch [] ⟨0, 8, 11, 42⟩ [] rfl (by decide) (fun y hy => absurd hy List.not_mem_nil) (by decide) (by decide) wLx42 (by decide) (fun q9 => ?_)
      refine e_astore_n dL_restore_11 rfl ?_
      refine e_iconst dL_restore_12 ?_
      refine e_iret rfl dL_restore_13 (by decide) (by decide) ?_
      exact ⟨rfl, rfl, h9, ⟨_, _, _, _, _, _, _, _, _, X9⟩, rfl⟩
    exact absurd hk (by show ¬ (_ ≤ _); omega)
  · obtain ⟨rfl, w2, l1, l2, l3, l4, l5, l6, l7, l8, l9, X9⟩ := w
    rcases cc with _ | cc
    · have e2 : v9 = some (.int (iN vv)) := Sum.inl.inj w2
      subst e2
      refine (show Ev _ _ _ _ _ _ _ (.int (iN vv) :: .int (iN 0) :: .ref ao :: []) from ?_)
      refine e_i2l hv dL_restore_6 ?_
      refine e_lastore ((X9.fr ao na).trans fa) (by omega) (by omega) rfl dL_restore_7 ?_
      refine e_goto (tgt := 14) dL_restore_8 rfl ?_
      refine e_iconst dL_restore_14 ?_
      refine e_iret rfl dL_restore_15 (by decide) (by decide) ?_
      exact ⟨rfl, rfl, h9, ⟨_, _, _, _, _, _, _, _, _, X9⟩, rfl⟩
    · exact nomatch w2
set_option maxRecDepth 20000 in
theorem H_meanFar {ag : Nat → UInt64} (X : hsX G P E S b P2 E2 S2 F L1 L2 H1 H2 QL QT qa CA CB o h0 h) (fa : h0 ao = some (aD G 1 ag)) (na : ao < o ∨ o + 96 ≤ ao) {a : Int} (ra : r32 a) (hn : 0 < (putN P a [] P.length).length → vf_n64 (mfD (putN P a [] P.length))) : Run G mL_meanFar [.ref o, .int (iN a), .ref ao] none h 1 6 (zWD G (((k_meanFar P a))) P E S b P2 E2 S2 F o h0 ao ag) := by
  have HC := C_meanFar X ra hn
  have hk : ((k_meanFar P a)).1 ≤ 1 := by first | exact kc_meanFar | exact kc_meanFar _ | exact kc_meanFar _ _ | exact kc_meanFar _ _ _
  generalize (k_meanFar P a) = KK at HC hk ⊢
  obtain ⟨cc, vv⟩ := KK
  refine run_ofH rfl plL rfl ?_
  refine e_aload_n dL_meanFar_0 rfl ?_
  refine e_iconst dL_meanFar_1 ?_
  refine e_aload_n dL_meanFar_2 rfl ?_
  refine e_iload_n dL_meanFar_3 rfl ?_
  refine e_callV qcL_135 X.obj rfl rfl HC rfl rfl rfl rfl dL_meanFar_4 (fun E9 z9 h9 w => ?_) (fun v9 z9 h9 w => ?_)
  · obtain ⟨rfl, w2, l1, l2, l3, l4, l5, l6, l7, l8, l9, X9⟩ := w
    rcases cc with _ | cc
    · exact nomatch w2
    rcases cc with _ | cc
    · have e2 : E9 = xIAE := Sum.inr.inj w2
      subst e2
      refine ex_catch [] ⟨0, 8, 11, 13⟩ [] rfl (by decide) (fun y hy => absurd hy List.not_mem_nil) (by decide) (by decide) wLx13 (by decide) (fun q9 => ?_)
      refine e_astore_n dL_meanFar_11 rfl ?_
      refine e_iconst dL_meanFar_12 ?_
      refine e_iret rfl dL_meanFar_13 (by decide) (by decide) ?_
      exact ⟨rfl, rfl, h9, ⟨_, _, _, _, _, _, _, _, _, X9⟩, rfl⟩
    exact absurd hk (by show ¬ (_ ≤ _); omega)
  · obtain ⟨rfl, w2, l1, l2, l3, l4, l5, l6, l7, l8, l9, X9⟩ := w
    rcases cc with _ | cc
    · have e2 : v9 = some (.double vv) := Sum.inl.inj w2
      subst e2
      refine (show Ev _ _ _ _ _ _ _ (.double vv :: .int (iN 0) :: .ref ao :: []) from ?_)
      refine e_dastore ((X9.fr ao na).trans fa) (by omega) (by omega) rfl dL_meanFar_7 ?_
      refine e_goto (tgt := 14) dL_meanFar_8 rfl ?_
      refine e_iconst dL_meanFar_14 ?_
      refine e_iret rfl dL_meanFar_15 (by decide) (by decide) ?_
      exact ⟨rfl, rfl, h9, ⟨_, _, _, _, _, _, _, _, _, X9⟩, rfl⟩
    · exact nomatch w2
end LHELP
