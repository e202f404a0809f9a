/-! What is made: rows, yards, the object itself -/
set_option maxRecDepth 20000 in
theorem vl_X7_9 : (.classLink "HullyardSurveys" 9 "HullyardSurveys$Yard" : Cond) ∈ GW := gw1 32 rfl rfl
set_option maxRecDepth 20000 in
theorem vl_X7_23 : (.classLink "HullyardSurveys" 23 "HullyardSurveys$Row" : Cond) ∈ GW := gw1 77 rfl rfl
set_option maxRecDepth 20000 in
theorem vl_X7_44 : (.classLink "HullyardSurveys" 44 "HullyardSurveys$Parting" : Cond) ∈ GW := gw1 79 rfl rfl
set_option maxRecDepth 20000 in
theorem vl_X7_51 : (.classLink "HullyardSurveys" 51 "HullyardSurveys$Census" : Cond) ∈ GW := gw1 100 rfl rfl
set_option maxRecDepth 20000 in
theorem vl_X6_9 : (.classLink "HullyardSurveys$Yard" 9 "HullyardSurveys$Row" : Cond) ∈ GW := gw1 38 rfl rfl
set_option maxRecDepth 20000 in
theorem vl_X2_9 : (.classLink "HullyardSurveys$Parting" 9 "HullyardSurveys$Row" : Cond) ∈ GW := gw1 85 rfl rfl
set_option maxRecDepth 20000 in
theorem vl_X0_9 : (.classLink "HullyardSurveys$Census" 9 "HullyardSurveys$Row" : Cond) ∈ GW := gw1 106 rfl rfl
set_option maxRecDepth 20000 in
theorem vn_Row : (.instantiable "HullyardSurveys$Row" 4 : Cond) ∈ GW := gw1 39 rfl rfl
set_option maxRecDepth 20000 in
theorem vi_Row : (.initialized "HullyardSurveys$Row" : Cond) ∈ GW := gw1 3 rfl rfl
set_option maxRecDepth 20000 in
theorem vn_Yard : (.instantiable "HullyardSurveys$Yard" 4 : Cond) ∈ GW := gw1 33 rfl rfl
set_option maxRecDepth 20000 in
theorem vi_Yard : (.initialized "HullyardSurveys$Yard" : Cond) ∈ GW := gw1 2 rfl rfl
set_option maxRecDepth 20000 in
theorem vn_Parting : (.instantiable "HullyardSurveys$Parting" 4 : Cond) ∈ GW := gw1 80 rfl rfl
set_option maxRecDepth 20000 in
theorem vi_Parting : (.initialized "HullyardSurveys$Parting" : Cond) ∈ GW := gw1 5 rfl rfl
set_option maxRecDepth 20000 in
theorem vn_Census : (.instantiable "HullyardSurveys$Census" 2 : Cond) ∈ GW := gw1 101 rfl rfl
set_option maxRecDepth 20000 in
theorem vi_Census : (.initialized "HullyardSurveys$Census" : Cond) ∈ GW := gw1 6 rfl rfl
set_option maxRecDepth 20000 in
theorem va_int : (.arrayClass FieldType.int : Cond) ∈ GW := gw1 60 rfl rfl
set_option maxRecDepth 20000 in
theorem vc_X2 : (.code yX2_init cX2_init 1 none : Cond) ∈ GW := gw1 83 rfl rfl
set_option maxRecDepth 20000 in
theorem vm_X2 : (.instanceMethod yX2_init : Cond) ∈ GW := gw1 82 rfl rfl
set_option maxRecDepth 20000 in
theorem vc_X0 : (.code yX0_init cX0_init 1 none : Cond) ∈ GW := gw1 104 rfl rfl
set_option maxRecDepth 20000 in
theorem vm_X0 : (.instanceMethod yX0_init : Cond) ∈ GW := gw1 103 rfl rfl
section GINIT
variable {C : g_E} {k n : Nat} {z : Option Nat} {h : g_hp} {pc : Nat} {L : List (Nat × Value)} {st : List Value}
theorem e_anewarr {idx q N : Nat} {x : Int} (hl9 : Cond.classLink C.2.1.1.cls idx "HullyardSurveys$Row" ∈ GW) (hx : x = N) (hN : Nat.ble N 100000 = true) (hk : Nat.ble (k + 1) C.2.2.1.cells = true) (hn : Nat.ble (n + N) C.2.2.1.slots = true) (hd : decode (g_cc C) pc = .ok (.anewarray idx, 3))
    (kk : Ev C (k + 1) (n + N) (some (q + 1)) (g_up h q (aQ C.1 N (fun _ => none))) (pc + 3) L (.ref q :: st)) : Ev C k n (some q) h pc L (.int (iN x) :: st) := by
  intro p e s m args below meth c H locs ls hC hS hH hb hl
  have hts := hC.2.2.2.2.2.2.1
  have hN9 := Nat.le_of_ble_eq_true hN
  have hq : H.size = q := hH.2.1 q rfl
  have hr : r32 x := ⟨by omega, by omega⟩
  have hcl : (iN x).toNatClampNeg = N := by rw [iN_clamp (by omega) (by omega)]; omega
  have hover : va_AO "HullyardSurveys$Row" s := hC.2.2.2.2.2.2.2.1.2.2.2.2.2.2.1
  refine W.anew hC.1 hC.2.1 hC.2.2.2.2.2.1 (hts _ hl9) (va_AO.use hover) rfl hd rfl (fun w => by have := (iN_lt hr r32_0).mp w; omega) (by rw [hcl]; omega) (Nat.le_of_ble_eq_true hk) (by rw [hcl]; exact Nat.le_of_ble_eq_true hn) fun cA kA comp f1 f2 f3 f4 => ?_
  obtain ⟨kA', comp', g1, g2, g3, g4⟩ := (hC.2.2.2.2.2.2.2.1.1.2 4 _ rfl).2
  have hcA : cA = C.1.2.2.1 4 := Option.some.inj (f1.symm.trans g4)
  subst hcA
  rw [hcl]
  generalize hH1 : H.push ({ cls := C.1.2.2.1 4, slots := Array.replicate N .null, vm := .none } : Cell) = H1
  have z1 : H1.size = H.size + 1 := by rw [← hH1, Array.size_push]
  have e1 : H1[H.size]? = some (arrV (C.1.2.2.1 4) N (fun _ => .null)) := by rw [← hH1, Array.getElem?_push_size, ← arrV_new]
  have o1 : ∀ q : Nat, q < H.size → H1[q]? = H[q]? := fun q hq => by rw [← hH1, Array.getElem?_push, if_neg (Nat.ne_of_lt hq)]
  rw [hq]
  refine kk p e s m args below meth c H1 locs ls hC ⟨Nat.le_trans hS.1 (by omega), fun x h1 h2 => (o1 x (by have := hS.1; omega)).trans (hS.2.1 x h1 h2), hS.2.2⟩ (hH.new ?_ (by omega) (fun r hr => o1 r (by omega))) hb hl
  rw [hq] at e1
  rw [hq]
  show H1[q]? = some (vp_cell _ _)
  rw [vp_cell_q]
  exact e1
theorem e_aastore {a N v ci : Nat} {g : Nat → Option Nat} {i : Int} {fs : List Value} {r : vw_C} (ha : h a = some (aQ C.1 N g)) (hv : h v = some (.inr (ci, fs))) (hc : vwCl[ci]? = some r) (hr : r.1 = "HullyardSurveys$Row") (h0 : 0 ≤ i) (hN : i < N) (hb9 : Nat.ble N 2147483647 = true) (hd : decode (g_cc C) pc = .ok (.aastore, 1))
    (kk : Ev C k n z (g_up h a (aQ C.1 N (va_up g i.toNat (some v)))) (pc + 1) L st) : Ev C k n z h pc L (.ref v :: .int (iN i) :: .ref a :: st) := by
  intro p e s m args below meth c H locs ls hC hS hH hb hl
  have hN9 := Nat.le_of_ble_eq_true hb9
  obtain ⟨hba, hat⟩ := hH.2.2 a _ ha
  obtain ⟨-, r', hr', cellV, g1, g2, g3, -⟩ := hH.2.2 v _ hv
  have hK := hC.2.2.2.2.2.2.2.1.1
  have hcls := (hK.1 ci r hc).2
  rw [hr] at hcls
  obtain ⟨kA, comp, k1, k2, k3, -⟩ := (hK.2 4 _ rfl).2
  have hcomp : comp = C.1.2.1.1 ci := Option.some.inj (k3.symm.trans hcls.1)
  subst hcomp
  obtain ⟨kC, hkC, -⟩ := hcls.2
  have hin := iN_in h0 hN hN9
  have hlt : (iN i).toNatClampNeg < N := Nat.not_le.mp fun q => hin (Or.inr q)
  have hlo : ¬ (iN i) < 0 := fun q => hin (Or.inl q)
  refine W.aast hC.1 hC.2.1 hat (fun q h => by cases h) (fun h => by cases h) k1 k2 rfl hkC ⟨hlo, by show _ < (arrV _ _ _).slots.size; rw [arrV_size]; exact hlt⟩ g1 (fun q h => by rw [g3] at h; cases h) (by rw [g2]; exact hkC) (by rw [g2]; exact va_assign hcls) rfl rfl hd fun H1 e1 z1 o1 => ?_
  refine kk p e s m args below meth c H1 _ ls hC (hS.put z1 o1 hba) (hH.set ha ?_ z1 o1) hb hl
  show H1[a]? = some (vp_cell _ _)
  rw [e1, iN_clamp h0 (by omega)]
  exact congrArg some (g_cell_q _ N g _ v)
/-- what a constructor makes: its cells are the next ones -/
def Mk (G : g_X) (M : g_M) (av : List Value) (q : Nat) (h : g_hp) (mc ms : Nat) (Q : g_hp → Prop) : Prop := Run G M av (some q) h mc ms (fun oc z1 h1 => oc = .inl none ∧ z1 = some (q + mc) ∧ Q h1)
theorem e_mkI {M : g_M} {idx b q : Nat} {a : Nat} {As rest : List Value} {mc' ms' : Nat} {Q : g_hp → Prop} (hc : g_cI C.2.1.1.cls idx M a) (hr : Mk C.1 M (.ref b :: As) q h mc' ms' Q) (hst : st = As.reverse ++ .ref b :: rest) (hlen : As.length = a) (hW : Nat.ble (rest.map fun v => v.category).sum 8 = true) (hrm : g_rm C M k n mc' ms' = true) (hd : decode (g_cc C) pc = .ok (.invokespecial idx, 3))
    (kk : ∀ h1, Q h1 → Ev C (k + mc') (n + ms') (some (q + mc')) h1 (pc + 3) L rest) : Ev C k n (some q) h pc L st :=
  e_callI hc hr hst hlen hW hrm hd (fun E z1 h1 q => nomatch q.1) (fun v z1 h1 q => by obtain ⟨q1, q2, q3⟩ := q; cases q1; subst q2; exact kk _ q3)
/-- a nest mate's constructor -/
def g_cN (own : String) (idx : Nat) (M : g_M) (a : Nat) : Prop := M.2.2.2.2.2 = none ∧ (Cond.methodLinkNest own idx M.1 "HullyardSurveys" ∈ g_NW ∧ Cond.initialized M.1.cls ∈ GW ∧ g_wc M ∈ GW ∧ (M.1.cls ≠ "java/lang/invoke/MethodHandle" ∧ M.1.cls ≠ "java/lang/invoke/VarHandle" ∧ (parseMethodDescriptor M.1.desc).map (fun d => d.parameters.length) = some a)) ∧ M.2.2.2.1 = none ∧ M.1.name = "<init>" ∧ Cond.instanceMethod M.1 ∈ GW
theorem e_callIN {M : g_M} {idx b : Nat} {a : Nat} {As rest : List Value} {mc' ms' : Nat} {Z' : g_Z} (hc : g_cN C.2.1.1.cls idx M a) (hr : Run C.1 M (.ref b :: As) z h mc' ms' Z') (hst : st = As.reverse ++ .ref b :: rest) (hlen : As.length = a) (hW : Nat.ble (rest.map fun v => v.category).sum 8 = true) (hrm : g_rm C M k n mc' ms' = true) (hd : decode (g_cc C) pc = .ok (.invokespecial idx, 3))
    (kx : ∀ E z1 h1, Z' (.inr E) z1 h1 → EvX C (k + mc') (n + ms') z1 h1 pc L E) (kk : ∀ v z1 h1, Z' (.inl v) z1 h1 → Ev C (k + mc') (n + ms') z1 h1 (pc + 3) L (v.toList ++ rest)) : Ev C k n z h pc L st := by
  intro p e s m args below meth c H locs ls hC hS hH hb hl
  subst hlen
  obtain ⟨r1, r2, r3, r4⟩ := g_rm_spec hrm
  have hts := hC.2.2.2.2.2.2.1
  obtain ⟨hn, ⟨b1, b2, b3, b4⟩, h3, h4, h5⟩ := hc
  have a4 := hC.2.2.2.2.2.2.2.1.2.2.2.1
  have hcb : va_CN C.2.2.1 s args C.2.1.1.cls idx M.1 "HullyardSurveys" M.2.1 M.2.2.1 M.2.2.2.1 (g_ws M) (g_R M mc' ms') mc' ms' As.length := va_cnB As.length hts (g_good b3) (show g_ws M = Cond.code M.1 M.2.1 M.2.2.1 M.2.2.2.1 :: GW by unfold g_ws g_wc; rw [hn]) rfl rfl (a4 _ b1) (hts _ b2) b4 ⟨r1, by show 8 + (M.2.2.1 + 11) + M.2.2.2.2.1.2 ≤ _; omega⟩
  rw [h3] at hcb
  exact e_ofRun (vx_runIN (g := F0 m pc ls st) (b := b) (As := As) (rest := rest) ⟨hC.1, hC.2.1, hC.2.2.1, hC.2.2.2.2.2.1, hts⟩ hr ⟨hcb, h4, hts _ h5⟩ (g_pre hC hS hH (.ref b :: As)) rfl rfl hl.1 hst (lv_room (Nat.le_of_ble_eq_true hW)) hd ⟨r3, r4⟩) hC hS hb hl kx kk
theorem e_mkN {M : g_M} {idx b q : Nat} {a : Nat} {As rest : List Value} {mc' ms' : Nat} {Q : g_hp → Prop} (hc : g_cN C.2.1.1.cls idx M a) (hr : Mk C.1 M (.ref b :: As) q h mc' ms' Q) (hst : st = As.reverse ++ .ref b :: rest) (hlen : As.length = a) (hW : Nat.ble (rest.map fun v => v.category).sum 8 = true) (hrm : g_rm C M k n mc' ms' = true) (hd : decode (g_cc C) pc = .ok (.invokespecial idx, 3))
    (kk : ∀ h1, Q h1 → Ev C (k + mc') (n + ms') (some (q + mc')) h1 (pc + 3) L rest) : Ev C k n (some q) h pc L st :=
  e_callIN hc hr hst hlen hW hrm hd (fun E z1 h1 q => nomatch q.1) (fun v z1 h1 q => by obtain ⟨q1, q2, q3⟩ := q; cases q1; subst q2; exact kk _ q3)
end GINIT
theorem qcN_46 : g_cN RX7 46 mX2_init 0 := ⟨rfl, ⟨by decide +kernel, vi_Parting, vc_X2, by decide +kernel⟩, rfl, rfl, vm_X2⟩
theorem qcN_53 : g_cN RX7 53 mX0_init 0 := ⟨rfl, ⟨by decide +kernel, vi_Census, vc_X0, by decide +kernel⟩, rfl, rfl, vm_X0⟩
abbrev blX4 : List Value := [.null, .null, .null, .int 0]
theorem dfX4 : ∀ j, j < 4 → defaultValue (tyX4 j) = vp_V blX4 j := fun j hj => by
  match j, hj with
  | 0, _ => rfl
  | 1, _ => rfl
  | 2, _ => rfl
  | 3, _ => rfl
  | j + 4, hj => exact absurd hj (by omega)
abbrev blX6 : List Value := [.null, .null, .null, .null]
theorem dfX6 : ∀ j, j < 4 → defaultValue (tyX6 j) = vp_V blX6 j := fun j hj => by
  match j, hj with
  | 0, _ => rfl
  | 1, _ => rfl
  | 2, _ => rfl
  | 3, _ => rfl
  | j + 4, hj => exact absurd hj (by omega)
abbrev blX2 : List Value := [.null, .null, .int 0, .long 0]
theorem dfX2 : ∀ j, j < 4 → defaultValue (tyX2 j) = vp_V blX2 j := fun j hj => by
  match j, hj with
  | 0, _ => rfl
  | 1, _ => rfl
  | 2, _ => rfl
  | 3, _ => rfl
  | j + 4, hj => exact absurd hj (by omega)
abbrev blX0 : List Value := [.null, .null]
theorem dfX0 : ∀ j, j < 2 → defaultValue (tyX0 j) = vp_V blX0 j := fun j hj => by
  match j, hj with
  | 0, _ => rfl
  | 1, _ => rfl
  | j + 2, hj => exact absurd hj (by omega)
abbrev blX7 : List Value := [.null, .null, .int 0, .null, .null, .null, .null, .null, .null, .null]
theorem dfX7 : ∀ j, j < 10 → defaultValue (tyX7 j) = vp_V blX7 j := fun j hj => by
  match j, hj with
  | 0, _ => rfl
  | 1, _ => rfl
  | 2, _ => rfl
  | 3, _ => rfl
  | 4, _ => rfl
  | 5, _ => rfl
  | 6, _ => rfl
  | 7, _ => rfl
  | 8, _ => rfl
  | 9, _ => rfl
  | j + 10, hj => exact absurd hj (by omega)
section PINIT
variable {G : g_X} {h : g_hp}
set_option maxRecDepth 20000 in
theorem S_rowInit {N r : Nat} (hN : N ≤ 1000) (h0 : h r = some (.inr (2, blX4))) : Mk G mX4_init [.ref r, .int (iN N)] (r + 1) h 3 (3 * N) (fun h1 => rowAt G N [] r h1 ∧ g_fr r 4 h h1) := by
  have hN1 : Nat.ble N 100000 = true := Nat.ble_eq_true_of_le (by omega)
  have hN2 : N * componentBytes .int ≤ 536870912 := by show N * 4 ≤ _; omega
  refine run_of rfl plX4 rfl ?_
  refine e_aload_n dX4_init_0 rfl ?_
  refine e_objInit ob_X4_1 ob_2 ob_3 rfl rfl dX4_init_1 ?_
  refine e_aload_n dX4_init_4 rfl ?_
  refine e_iconst dX4_init_5 ?_
  refine e_putf pfX4_7 h0 rfl rfl rfl dX4_init_6 ?_
  generalize hh1 : g_up h r _ = h1
  have x1 : h1 r = some (.inr (2, [.null, .null, .null, .int (iN 0)])) := by rw [← hh1]; exact g_up_s _ _ _
  have fr : g_fr r 4 h h1 := by rw [← hh1]; exact g_fr.rf.up (by omega) (by omega)
  clear hh1
  refine e_iload_n dX4_init_9 rfl ?_
  refine e_iconst dX4_init_10 ?_
  refine e_mmax ⟨by omega, by omega⟩ ⟨by decide, by decide⟩ qcX4_13 rfl dX4_init_11 ?_
  rw [show max (N : Int) 0 = (N : Int) by omega]
  refine e_istore_n dX4_init_14 rfl ?_
  refine e_aload_n dX4_init_15 rfl ?_
  refine e_iload_n dX4_init_16 rfl ?_
  refine e_newarr (t := 0) (N := N) (A0 := (N, .inl (fun _ => iN 0))) va_int rfl rfl (fun _ => vp_cell_i _ _ _) rfl (fun _ _ w => w) rfl hN1 hN2 (by rfl) (Nat.ble_eq_true_of_le (by show 0 + N ≤ 3 * N; omega)) dX4_init_17 ?_
  generalize hh2 : g_up h1 (r + 1) _ = h2
  have y2 : h2 (r + 1) = some (aI G N (fun _ => 0)) := by rw [← hh2]; exact g_up_s _ _ _
  have x2 := (show h2 r = h1 r from by rw [← hh2]; exact g_up_n _ _ (by omega)).trans x1
  replace fr : g_fr r 4 h h2 := by rw [← hh2]; exact fr.up (by omega) (by omega)
  clear hh2
  refine e_putF pfX4_19 rfl x2 rfl rfl rfl dX4_init_19 ?_
  generalize hh3 : g_up h2 r _ = h3
  have x3 : h3 r = some (.inr (2, [.ref (r + 1), .null, .null, .int (iN 0)])) := by rw [← hh3]; exact g_up_s _ _ _
  have y3 := (show h3 (r + 1) = h2 (r + 1) from by rw [← hh3]; exact g_up_n _ _ (by omega)).trans y2
  replace fr : g_fr r 4 h h3 := by rw [← hh3]; exact fr.up (by omega) (by omega)
  clear hh3
  refine e_aload_n dX4_init_22 rfl ?_
  refine e_iload_n dX4_init_23 rfl ?_
  refine e_newarr (t := 0) (N := N) (A0 := (N, .inl (fun _ => iN 0))) va_int rfl rfl (fun _ => vp_cell_i _ _ _) rfl (fun _ _ w => w) rfl hN1 hN2 (by rfl) (Nat.ble_eq_true_of_le (by show 0 + N + N ≤ 3 * N; omega)) dX4_init_24 ?_
  generalize hh4 : g_up h3 (r + 1 + 1) _ = h4
  have w4 : h4 (r + 1 + 1) = some (aI G N (fun _ => 0)) := by rw [← hh4]; exact g_up_s _ _ _
  have y4 := (show h4 (r + 1) = h3 (r + 1) from by rw [← hh4]; exact g_up_n _ _ (by omega)).trans y3
  have x4 := (show h4 r = h3 r from by rw [← hh4]; exact g_up_n _ _ (by omega)).trans x3
  replace fr : g_fr r 4 h h4 := by rw [← hh4]; exact fr.up (by omega) (by omega)
  clear hh4
  refine e_putF pfX4_23 rfl x4 rfl rfl rfl dX4_init_26 ?_
  generalize hh5 : g_up h4 r _ = h5
  have x5 : h5 r = some (.inr (2, [.ref (r + 1), .ref (r + 1 + 1), .null, .int (iN 0)])) := by rw [← hh5]; exact g_up_s _ _ _
  have y5 := (show h5 (r + 1) = h4 (r + 1) from by rw [← hh5]; exact g_up_n _ _ (by omega)).trans y4
  have w5 := (show h5 (r + 1 + 1) = h4 (r + 1 + 1) from by rw [← hh5]; exact g_up_n _ _ (by omega)).trans w4
  replace fr : g_fr r 4 h h5 := by rw [← hh5]; exact fr.up (by omega) (by omega)
  clear hh5
  refine e_aload_n dX4_init_29 rfl ?_
  refine e_iload_n dX4_init_30 rfl ?_
  refine e_newarr (t := 0) (N := N) (A0 := (N, .inl (fun _ => iN 0))) va_int rfl rfl (fun _ => vp_cell_i _ _ _) rfl (fun _ _ w => w) rfl hN1 hN2 (by rfl) (Nat.ble_eq_true_of_le (by show 0 + N + N + N ≤ 3 * N; omega)) dX4_init_31 ?_
  generalize hh6 : g_up h5 (r + 1 + 1 + 1) _ = h6
  have v6 : h6 (r + 1 + 1 + 1) = some (aI G N (fun _ => 0)) := by rw [← hh6]; exact g_up_s _ _ _
  have w6 := (show h6 (r + 1 + 1) = h5 (r + 1 + 1) from by rw [← hh6]; exact g_up_n _ _ (by omega)).trans w5
  have y6 := (show h6 (r + 1) = h5 (r + 1) from by rw [← hh6]; exact g_up_n _ _ (by omega)).trans y5
  have x6 := (show h6 r = h5 r from by rw [← hh6]; exact g_up_n _ _ (by omega)).trans x5
  replace fr : g_fr r 4 h h6 := by rw [← hh6]; exact fr.up (by omega) (by omega)
  clear hh6
  refine e_putF pfX4_26 rfl x6 rfl rfl rfl dX4_init_33 ?_
  refine e_vret rfl dX4_init_36 (by decide) (by show _ ≤ 3 * N; omega) ?_
  exact ⟨rfl, rfl, ⟨Nat.zero_le _, hN, fun _ h => absurd h List.not_mem_nil, fun _ => 0, fun _ => 0, fun _ => 0, ⟨g_up_s _ _ _, (g_up_n _ _ (by omega)).trans y6, (g_up_n _ _ (by omega)).trans w6, (g_up_n _ _ (by omega)).trans v6⟩, fun i hi => absurd hi (Nat.not_lt_zero _)⟩, fr.up (by omega) (by omega)⟩
end PINIT
