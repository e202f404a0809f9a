/-! The law: its object is made; its own body, over the mathematics as a hypothesis -/
set_option maxRecDepth 20000 in
theorem vlL_11 : (.classLink RL 11 RL : Cond) ∈ GW := gw1 18 rfl rfl
set_option maxRecDepth 20000 in
theorem vn_L : (.instantiable RL 12 : Cond) ∈ GW := gw1 19 rfl rfl
set_option maxRecDepth 20000 in
theorem vi_L : (.initialized RL : Cond) ∈ GW := gw1 0 rfl rfl
abbrev blL : List Value := [.int 0, .null, .null, .null, .null, .null, .null, .null, .null, .int 0, .int 0, .int 0]
theorem dfL : ∀ j, j < 12 → defaultValue (tyL j) = vp_V blL j := fun j hj => by
  match j, hj with
  | 0, _ => rfl
  | 1, _ => rfl
  | 2, _ => rfl
  | 3, _ => rfl
  | 4, _ => rfl
  | 5, _ => rfl
  | 6, _ => rfl
  | 7, _ => rfl
  | 8, _ => rfl
  | 9, _ => rfl
  | 10, _ => rfl
  | 11, _ => rfl
  | j + 12, hj => exact absurd hj (by omega)
section LAW17
variable {G : g_X} {x pt sd cr : Int} {HP XS YS GX GY FX FY : Nat → Int} {P E : PL} {S : Nat → PL} {b : Int} {P2 E2 : PL} {S2 : Nat → PL} {F : PL} {l : Nat} {h : g_hp}
set_option maxRecDepth 20000 in
theorem S_lwInit (h0 : h l = some (.inr (5, blL))) : Mk G mL_init [.ref l] (l + 1) h 103 2485 (fun h1 => lwW G 0 0 0 0 (pM []) (pX []) (pY []) (fun _ => 0) (fun _ => 0) (fun _ => 0) (fun _ => 0) [] [] (fun _ => []) 0 [] [] (fun _ => []) [] l h1) := by
  refine run_of rfl plL rfl ?_
  refine e_aload_n dL_init_0 rfl ?_
  refine e_objInit ob_L_1 ob_2 ob_3 rfl rfl dL_init_1 ?_
  refine e_aload_n dL_init_4 rfl ?_
  refine e_new kX7 vlL_7 vn_X7 vi_X7 dfX7 rfl rfl dL_init_5 ?_
  refine e_dup dL_init_8 rfl ?_
  refine e_mkI qcL_9 (S_hsInit (g_up_s _ _ _)) rfl rfl rfl rfl dL_init_9 (fun h1 X => ?_)
  refine (show Ev _ 96 2173 (some (l + 97)) h1 _ _ _ from ?_)
  have x : h1 l = some (.inr (5, blL)) := (X.fr l (Or.inl (by omega))).trans ((g_up_n _ _ (by omega)).trans h0)
  have Y : hsY G [] [] (fun _ => []) 0 [] [] (fun _ => []) [] (l + 1) h1 := ⟨_, _, _, _, _, _, _, _, _, X.mv (fun _ _ _ => rfl)⟩
  clear X h0
  refine e_putF pfL_10 rfl x rfl rfl rfl dL_init_12 ?_
  generalize hh : g_up h1 l _ = h2
  replace x : h2 l = some (.inr (5, [.int 0, .ref (l + 1), .null, .null, .null, .null, .null, .null, .null, .int 0, .int 0, .int 0])) := by
    rw [← hh]
    exact g_up_s _ _ _
  replace Y := Y.mv (h1 := h2) (fun a _ _ => by rw [← hh]; exact g_up_n _ _ (by omega))
  clear hh
  refine e_aload_n dL_init_15 rfl ?_
  refine e_bipush dL_init_16 (by decide) ?_
  refine e_newarr (t := 0) (N := 40) (A0 := (40, .inl (fun _ => iN 0))) va_int rfl rfl (fun _ => vp_cell_i _ _ _) rfl (fun _ _ w => w) rfl rfl (by decide) rfl rfl dL_init_18 ?_
  refine (show Ev _ 97 2213 (some (l + 98)) _ _ _ _ from ?_)
  generalize hh : g_up h2 (l + 97) _ = h3
  have y97 : h3 (l + 97) = some (aI G 40 (fun _ => 0)) := by
    rw [← hh]
    exact g_up_s _ _ _
  replace x := (show h3 l = h2 l from by rw [← hh]; exact g_up_n _ _ (by omega)).trans x
  replace Y := Y.mv (h1 := h3) (fun a _ _ => by rw [← hh]; exact g_up_n _ _ (by omega))
  clear hh
  refine e_putF pfL_16 rfl x rfl rfl rfl dL_init_20 ?_
  generalize hh : g_up h3 l _ = h4
  replace x : h4 l = some (.inr (5, [.int 0, .ref (l + 1), .ref (l + 97), .null, .null, .null, .null, .null, .null, .int 0, .int 0, .int 0])) := by
    rw [← hh]
    exact g_up_s _ _ _
  replace Y := Y.mv (h1 := h4) (fun a _ _ => by rw [← hh]; exact g_up_n _ _ (by omega))
  replace y97 := (show h4 (l + 97) = h3 (l + 97) from by rw [← hh]; exact g_up_n _ _ (by omega)).trans y97
  clear hh
  refine e_aload_n dL_init_23 rfl ?_
  refine e_bipush dL_init_24 (by decide) ?_
  refine e_newarr (t := 0) (N := 40) (A0 := (40, .inl (fun _ => iN 0))) va_int rfl rfl (fun _ => vp_cell_i _ _ _) rfl (fun _ _ w => w) rfl rfl (by decide) rfl rfl dL_init_26 ?_
  refine (show Ev _ 98 2253 (some (l + 99)) _ _ _ _ from ?_)
  generalize hh : g_up h4 (l + 98) _ = h5
  have y98 : h5 (l + 98) = some (aI G 40 (fun _ => 0)) := by
    rw [← hh]
    exact g_up_s _ _ _
  replace x := (show h5 l = h4 l from by rw [← hh]; exact g_up_n _ _ (by omega)).trans x
  replace Y := Y.mv (h1 := h5) (fun a _ _ => by rw [← hh]; exact g_up_n _ _ (by omega))
  replace y97 := (show h5 (l + 97) = h4 (l + 97) from by rw [← hh]; exact g_up_n _ _ (by omega)).trans y97
  clear hh
  refine e_putF pfL_20 rfl x rfl rfl rfl dL_init_28 ?_
  generalize hh : g_up h5 l _ = h6
  replace x : h6 l = some (.inr (5, [.int 0, .ref (l + 1), .ref (l + 97), .ref (l + 98), .null, .null, .null, .null, .null, .int 0, .int 0, .int 0])) := by
    rw [← hh]
    exact g_up_s _ _ _
  replace Y := Y.mv (h1 := h6) (fun a _ _ => by rw [← hh]; exact g_up_n _ _ (by omega))
  replace y97 := (show h6 (l + 97) = h5 (l + 97) from by rw [← hh]; exact g_up_n _ _ (by omega)).trans y97
  replace y98 := (show h6 (l + 98) = h5 (l + 98) from by rw [← hh]; exact g_up_n _ _ (by omega)).trans y98
  clear hh
  refine e_aload_n dL_init_31 rfl ?_
  refine e_bipush dL_init_32 (by decide) ?_
  refine e_newarr (t := 0) (N := 40) (A0 := (40, .inl (fun _ => iN 0))) va_int rfl rfl (fun _ => vp_cell_i _ _ _) rfl (fun _ _ w => w) rfl rfl (by decide) rfl rfl dL_init_34 ?_
  refine (show Ev _ 99 2293 (some (l + 100)) _ _ _ _ from ?_)
  generalize hh : g_up h6 (l + 99) _ = h7
  have y99 : h7 (l + 99) = some (aI G 40 (fun _ => 0)) := by
    rw [← hh]
    exact g_up_s _ _ _
  replace x := (show h7 l = h6 l from by rw [← hh]; exact g_up_n _ _ (by omega)).trans x
  replace Y := Y.mv (h1 := h7) (fun a _ _ => by rw [← hh]; exact g_up_n _ _ (by omega))
  replace y97 := (show h7 (l + 97) = h6 (l + 97) from by rw [← hh]; exact g_up_n _ _ (by omega)).trans y97
  replace y98 := (show h7 (l + 98) = h6 (l + 98) from by rw [← hh]; exact g_up_n _ _ (by omega)).trans y98
  clear hh
  refine e_putF pfL_23 rfl x rfl rfl rfl dL_init_36 ?_
  generalize hh : g_up h7 l _ = h8
  replace x : h8 l = some (.inr (5, [.int 0, .ref (l + 1), .ref (l + 97), .ref (l + 98), .ref (l + 99), .null, .null, .null, .null, .int 0, .int 0, .int 0])) := by
    rw [← hh]
    exact g_up_s _ _ _
  replace Y := Y.mv (h1 := h8) (fun a _ _ => by rw [← hh]; exact g_up_n _ _ (by omega))
  replace y97 := (show h8 (l + 97) = h7 (l + 97) from by rw [← hh]; exact g_up_n _ _ (by omega)).trans y97
  replace y98 := (show h8 (l + 98) = h7 (l + 98) from by rw [← hh]; exact g_up_n _ _ (by omega)).trans y98
  replace y99 := (show h8 (l + 99) = h7 (l + 99) from by rw [← hh]; exact g_up_n _ _ (by omega)).trans y99
  clear hh
  refine e_aload_n dL_init_39 rfl ?_
  refine e_bipush dL_init_40 (by decide) ?_
  refine e_newarr (t := 0) (N := 16) (A0 := (16, .inl (fun _ => iN 0))) va_int rfl rfl (fun _ => vp_cell_i _ _ _) rfl (fun _ _ w => w) rfl rfl (by decide) rfl rfl dL_init_42 ?_
  refine (show Ev _ 100 2309 (some (l + 101)) _ _ _ _ from ?_)
  generalize hh : g_up h8 (l + 100) _ = h9
  have y100 : h9 (l + 100) = some (aI G 16 (fun _ => 0)) := by
    rw [← hh]
    exact g_up_s _ _ _
  replace x := (show h9 l = h8 l from by rw [← hh]; exact g_up_n _ _ (by omega)).trans x
  replace Y := Y.mv (h1 := h9) (fun a _ _ => by rw [← hh]; exact g_up_n _ _ (by omega))
  replace y97 := (show h9 (l + 97) = h8 (l + 97) from by rw [← hh]; exact g_up_n _ _ (by omega)).trans y97
  replace y98 := (show h9 (l + 98) = h8 (l + 98) from by rw [← hh]; exact g_up_n _ _ (by omega)).trans y98
  replace y99 := (show h9 (l + 99) = h8 (l + 99) from by rw [← hh]; exact g_up_n _ _ (by omega)).trans y99
  clear hh
  refine e_putF pfL_26 rfl x rfl rfl rfl dL_init_44 ?_
  generalize hh : g_up h9 l _ = h10
  replace x : h10 l = some (.inr (5, [.int 0, .ref (l + 1), .ref (l + 97), .ref (l + 98), .ref (l + 99), .ref (l + 100), .null, .null, .null, .int 0, .int 0, .int 0])) := by
    rw [← hh]
    exact g_up_s _ _ _
  replace Y := Y.mv (h1 := h10) (fun a _ _ => by rw [← hh]; exact g_up_n _ _ (by omega))
  replace y97 := (show h10 (l + 97) = h9 (l + 97) from by rw [← hh]; exact g_up_n _ _ (by omega)).trans y97
  replace y98 := (show h10 (l + 98) = h9 (l + 98) from by rw [← hh]; exact g_up_n _ _ (by omega)).trans y98
  replace y99 := (show h10 (l + 99) = h9 (l + 99) from by rw [← hh]; exact g_up_n _ _ (by omega)).trans y99
  replace y100 := (show h10 (l + 100) = h9 (l + 100) from by rw [← hh]; exact g_up_n _ _ (by omega)).trans y100
  clear hh
  refine e_aload_n dL_init_47 rfl ?_
  refine e_bipush dL_init_48 (by decide) ?_
  refine e_newarr (t := 0) (N := 16) (A0 := (16, .inl (fun _ => iN 0))) va_int rfl rfl (fun _ => vp_cell_i _ _ _) rfl (fun _ _ w => w) rfl rfl (by decide) rfl rfl dL_init_50 ?_
  refine (show Ev _ 101 2325 (some (l + 102)) _ _ _ _ from ?_)
  generalize hh : g_up h10 (l + 101) _ = h11
  have y101 : h11 (l + 101) = some (aI G 16 (fun _ => 0)) := by
    rw [← hh]
    exact g_up_s _ _ _
  replace x := (show h11 l = h10 l from by rw [← hh]; exact g_up_n _ _ (by omega)).trans x
  replace Y := Y.mv (h1 := h11) (fun a _ _ => by rw [← hh]; exact g_up_n _ _ (by omega))
  replace y97 := (show h11 (l + 97) = h10 (l + 97) from by rw [← hh]; exact g_up_n _ _ (by omega)).trans y97
  replace y98 := (show h11 (l + 98) = h10 (l + 98) from by rw [← hh]; exact g_up_n _ _ (by omega)).trans y98
  replace y99 := (show h11 (l + 99) = h10 (l + 99) from by rw [← hh]; exact g_up_n _ _ (by omega)).trans y99
  replace y100 := (show h11 (l + 100) = h10 (l + 100) from by rw [← hh]; exact g_up_n _ _ (by omega)).trans y100
  clear hh
  refine e_putF pfL_29 rfl x rfl rfl rfl dL_init_52 ?_
  generalize hh : g_up h11 l _ = h12
  replace x : h12 l = some (.inr (5, [.int 0, .ref (l + 1), .ref (l + 97), .ref (l + 98), .ref (l + 99), .ref (l + 100), .ref (l + 101), .null, .null, .int 0, .int 0, .int 0])) := by
    rw [← hh]
    exact g_up_s _ _ _
  replace Y := Y.mv (h1 := h12) (fun a _ _ => by rw [← hh]; exact g_up_n _ _ (by omega))
  replace y97 := (show h12 (l + 97) = h11 (l + 97) from by rw [← hh]; exact g_up_n _ _ (by omega)).trans y97
  replace y98 := (show h12 (l + 98) = h11 (l + 98) from by rw [← hh]; exact g_up_n _ _ (by omega)).trans y98
  replace y99 := (show h12 (l + 99) = h11 (l + 99) from by rw [← hh]; exact g_up_n _ _ (by omega)).trans y99
  replace y100 := (show h12 (l + 100) = h11 (l + 100) from by rw [← hh]; exact g_up_n _ _ (by omega)).trans y100
  replace y101 := (show h12 (l + 101) = h11 (l + 101) from by rw [← hh]; exact g_up_n _ _ (by omega)).trans y101
  clear hh
  refine e_aload_n dL_init_55 rfl ?_
  refine e_bipush dL_init_56 (by decide) ?_
  refine e_newarr (t := 0) (N := 80) (A0 := (80, .inl (fun _ => iN 0))) va_int rfl rfl (fun _ => vp_cell_i _ _ _) rfl (fun _ _ w => w) rfl rfl (by decide) rfl rfl dL_init_58 ?_
  refine (show Ev _ 102 2405 (some (l + 103)) _ _ _ _ from ?_)
  generalize hh : g_up h12 (l + 102) _ = h13
  have y102 : h13 (l + 102) = some (aI G 80 (fun _ => 0)) := by
    rw [← hh]
    exact g_up_s _ _ _
  replace x := (show h13 l = h12 l from by rw [← hh]; exact g_up_n _ _ (by omega)).trans x
  replace Y := Y.mv (h1 := h13) (fun a _ _ => by rw [← hh]; exact g_up_n _ _ (by omega))
  replace y97 := (show h13 (l + 97) = h12 (l + 97) from by rw [← hh]; exact g_up_n _ _ (by omega)).trans y97
  replace y98 := (show h13 (l + 98) = h12 (l + 98) from by rw [← hh]; exact g_up_n _ _ (by omega)).trans y98
  replace y99 := (show h13 (l + 99) = h12 (l + 99) from by rw [← hh]; exact g_up_n _ _ (by omega)).trans y99
  replace y100 := (show h13 (l + 100) = h12 (l + 100) from by rw [← hh]; exact g_up_n _ _ (by omega)).trans y100
  replace y101 := (show h13 (l + 101) = h12 (l + 101) from by rw [← hh]; exact g_up_n _ _ (by omega)).trans y101
  clear hh
  refine e_putF pfL_32 rfl x rfl rfl rfl dL_init_60 ?_
  generalize hh : g_up h13 l _ = h14
  replace x : h14 l = some (.inr (5, [.int 0, .ref (l + 1), .ref (l + 97), .ref (l + 98), .ref (l + 99), .ref (l + 100), .ref (l + 101), .ref (l + 102), .null, .int 0, .int 0, .int 0])) := by
    rw [← hh]
    exact g_up_s _ _ _
  replace Y := Y.mv (h1 := h14) (fun a _ _ => by rw [← hh]; exact g_up_n _ _ (by omega))
  replace y97 := (show h14 (l + 97) = h13 (l + 97) from by rw [← hh]; exact g_up_n _ _ (by omega)).trans y97
  replace y98 := (show h14 (l + 98) = h13 (l + 98) from by rw [← hh]; exact g_up_n _ _ (by omega)).trans y98
  replace y99 := (show h14 (l + 99) = h13 (l + 99) from by rw [← hh]; exact g_up_n _ _ (by omega)).trans y99
  replace y100 := (show h14 (l + 100) = h13 (l + 100) from by rw [← hh]; exact g_up_n _ _ (by omega)).trans y100
  replace y101 := (show h14 (l + 101) = h13 (l + 101) from by rw [← hh]; exact g_up_n _ _ (by omega)).trans y101
  replace y102 := (show h14 (l + 102) = h13 (l + 102) from by rw [← hh]; exact g_up_n _ _ (by omega)).trans y102
  clear hh
  refine e_aload_n dL_init_63 rfl ?_
  refine e_bipush dL_init_64 (by decide) ?_
  refine e_newarr (t := 0) (N := 80) (A0 := (80, .inl (fun _ => iN 0))) va_int rfl rfl (fun _ => vp_cell_i _ _ _) rfl (fun _ _ w => w) rfl rfl (by decide) rfl rfl dL_init_66 ?_
  refine (show Ev _ 103 2485 (some (l + 104)) _ _ _ _ from ?_)
  generalize hh : g_up h14 (l + 103) _ = h15
  have y103 : h15 (l + 103) = some (aI G 80 (fun _ => 0)) := by
    rw [← hh]
    exact g_up_s _ _ _
  replace x := (show h15 l = h14 l from by rw [← hh]; exact g_up_n _ _ (by omega)).trans x
  replace Y := Y.mv (h1 := h15) (fun a _ _ => by rw [← hh]; exact g_up_n _ _ (by omega))
  replace y97 := (show h15 (l + 97) = h14 (l + 97) from by rw [← hh]; exact g_up_n _ _ (by omega)).trans y97
  replace y98 := (show h15 (l + 98) = h14 (l + 98) from by rw [← hh]; exact g_up_n _ _ (by omega)).trans y98
  replace y99 := (show h15 (l + 99) = h14 (l + 99) from by rw [← hh]; exact g_up_n _ _ (by omega)).trans y99
  replace y100 := (show h15 (l + 100) = h14 (l + 100) from by rw [← hh]; exact g_up_n _ _ (by omega)).trans y100
  replace y101 := (show h15 (l + 101) = h14 (l + 101) from by rw [← hh]; exact g_up_n _ _ (by omega)).trans y101
  replace y102 := (show h15 (l + 102) = h14 (l + 102) from by rw [← hh]; exact g_up_n _ _ (by omega)).trans y102
  clear hh
  refine e_putF pfL_35 rfl x rfl rfl rfl dL_init_68 ?_
  generalize hh : g_up h15 l _ = h16
  replace x : h16 l = some (.inr (5, [.int 0, .ref (l + 1), .ref (l + 97), .ref (l + 98), .ref (l + 99), .ref (l + 100), .ref (l + 101), .ref (l + 102), .ref (l + 103), .int 0, .int 0, .int 0])) := by
    rw [← hh]
    exact g_up_s _ _ _
  replace Y := Y.mv (h1 := h16) (fun a _ _ => by rw [← hh]; exact g_up_n _ _ (by omega))
  replace y97 := (show h16 (l + 97) = h15 (l + 97) from by rw [← hh]; exact g_up_n _ _ (by omega)).trans y97
  replace y98 := (show h16 (l + 98) = h15 (l + 98) from by rw [← hh]; exact g_up_n _ _ (by omega)).trans y98
  replace y99 := (show h16 (l + 99) = h15 (l + 99) from by rw [← hh]; exact g_up_n _ _ (by omega)).trans y99
  replace y100 := (show h16 (l + 100) = h15 (l + 100) from by rw [← hh]; exact g_up_n _ _ (by omega)).trans y100
  replace y101 := (show h16 (l + 101) = h15 (l + 101) from by rw [← hh]; exact g_up_n _ _ (by omega)).trans y101
  replace y102 := (show h16 (l + 102) = h15 (l + 102) from by rw [← hh]; exact g_up_n _ _ (by omega)).trans y102
  replace y103 := (show h16 (l + 103) = h15 (l + 103) from by rw [← hh]; exact g_up_n _ _ (by omega)).trans y103
  clear hh
  refine e_vret rfl dL_init_71 (by decide) (by decide) ?_
  exact ⟨rfl, rfl, ⟨x, y97, y98, y99, y100, y101, y102, y103⟩, Y⟩
end LAW17
def okSS (S : Nat → PL) : Prop := ∀ j, j < 4 → S j = [] ∨ polP (S j)
/-- what is asked of two heaps -/
def mP2 (P : PL) (a b1 : Int) : Prop := hfS P a b1 ∧ hfJ P a b1 ∧ smL P b1 a = smL P a b1 ∧ apaF P a b1
/-- what is asked of a heap -/
def mP1 (P : PL) (a : Int) : Prop := hfA P a ∧ hfD P a ∧ layF P a ∧ lyM P a ≤ 60 ∧ fenF P a ∧ srtF P a ∧ srtG P a ∧ plcF P a ∧ disF P a False ∧ disF P a True
/-- the mathematics that the law's checks stand on -/
def lwM : Prop := (∀ P, goodP P → sumH P ∧ (∀ i, i < P.length → mP1 P (pM P i) ∧ ∀ j, j < P.length → mP2 P (pM P i) (pM P j)) ∧ drF P ∧ ∀ S, okSS S → erF P S) ∧ (∀ L, polP L → polG L) ∧ ∀ E, okE E → lnF E
abbrev mLaw : g_M := (yL_law, cL_law, 3, some .boolean, (0, 0), none)
def lwHy (bs bg : Nat) (args : Array Value) (s : State) : Prop := args = #[.ref bs] ∧ bs < bg ∧ s.heap.size = bg
abbrev lwE (G : g_X) (ZZ : g_Q) : g_E := (G, mLaw, room_1, fun below args s t => lwHy (G.2.1.2 9 0) G.2.2.2 args s → ZZ below args s t)
section LAW18
variable {G : g_X} {ZZ : g_Q} {k n : Nat} {z : Option Nat} {h : g_hp} {pc : Nat} {Lo : List (Nat × Value)} {st : List Value}
/-- where the start isn't what it should be, nothing is owed -/
theorem e_hy (kk : ∀ (p : Program) (e : Env) (s : State) (m : MethodId) (args : Array Value) (below : List Frame) (meth : Method) (c : Code) (H : Heap) (locs : List Loc) (ls : Array Slot), lwHy (G.2.1.2 9 0) G.2.2.2 args s →
    g_C G mLaw p e s m args meth c → va_S (g_A G) s.heap H locs → g_H G z h H → G.2.2.2 ≤ s.heap.size → g_L ls 3 Lo →
    W p G.1 e room_1 s m args below meth c H locs k n (fun t => lwHy (G.2.1.2 9 0) G.2.2.2 args s → ZZ below args s t) (F0 m pc ls st)) : Ev (lwE G ZZ) k n z h pc Lo st := by
  intro p e s m args below meth c H locs ls hC hS hH hb hl
  by_cases hy : lwHy (G.2.1.2 9 0) G.2.2.2 args s
  · exact kk p e s m args below meth c H locs ls hy hC hS hH hb hl
  · intro T hT X
    exact ⟨_, Steps.refl _, fun w => absurd w hy⟩
end LAW18
section LAW19
variable {G : g_X} {ZZ : g_Q} {x pt sd cr : Int} {HP XS YS GX GY FX FY : Nat → Int} {P E : PL} {S : Nat → PL} {b : Int} {P2 E2 : PL} {S2 : Nat → PL} {F : PL} {l : Nat} {h : g_hp}
set_option maxRecDepth 20000 in
theorem gs_loop (hM : lwM) (hg : goodP P) (hE : ∀ (k n : Nat) (h : g_hp) (Lo : List (Nat × Value)), k ≤ 600104 → n ≤ 7301314 → Ev (lwE G ZZ) k n none h 103 Lo [.int (iN 1)]) : ∀ (n g9 k : Nat) (h : g_hp) (x sd cr : Int) (GX GY FX FY : Nat → Int) (E : PL) (S : Nat → PL) (F : PL), lwW G x (P.length : Int) sd cr (pM P) (pX P) (pY P) GX GY FX FY P E S 0 [] [] (fun _ => []) F l h → okSS S → g9 + n = 3 → k ≤ 20000 + 1200 * g9 → Ev (lwE G ZZ) k (6 * k) none h 55 [(2, .int (iN (g9 : Int))), (1, .ref l), (0, .ref (G.2.1.2 9 0))] []
  | 0, g9, k, h, x, sd, cr, GX, GY, FX, FY, E, S, F, W, hS, e, hk => by
    refine e_iload_n dL_law_55 rfl ?_
    refine e_iconst dL_law_56 ?_
    refine e_icmp_ge (tgt := 84) ⟨by omega, by omega⟩ ⟨by omega, by omega⟩ dL_law_57 rfl (fun c_9 => ?_) (fun c_9 => absurd (by omega) c_9)
    refine e_aload_n dL_law_84 rfl ?_
    refine e_own (C := lwE G ZZ) W qcL_281 rfl (L_areLines W W.El hM.2.2) rfl rfl rfl rfl (show _ ≤ 600104 by omega) (show _ ≤ 7301314 by omega) dL_law_85 (fun h v9 q9 => ?_)
    obtain ⟨rfl, x, E, W⟩ := q9
    refine e_if_eq (tgt := 102) ⟨by omega, by omega⟩ dL_law_88 rfl (fun c => absurd c (by decide)) (fun _ => ?_)
    refine e_aload_n dL_law_91 rfl ?_
    refine e_own (C := lwE G ZZ) W qcL_284 rfl (L_isRestored W hg rfl (hM.1 P hg).2.2.1 ((hM.1 P hg).2.2.2 S hS)) rfl rfl rfl rfl (show _ ≤ 600104 by omega) (show _ ≤ 7301314 by omega) dL_law_92 (fun h v9 q9 => ?_)
    obtain rfl := q9
    refine e_if_eq (tgt := 102) ⟨by omega, by omega⟩ dL_law_95 rfl (fun c => absurd c (by decide)) (fun _ => ?_)
    refine e_iconst dL_law_98 ?_
    refine e_goto (tgt := 103) dL_law_99 rfl ?_
    exact hE _ _ _ _ (by omega) (by omega)
  | n + 1, g9, k, h, x, sd, cr, GX, GY, FX, FY, E, S, F, W, hS, e, hk => by
    have ih := gs_loop hM hg hE n (g9 + 1)
    refine e_iload_n dL_law_55 rfl ?_
    refine e_iconst dL_law_56 ?_
    refine e_icmp_ge (tgt := 84) ⟨by omega, by omega⟩ ⟨by omega, by omega⟩ dL_law_57 rfl (fun c_9 => absurd c_9 (by omega)) (fun c_9 => ?_)
    refine e_aload_n dL_law_60 rfl ?_
    refine e_iload_n dL_law_61 rfl ?_
    refine e_own (C := lwE G ZZ) W qcL_275 rfl (L_isDrawn W (show g9 < 3 by omega) (W.Sl (show g9 < 4 by omega))) rfl rfl rfl rfl (show _ ≤ 600104 by omega) (show _ ≤ 7301314 by omega) dL_law_62 (fun h v9 q9 => ?_)
    obtain ⟨rfl, x, GX, GY, L, hL, hx, W⟩ := q9
    refine e_if_eq (tgt := 76) ⟨by omega, by omega⟩ dL_law_65 rfl (fun c => absurd c (by decide)) (fun _ => ?_)
    refine e_aload_n dL_law_68 rfl ?_
    refine e_iload_n dL_law_69 rfl ?_
    refine e_own (C := lwE G ZZ) W qcL_278 rfl (L_isPolygon hL hx (show g9 < 3 by omega) uS_at hg rfl (hM.2.1 L hL) W) rfl rfl rfl rfl (show _ ≤ 600104 by omega) (show _ ≤ 7301314 by omega) dL_law_70 (fun h v9 q9 => ?_)
    obtain ⟨rfl, cr, FX, FY, E, F, W⟩ := q9
    refine e_if_ne (tgt := 78) ⟨by omega, by omega⟩ dL_law_73 rfl (fun _ => ?_) (fun c => absurd (show ¬ (1 : Int) = 0 by decide) c)
    refine e_iinc dL_law_78 rfl ?_
    refine e_goto (tgt := 55) dL_law_81 rfl ?_
    refine e_loc [(2, .int (iN ((g9 + 1 : Nat) : Int))), (1, .ref l), (0, .ref (G.2.1.2 9 0))] ⟨rfl, rfl, rfl, trivial⟩ (ih _ h _ _ _ _ _ _ _ _ _ _ W (fun j hj => ?_) (by omega) (by omega))
    by_cases c : j = g9
    · subst c
      rw [uS_at]
      exact Or.inr hL
    · rw [show uS S g9 L j = S j from if_neg c]
      exact hS j hj
set_option maxRecDepth 20000 in
theorem lw_begin (hM : lwM) (hE : ∀ (k n : Nat) (h : g_hp) (Lo : List (Nat × Value)), k ≤ 600104 → n ≤ 7301314 → Ev (lwE G ZZ) k n none h 103 Lo [.int (iN 1)]) : Ev (lwE G ZZ) 0 0 (some G.2.2.2) (fun _ => none) 0 [(0, .ref (G.2.1.2 9 0))] [] := by
  generalize hl9 : G.2.2.2 = l
  refine e_new kL vlL_11 vn_L vi_L dfL rfl rfl dL_law_0 ?_
  refine e_dup dL_law_3 rfl ?_
  refine e_mkI qcL_255 (S_lwInit (g_up_s _ _ _)) rfl rfl rfl rfl dL_law_4 (fun h W => ?_)
  refine e_astore_n dL_law_7 rfl ?_
  refine e_lose ?_
  refine e_widen (k' := 1000) (n' := 6 * 1000) (by decide) (by decide) ?_
  refine e_aload_n dL_law_8 rfl ?_
  refine e_aload_n dL_law_9 rfl ?_
  refine e_callS qcL_256 L_stirred rfl rfl rfl (g_rm_of rfl (show _ ≤ 600104 by decide) (show _ ≤ 7301314 by decide)) dL_law_10 (fun E9 z9 h9 w => by obtain ⟨v, q, _⟩ := w; cases q) (fun v9 z9 h9 w => ?_)
  obtain ⟨v, w1, rfl, rfl⟩ := w
  have e2 := Sum.inl.inj w1
  subst e2
  refine (show Ev _ 1000 (6 * 1000) none _ _ _ (.int (iN v) :: .ref l :: []) from ?_)
  refine e_putf pfL_38 W.obj rfl rfl rfl dL_law_13 ?_
  replace W := W.w_x v
  refine (show Ev _ _ _ _ (g_up _ l (.inr (5, [.int (iN v), .ref (l + 1), .ref (l + 97), .ref (l + 98), .ref (l + 99), .ref (l + 100), .ref (l + 101), .ref (l + 102), .ref (l + 103), .int (iN 0), .int (iN 0), .int (iN 0)]))) _ _ _ from ?_)
  generalize g_up _ l _ = h at W ⊢
  refine e_aload_n dL_law_16 rfl ?_
  refine e_own (C := lwE G ZZ) W qcL_260 rfl (L_come W) rfl rfl rfl rfl (show _ ≤ 600104 by omega) (show _ ≤ 7301314 by omega) dL_law_17 (fun h v9 q9 => ?_)
  obtain ⟨rfl, x, P, hg, W⟩ := q9
  have hP := hM.1 P hg
  have h0 : 0 < P.length := by
    have := hg.1
    omega
  have h1 := (hP.2.1 0 h0).1
  refine e_if_eq (tgt := 51) ⟨by omega, by omega⟩ dL_law_20 rfl (fun c => absurd c (by decide)) (fun _ => ?_)
  refine e_aload_n dL_law_23 rfl ?_
  refine e_own (C := lwE G ZZ) W qcL_263 rfl (L_areHulls W hg rfl hP.1 h1.1 h1.2.1 ((hP.2.1 0 h0).2 0 h0).1 (fun r hr => ((hP.2.1 0 h0).2 r hr).2.1) (fun r hr => ((hP.2.1 0 h0).2 r hr).1) (fun r hr => ((hP.2.1 0 h0).2 r hr).2.2.1)) rfl rfl rfl rfl (show _ ≤ 600104 by omega) (show _ ≤ 7301314 by omega) dL_law_24 (fun h v9 q9 => ?_)
  obtain ⟨rfl, x, cr, FX, FY, F, W⟩ := q9
  refine e_if_eq (tgt := 51) ⟨by omega, by omega⟩ dL_law_27 rfl (fun c => absurd c (by decide)) (fun _ => ?_)
  refine e_aload_n dL_law_30 rfl ?_
  refine e_own (C := lwE G ZZ) W qcL_266 rfl (L_areLayers W hg rfl h1.2.2.1 h1.2.2.2.1) rfl rfl rfl rfl (show _ ≤ 600104 by omega) (show _ ≤ 7301314 by omega) dL_law_31 (fun h v9 q9 => ?_)
  obtain ⟨rfl, cr, FX, FY, F, W⟩ := q9
  refine e_if_eq (tgt := 51) ⟨by omega, by omega⟩ dL_law_34 rfl (fun c => absurd c (by decide)) (fun _ => ?_)
  refine e_aload_n dL_law_37 rfl ?_
  have hn9 : ∀ r, r < P.length → nC P (pM P r) ≤ 26 := fun r hr => by
    have a1 := cntN_le P (pM P r) P.length
    have a2 := hg.1
    have a3 : cntN P (pM P r) P.length = nC P (pM P r) := rfl
    omega
  refine e_own (C := lwE G ZZ) W qcL_269 rfl (L_arePairs W hg rfl hn9 (fun r hr => (hP.2.1 r hr).1.2.2.2.2.1) (fun r hr => (hP.2.1 r hr).1.2.2.2.2.2.1) (fun r hr => (hP.2.1 r hr).1.2.2.2.2.2.2.1) (fun r hr => (hP.2.1 r hr).1.2.2.2.2.2.2.2.1) (fun r hr => (hP.2.1 r hr).1.2.2.2.2.2.2.2.2.1) (fun r hr => (hP.2.1 r hr).1.2.2.2.2.2.2.2.2.2)) rfl rfl rfl rfl (show _ ≤ 600104 by omega) (show _ ≤ 7301314 by omega) dL_law_38 (fun h v9 q9 => ?_)
  obtain ⟨rfl, x, W⟩ := q9
  refine e_if_eq (tgt := 51) ⟨by omega, by omega⟩ dL_law_41 rfl (fun c => absurd c (by decide)) (fun _ => ?_)
  refine e_aload_n dL_law_44 rfl ?_
  refine e_own (C := lwE G ZZ) W qcL_272 rfl (L_areApart W hg rfl (fun r hr => ((hP.2.1 0 h0).2 r hr).2.2.2)) rfl rfl rfl rfl (show _ ≤ 600104 by omega) (show _ ≤ 7301314 by omega) dL_law_45 (fun h v9 q9 => ?_)
  obtain ⟨rfl, x, W⟩ := q9
  refine e_if_ne (tgt := 53) ⟨by omega, by omega⟩ dL_law_48 rfl (fun _ => ?_) (fun c => absurd (show ¬ (1 : Int) = 0 by decide) c)
  refine e_iconst dL_law_53 ?_
  refine e_istore_n dL_law_54 rfl ?_
  refine e_loc [(2, .int (iN ((0 : Nat) : Int))), (1, .ref l), (0, .ref (G.2.1.2 9 0))] ⟨rfl, rfl, rfl, trivial⟩ ?_
  exact gs_loop hM hg hE 3 0 _ h _ _ _ _ _ _ _ _ _ _ W (fun j hj => Or.inl rfl) rfl (by omega)
end LAW19
