/-! The law: its start -/
set_option maxRecDepth 20000 in
theorem vlL_8 : (.classLink RL 8 RX7 : Cond) ∈ GW := gw1 18 rfl rfl
set_option maxRecDepth 20000 in
theorem vlL_140 : (.classLink RL 140 RX8 : Cond) ∈ GW := gw5 6 rfl rfl
set_option maxRecDepth 20000 in
theorem vn_X7 : (.instantiable RX7 10 : Cond) ∈ GW := gw1 19 rfl rfl
set_option maxRecDepth 20000 in
theorem vn_X8 : (.instantiable RX8 45 : Cond) ∈ GW := gw5 7 rfl rfl
set_option maxRecDepth 20000 in
theorem vi_X7 : (.initialized RX7 : Cond) ∈ GW := gw1 1 rfl rfl
set_option maxRecDepth 20000 in
theorem vi_X8 : (.initialized RX8 : Cond) ∈ GW := gw1 7 rfl rfl
set_option maxRecDepth 20000 in
theorem va_long : (.arrayClass FieldType.long : Cond) ∈ GW := gw7 54 rfl rfl
set_option maxRecDepth 20000 in
theorem va_double : (.arrayClass FieldType.double : Cond) ∈ GW := gw7 55 rfl rfl
section LSTART
variable {G : g_X} {bs bg L : Nat} {xs : Nat → Int32} {ZZ : g_Q} {Gd : PL → PL → (Nat → PL) → Int → PL → PL → (Nat → PL) → PL → Prop}
set_option maxRecDepth 20000 in
theorem lw_begin (hL : L ≤ 2560) (hQ : ∀ (P E : PL) (S : Nat → PL) (b : Int) (P2 E2 : PL) (S2 : Nat → PL) (F : PL), Gd P E S b P2 E2 S2 F → lwQ P E S b P2 E2 S2 F) (hT : lwT Gd) (hG : Gd [] [] (fun _ => []) 0 [] [] (fun _ => []) []) (hE : ∀ (k n : Nat) (h : g_hp) (Lo : List (Nat × Value)), k ≤ 601024 → n ≤ 7293034 → Ev (lwE G bs L xs ZZ) k n none h 2964 Lo [.int (iN 1)]) : Ev (lwE G bs L xs ZZ) 0 0 (some bg) (fun _ => none) 0 [(0, .ref bs)] [] := by
  refine e_new kX7 vlL_8 vn_X7 vi_X7 dfX7 rfl rfl dL_law_0 ?_
  refine e_dup dL_law_3 rfl ?_
  refine e_mkI qcL_139 (S_hsInit (g_up_s _ _ _)) rfl rfl rfl rfl dL_law_4 (fun h1 X => ?_)
  refine e_astore_n dL_law_7 rfl ?_
  refine (show Ev _ 96 2173 (some (bg + 96)) _ _ _ _ from ?_)
  refine e_new kX8 vlL_140 vn_X8 vi_X8 dfX8 rfl rfl dL_law_8 ?_
  refine e_dup dL_law_11 rfl ?_
  refine e_mkI qcL_142 (S_mdInit (g_up_s _ _ _)) rfl rfl rfl rfl dL_law_12 (fun h2 Y => ?_)
  refine e_astore_n dL_law_15 rfl ?_
  refine e_iconst dL_law_16 ?_
  refine (show Ev _ 123 11757 (some (bg + 123)) _ _ _ _ from ?_)
  refine e_newarr (t := 1) (N := 1) (A0 := (1, .inr (.inl (fun _ => lI 0)))) va_long rfl rfl (fun _ => vp_cell_l _ _ _) rfl (fun _ _ w => w) rfl rfl (by decide) rfl rfl dL_law_17 ?_
  refine e_astore_n dL_law_19 rfl ?_
  refine e_iconst dL_law_20 ?_
  refine (show Ev _ 124 11758 (some (bg + 124)) _ _ _ _ from ?_)
  refine e_newarr (t := 2) (N := 1) (A0 := (1, .inr (.inr (.inr (.inl (fun _ => 0)))))) va_double rfl rfl (fun _ => vp_cell_d _ _ _) rfl (fun _ _ w => w) rfl rfl (by decide) rfl rfl dL_law_21 ?_
  refine e_astore dL_law_23 rfl ?_
  refine e_iconst dL_law_25 ?_
  refine e_istore dL_law_26 rfl ?_
  refine e_lose ?_
  refine e_loc [(5, .int (iN 0)), (4, .ref (bg + 124)), (3, .ref (bg + 123)), (2, .ref (bg + 96)), (1, .ref bg), (0, .ref bs)] ⟨rfl, rfl, rfl, rfl, rfl, rfl, trivial⟩ ?_
  generalize hh : g_up _ (bg + 124) _ = h3
  have k3 : ∀ a, a < bg + 123 → h3 a = h2 a := fun a ha => by
    rw [← hh, g_up_n _ _ (by omega), g_up_n _ _ (by omega)]
  have W9 : lwW G [] [] (fun _ => []) 0 [] [] (fun _ => []) [] bg (bg + 96) (bg + 123) (bg + 124) h3 := by
    refine ⟨⟨rfl, rfl, rfl⟩, ⟨_, _, _, _, _, _, _, _, _, X.mv (fun a q1 q2 => ?_)⟩, ⟨_, _, Y.mv (fun a q1 q2 => k3 a (by omega)), mdR_new⟩, ⟨fun _ => 0, ?_⟩, ⟨fun _ => 0, ?_⟩⟩
    · rw [k3 a (by omega), Y.fr a (by omega), g_up_n _ _ (by omega)]
    · rw [← hh, g_up_n _ _ (by omega)]
      exact g_up_s _ _ _
    · rw [← hh]
      exact g_up_s _ _ _
  exact lw_loop hL hQ hT hE 512 0 125 11759 h3 _ _ _ _ _ _ _ _ hG W9 (by omega) (by omega) (by omega) (by omega) (by omega)
end LSTART
