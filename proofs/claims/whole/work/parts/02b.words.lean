/-! words of the tables by their places; by program -/
/-- the words that every method may use -/
def GW : List Cond := lw_tbl.filter goodWord
theorem GW_in {w : Cond} (h1 : w ∈ lw_tbl) (h2 : goodWord w = true) : w ∈ GW := List.mem_filter.mpr ⟨h1, h2⟩
theorem GW_good : GoodIn GW GW := fun w h => ⟨h, good_of_word (List.mem_filter.mp h).2⟩
theorem gw0 {w : Cond} (i : Nat) (hw : (k2_sels lw_privs)[i]? = some w) (hg : goodWord w = true) : w ∈ GW := GW_in (List.mem_append_left _ (List.mem_of_getElem? hw)) hg
theorem gw1 {w : Cond} (i : Nat) (hw : tables_1_1[i]? = some w) (hg : goodWord w = true) : w ∈ GW := GW_in (List.mem_append_right _ (show w ∈ tables_1 from List.mem_append_left _ (List.mem_of_getElem? hw))) hg
theorem gw2 {w : Cond} (i : Nat) (hw : tables_1_2[i]? = some w) (hg : goodWord w = true) : w ∈ GW := GW_in (List.mem_append_right _ (show w ∈ tables_1 from List.mem_append_right _ (List.mem_append_left _ (List.mem_of_getElem? hw)))) hg
theorem gw3 {w : Cond} (i : Nat) (hw : tables_1_3[i]? = some w) (hg : goodWord w = true) : w ∈ GW := GW_in (List.mem_append_right _ (show w ∈ tables_1 from List.mem_append_right _ (List.mem_append_right _ (List.mem_append_left _ (List.mem_of_getElem? hw))))) hg
theorem gw4 {w : Cond} (i : Nat) (hw : tables_1_4[i]? = some w) (hg : goodWord w = true) : w ∈ GW := GW_in (List.mem_append_right _ (show w ∈ tables_1 from List.mem_append_right _ (List.mem_append_right _ (List.mem_append_right _ (List.mem_append_left _ (List.mem_of_getElem? hw)))))) hg
theorem gw5 {w : Cond} (i : Nat) (hw : tables_1_5[i]? = some w) (hg : goodWord w = true) : w ∈ GW := GW_in (List.mem_append_right _ (show w ∈ tables_1 from List.mem_append_right _ (List.mem_append_right _ (List.mem_append_right _ (List.mem_append_right _ (List.mem_append_left _ (List.mem_of_getElem? hw))))))) hg
theorem gw6 {w : Cond} (i : Nat) (hw : tables_1_6[i]? = some w) (hg : goodWord w = true) : w ∈ GW := GW_in (List.mem_append_right _ (show w ∈ tables_1 from List.mem_append_right _ (List.mem_append_right _ (List.mem_append_right _ (List.mem_append_right _ (List.mem_append_right _ (List.mem_append_left _ (List.mem_of_getElem? hw)))))))) hg
theorem gw7 {w : Cond} (i : Nat) (hw : tables_1_7[i]? = some w) (hg : goodWord w = true) : w ∈ GW := GW_in (List.mem_append_right _ (show w ∈ tables_1 from List.mem_append_right _ (List.mem_append_right _ (List.mem_append_right _ (List.mem_append_right _ (List.mem_append_right _ (List.mem_append_right _ (List.mem_of_getElem? hw)))))))) hg
set_option maxRecDepth 20000 in
theorem w_0 : (.selects "HullyardSurveys$Row" ⟨"HullyardSurveys$Row", "put", "(IIII)V"⟩ ⟨"HullyardSurveys$Row", "put", "(IIII)V"⟩ : Cond) ∈ GW := gw0 0 rfl rfl
set_option maxRecDepth 20000 in
theorem w_1 : (.selects "HullyardSurveys" ⟨"HullyardSurveys", "hasStray", "(I)Z"⟩ ⟨"HullyardSurveys", "hasStray", "(I)Z"⟩ : Cond) ∈ GW := gw0 1 rfl rfl
set_option maxRecDepth 20000 in
theorem w_2 : (.selects "HullyardSurveys" ⟨"HullyardSurveys", "orderHeap", "(I)V"⟩ ⟨"HullyardSurveys", "orderHeap", "(I)V"⟩ : Cond) ∈ GW := gw0 2 rfl rfl
set_option maxRecDepth 20000 in
theorem w_3 : (.selects "HullyardSurveys$Row" ⟨"HullyardSurveys$Row", "isBehind", "(III)Z"⟩ ⟨"HullyardSurveys$Row", "isBehind", "(III)Z"⟩ : Cond) ∈ GW := gw0 3 rfl rfl
set_option maxRecDepth 20000 in
theorem w_4 : (.selects "HullyardSurveys" ⟨"HullyardSurveys", "faultsOf", "(LHullyardSurveys$Row;)I"⟩ ⟨"HullyardSurveys", "faultsOf", "(LHullyardSurveys$Row;)I"⟩ : Cond) ∈ GW := gw0 4 rfl rfl
set_option maxRecDepth 20000 in
theorem w_5 : (.selects "HullyardSurveys$Census" ⟨"HullyardSurveys$Census", "countCommon", "()I"⟩ ⟨"HullyardSurveys$Census", "countCommon", "()I"⟩ : Cond) ∈ GW := gw0 5 rfl rfl
set_option maxRecDepth 20000 in
theorem w_6 : (.selects "HullyardSurveys$Parting" ⟨"HullyardSurveys$Parting", "firstEar", "(I)I"⟩ ⟨"HullyardSurveys$Parting", "firstEar", "(I)I"⟩ : Cond) ∈ GW := gw0 6 rfl rfl
set_option maxRecDepth 20000 in
theorem w_7 : (.selects "HullyardSurveys$Parting" ⟨"HullyardSurveys$Parting", "isEar", "(II)Z"⟩ ⟨"HullyardSurveys$Parting", "isEar", "(II)Z"⟩ : Cond) ∈ GW := gw0 7 rfl rfl
set_option maxRecDepth 20000 in
theorem w_8 : (.selects "HullyardSurveys$Parting" ⟨"HullyardSurveys$Parting", "keepTriangle", "(III)V"⟩ ⟨"HullyardSurveys$Parting", "keepTriangle", "(III)V"⟩ : Cond) ∈ GW := gw0 8 rfl rfl
set_option maxRecDepth 20000 in
theorem w_10 : (.selects "HullyardSurveys" ⟨"HullyardSurveys", "requirePoint", "(I)V"⟩ ⟨"HullyardSurveys", "requirePoint", "(I)V"⟩ : Cond) ∈ GW := gw0 10 rfl rfl
set_option maxRecDepth 20000 in
theorem w_11 : (.selects "HullyardSurveys" ⟨"HullyardSurveys", "requireFilled", "(I)V"⟩ ⟨"HullyardSurveys", "requireFilled", "(I)V"⟩ : Cond) ∈ GW := gw0 11 rfl rfl
set_option maxRecDepth 20000 in
theorem w_12 : (.selects "HullyardSurveys" ⟨"HullyardSurveys", "requireTwoFilled", "(II)V"⟩ ⟨"HullyardSurveys", "requireTwoFilled", "(II)V"⟩ : Cond) ∈ GW := gw0 12 rfl rfl
set_option maxRecDepth 20000 in
theorem w_13 : (.selects "HullyardSurveys" ⟨"HullyardSurveys", "wrapTwo", "(II)V"⟩ ⟨"HullyardSurveys", "wrapTwo", "(II)V"⟩ : Cond) ∈ GW := gw0 13 rfl rfl
set_option maxRecDepth 20000 in
theorem w_14 : (.selects "HullyardSurveys" ⟨"HullyardSurveys", "requirePolygon", "(I)LHullyardSurveys$Row;"⟩ ⟨"HullyardSurveys", "requirePolygon", "(I)LHullyardSurveys$Row;"⟩ : Cond) ∈ GW := gw0 14 rfl rfl
set_option maxRecDepth 20000 in
theorem w_15 : (.selects "HullyardSurveys" ⟨"HullyardSurveys", "requireSimple", "(I)LHullyardSurveys$Row;"⟩ ⟨"HullyardSurveys", "requireSimple", "(I)LHullyardSurveys$Row;"⟩ : Cond) ∈ GW := gw0 15 rfl rfl
set_option maxRecDepth 20000 in
theorem w_16 : (.selects "HullyardSurveys" ⟨"HullyardSurveys", "requireLine", "(I)V"⟩ ⟨"HullyardSurveys", "requireLine", "(I)V"⟩ : Cond) ∈ GW := gw0 16 rfl rfl
set_option maxRecDepth 20000 in
theorem w_17 : (.selects "HullyardSurveys" ⟨"HullyardSurveys", "requireTwoPoints", "(I)V"⟩ ⟨"HullyardSurveys", "requireTwoPoints", "(I)V"⟩ : Cond) ∈ GW := gw0 17 rfl rfl
set_option maxRecDepth 20000 in
theorem w_18 : (.selects "HullyardSurveys" ⟨"HullyardSurveys", "leastFenceFrom", "(II)I"⟩ ⟨"HullyardSurveys", "leastFenceFrom", "(II)I"⟩ : Cond) ∈ GW := gw0 18 rfl rfl
set_option maxRecDepth 20000 in
theorem w_19 : (.selects "HullyardSurveysModel" ⟨"HullyardSurveysModel", "noHeap", "(I)Z"⟩ ⟨"HullyardSurveysModel", "noHeap", "(I)Z"⟩ : Cond) ∈ GW := gw0 19 rfl rfl
set_option maxRecDepth 20000 in
theorem w_20 : (.selects "HullyardSurveysModel" ⟨"HullyardSurveysModel", "fails", "(ZI)Z"⟩ ⟨"HullyardSurveysModel", "fails", "(ZI)Z"⟩ : Cond) ∈ GW := gw0 20 rfl rfl
set_option maxRecDepth 20000 in
theorem w_21 : (.selects "HullyardSurveysModel" ⟨"HullyardSurveysModel", "noPoint", "(I)Z"⟩ ⟨"HullyardSurveysModel", "noPoint", "(I)Z"⟩ : Cond) ∈ GW := gw0 21 rfl rfl
set_option maxRecDepth 20000 in
theorem w_22 : (.selects "HullyardSurveysModel" ⟨"HullyardSurveysModel", "many", "(I)I"⟩ ⟨"HullyardSurveysModel", "many", "(I)I"⟩ : Cond) ∈ GW := gw0 22 rfl rfl
set_option maxRecDepth 20000 in
theorem w_23 : (.selects "HullyardSurveysModel" ⟨"HullyardSurveysModel", "pointAt", "(II)I"⟩ ⟨"HullyardSurveysModel", "pointAt", "(II)I"⟩ : Cond) ∈ GW := gw0 23 rfl rfl
set_option maxRecDepth 20000 in
theorem w_24 : (.selects "HullyardSurveysModel" ⟨"HullyardSurveysModel", "isAhead", "(II)Z"⟩ ⟨"HullyardSurveysModel", "isAhead", "(II)Z"⟩ : Cond) ∈ GW := gw0 24 rfl rfl
set_option maxRecDepth 20000 in
theorem w_25 : (.selects "HullyardSurveysModel" ⟨"HullyardSurveysModel", "isEmpty", "(I)Z"⟩ ⟨"HullyardSurveysModel", "isEmpty", "(I)Z"⟩ : Cond) ∈ GW := gw0 25 rfl rfl
set_option maxRecDepth 20000 in
theorem w_26 : (.selects "HullyardSurveysModel" ⟨"HullyardSurveysModel", "hullOfHeap", "(II)I"⟩ ⟨"HullyardSurveysModel", "hullOfHeap", "(II)I"⟩ : Cond) ∈ GW := gw0 26 rfl rfl
set_option maxRecDepth 20000 in
theorem w_27 : (.selects "HullyardSurveysModel" ⟨"HullyardSurveysModel", "laysHeap", "(I)V"⟩ ⟨"HullyardSurveysModel", "laysHeap", "(I)V"⟩ : Cond) ∈ GW := gw0 27 rfl rfl
set_option maxRecDepth 20000 in
theorem w_28 : (.selects "HullyardSurveysModel" ⟨"HullyardSurveysModel", "lays", "(II)V"⟩ ⟨"HullyardSurveysModel", "lays", "(II)V"⟩ : Cond) ∈ GW := gw0 28 rfl rfl
set_option maxRecDepth 20000 in
theorem w_29 : (.selects "HullyardSurveysModel" ⟨"HullyardSurveysModel", "wraps", "(I)I"⟩ ⟨"HullyardSurveysModel", "wraps", "(I)I"⟩ : Cond) ∈ GW := gw0 29 rfl rfl
set_option maxRecDepth 20000 in
theorem w_30 : (.selects "HullyardSurveysModel" ⟨"HullyardSurveysModel", "far", "(II)I"⟩ ⟨"HullyardSurveysModel", "far", "(II)I"⟩ : Cond) ∈ GW := gw0 30 rfl rfl
set_option maxRecDepth 20000 in
theorem w_31 : (.selects "HullyardSurveysModel" ⟨"HullyardSurveysModel", "noHeaps", "(II)Z"⟩ ⟨"HullyardSurveysModel", "noHeaps", "(II)Z"⟩ : Cond) ∈ GW := gw0 31 rfl rfl
set_option maxRecDepth 20000 in
theorem w_32 : (.selects "HullyardSurveysModel" ⟨"HullyardSurveysModel", "peels", "(III)Z"⟩ ⟨"HullyardSurveysModel", "peels", "(III)Z"⟩ : Cond) ∈ GW := gw0 32 rfl rfl
set_option maxRecDepth 20000 in
theorem w_33 : (.selects "HullyardSurveysModel" ⟨"HullyardSurveysModel", "side", "(III)I"⟩ ⟨"HullyardSurveysModel", "side", "(III)I"⟩ : Cond) ∈ GW := gw0 33 rfl rfl
set_option maxRecDepth 20000 in
theorem w_34 : (.selects "HullyardSurveysModel" ⟨"HullyardSurveysModel", "doubled", "(I)I"⟩ ⟨"HullyardSurveysModel", "doubled", "(I)I"⟩ : Cond) ∈ GW := gw0 34 rfl rfl
set_option maxRecDepth 20000 in
theorem w_35 : (.selects "HullyardSurveysModel" ⟨"HullyardSurveysModel", "innerIn", "(I)I"⟩ ⟨"HullyardSurveysModel", "innerIn", "(I)I"⟩ : Cond) ∈ GW := gw0 35 rfl rfl
set_option maxRecDepth 20000 in
theorem w_36 : (.selects "HullyardSurveysModel" ⟨"HullyardSurveysModel", "findsWidth", "()V"⟩ ⟨"HullyardSurveysModel", "findsWidth", "()V"⟩ : Cond) ∈ GW := gw0 36 rfl rfl
set_option maxRecDepth 20000 in
theorem w_37 : (.selects "HullyardSurveysModel" ⟨"HullyardSurveysModel", "noPolygon", "(I)Z"⟩ ⟨"HullyardSurveysModel", "noPolygon", "(I)Z"⟩ : Cond) ∈ GW := gw0 37 rfl rfl
set_option maxRecDepth 20000 in
theorem w_38 : (.selects "HullyardSurveysModel" ⟨"HullyardSurveysModel", "isGood", "(I)Z"⟩ ⟨"HullyardSurveysModel", "isGood", "(I)Z"⟩ : Cond) ∈ GW := gw0 38 rfl rfl
set_option maxRecDepth 20000 in
theorem w_39 : (.selects "HullyardSurveysModel" ⟨"HullyardSurveysModel", "cornerOf", "(II)I"⟩ ⟨"HullyardSurveysModel", "cornerOf", "(II)I"⟩ : Cond) ∈ GW := gw0 39 rfl rfl
set_option maxRecDepth 20000 in
theorem w_40 : (.selects "HullyardSurveysModel" ⟨"HullyardSurveysModel", "takesFirst", "(IIII)V"⟩ ⟨"HullyardSurveysModel", "takesFirst", "(IIII)V"⟩ : Cond) ∈ GW := gw0 40 rfl rfl
set_option maxRecDepth 20000 in
theorem w_41 : (.selects "HullyardSurveysModel" ⟨"HullyardSurveysModel", "takesSecond", "(IIII)V"⟩ ⟨"HullyardSurveysModel", "takesSecond", "(IIII)V"⟩ : Cond) ∈ GW := gw0 41 rfl rfl
set_option maxRecDepth 20000 in
theorem w_42 : (.selects "HullyardSurveysModel" ⟨"HullyardSurveysModel", "doTouch", "()Z"⟩ ⟨"HullyardSurveysModel", "doTouch", "()Z"⟩ : Cond) ∈ GW := gw0 42 rfl rfl
set_option maxRecDepth 20000 in
theorem w_43 : (.selects "HullyardSurveysModel" ⟨"HullyardSurveysModel", "doCross", "()Z"⟩ ⟨"HullyardSurveysModel", "doCross", "()Z"⟩ : Cond) ∈ GW := gw0 43 rfl rfl
set_option maxRecDepth 20000 in
theorem w_44 : (.selects "HullyardSurveysModel" ⟨"HullyardSurveysModel", "doubledOf", "(I)I"⟩ ⟨"HullyardSurveysModel", "doubledOf", "(I)I"⟩ : Cond) ∈ GW := gw0 44 rfl rfl
set_option maxRecDepth 20000 in
theorem w_45 : (.selects "HullyardSurveysModel" ⟨"HullyardSurveysModel", "noSimple", "(I)Z"⟩ ⟨"HullyardSurveysModel", "noSimple", "(I)Z"⟩ : Cond) ∈ GW := gw0 45 rfl rfl
set_option maxRecDepth 20000 in
theorem w_46 : (.selects "HullyardSurveysModel" ⟨"HullyardSurveysModel", "sideOf", "(IJJI)I"⟩ ⟨"HullyardSurveysModel", "sideOf", "(IJJI)I"⟩ : Cond) ∈ GW := gw0 46 rfl rfl
set_option maxRecDepth 20000 in
theorem w_47 : (.selects "HullyardSurveysModel" ⟨"HullyardSurveysModel", "parts", "(I)V"⟩ ⟨"HullyardSurveysModel", "parts", "(I)V"⟩ : Cond) ∈ GW := gw0 47 rfl rfl
set_option maxRecDepth 20000 in
theorem w_48 : (.selects "HullyardSurveysModel" ⟨"HullyardSurveysModel", "isEar", "(III)Z"⟩ ⟨"HullyardSurveysModel", "isEar", "(III)Z"⟩ : Cond) ∈ GW := gw0 48 rfl rfl
set_option maxRecDepth 20000 in
theorem w_49 : (.selects "HullyardSurveysModel" ⟨"HullyardSurveysModel", "turnOf", "(IIII)I"⟩ ⟨"HullyardSurveysModel", "turnOf", "(IIII)I"⟩ : Cond) ∈ GW := gw0 49 rfl rfl
set_option maxRecDepth 20000 in
theorem w_50 : (.selects "HullyardSurveysModel" ⟨"HullyardSurveysModel", "cuts", "(III)V"⟩ ⟨"HullyardSurveysModel", "cuts", "(III)V"⟩ : Cond) ∈ GW := gw0 50 rfl rfl
set_option maxRecDepth 20000 in
theorem w_51 : (.selects "HullyardSurveysModel" ⟨"HullyardSurveysModel", "noCorner", "(II)Z"⟩ ⟨"HullyardSurveysModel", "noCorner", "(II)Z"⟩ : Cond) ∈ GW := gw0 51 rfl rfl
set_option maxRecDepth 20000 in
theorem w_52 : (.selects "HullyardSurveysModel" ⟨"HullyardSurveysModel", "doesSee", "(III)Z"⟩ ⟨"HullyardSurveysModel", "doesSee", "(III)Z"⟩ : Cond) ∈ GW := gw0 52 rfl rfl
set_option maxRecDepth 20000 in
theorem w_53 : (.selects "HullyardSurveysModel" ⟨"HullyardSurveysModel", "off", "(I)I"⟩ ⟨"HullyardSurveysModel", "off", "(I)I"⟩ : Cond) ∈ GW := gw0 53 rfl rfl
set_option maxRecDepth 20000 in
theorem w_54 : (.selects "HullyardSurveysModel" ⟨"HullyardSurveysModel", "noLine", "(I)Z"⟩ ⟨"HullyardSurveysModel", "noLine", "(I)Z"⟩ : Cond) ∈ GW := gw0 54 rfl rfl
set_option maxRecDepth 20000 in
theorem w_55 : (.selects "HullyardSurveysModel" ⟨"HullyardSurveysModel", "areCrossed", "(II)Z"⟩ ⟨"HullyardSurveysModel", "areCrossed", "(II)Z"⟩ : Cond) ∈ GW := gw0 55 rfl rfl
set_option maxRecDepth 20000 in
theorem w_56 : (.selects "HullyardSurveysModel" ⟨"HullyardSurveysModel", "crossed", "(I)I"⟩ ⟨"HullyardSurveysModel", "crossed", "(I)I"⟩ : Cond) ∈ GW := gw0 56 rfl rfl
set_option maxRecDepth 20000 in
theorem w_57 : (.selects "HullyardSurveysModel" ⟨"HullyardSurveysModel", "pairOf", "(IZ)I"⟩ ⟨"HullyardSurveysModel", "pairOf", "(IZ)I"⟩ : Cond) ∈ GW := gw0 57 rfl rfl
set_option maxRecDepth 20000 in
theorem w_58 : (.selects "HullyardSurveysModel" ⟨"HullyardSurveysModel", "squared", "(II)I"⟩ ⟨"HullyardSurveysModel", "squared", "(II)I"⟩ : Cond) ∈ GW := gw0 58 rfl rfl
set_option maxRecDepth 20000 in
theorem w_59 : (.selects "HullyardSurveysModel" ⟨"HullyardSurveysModel", "ordersByY", "(I)I"⟩ ⟨"HullyardSurveysModel", "ordersByY", "(I)I"⟩ : Cond) ∈ GW := gw0 59 rfl rfl
set_option maxRecDepth 20000 in
theorem w_60 : (.selects "HullyardSurveysModel" ⟨"HullyardSurveysModel", "height", "(IIIII)I"⟩ ⟨"HullyardSurveysModel", "height", "(IIIII)I"⟩ : Cond) ∈ GW := gw0 60 rfl rfl
set_option maxRecDepth 20000 in
theorem w_61 : (.selects "HullyardSurveysModel" ⟨"HullyardSurveysModel", "isIn", "(II)Z"⟩ ⟨"HullyardSurveysModel", "isIn", "(II)Z"⟩ : Cond) ∈ GW := gw0 61 rfl rfl
set_option maxRecDepth 20000 in
theorem w_62 : (.initialized "HullyardSurveysLaw" : Cond) ∈ GW := gw1 0 rfl rfl
set_option maxRecDepth 20000 in
theorem w_63 : (.initialized "HullyardSurveys" : Cond) ∈ GW := gw1 1 rfl rfl
set_option maxRecDepth 20000 in
theorem w_64 : (.initialized "HullyardSurveys$Yard" : Cond) ∈ GW := gw1 2 rfl rfl
set_option maxRecDepth 20000 in
theorem w_65 : (.initialized "HullyardSurveys$Row" : Cond) ∈ GW := gw1 3 rfl rfl
set_option maxRecDepth 20000 in
theorem w_66 : (.initialized "java/lang/Math" : Cond) ∈ GW := gw1 4 rfl rfl
set_option maxRecDepth 20000 in
theorem w_67 : (.initialized "HullyardSurveys$Parting" : Cond) ∈ GW := gw1 5 rfl rfl
set_option maxRecDepth 20000 in
theorem w_68 : (.initialized "HullyardSurveys$Census" : Cond) ∈ GW := gw1 6 rfl rfl
set_option maxRecDepth 20000 in
theorem w_69 : (.initialized "HullyardSurveysModel" : Cond) ∈ GW := gw1 7 rfl rfl
set_option maxRecDepth 20000 in
theorem w_73 : (.initialized "java/lang/IllegalArgumentException" : Cond) ∈ GW := gw1 11 rfl rfl
set_option maxRecDepth 20000 in
theorem w_74 : (.initialized "java/lang/IllegalStateException" : Cond) ∈ GW := gw1 12 rfl rfl
set_option maxRecDepth 20000 in
theorem w_75 : (.initialized "java/lang/IndexOutOfBoundsException" : Cond) ∈ GW := gw1 13 rfl rfl
set_option maxRecDepth 20000 in
theorem w_76 : (.initialized "HullyardSurveys$Plane" : Cond) ∈ GW := gw1 14 rfl rfl
set_option maxRecDepth 20000 in
theorem w_77 : (.initialized "java/util/NoSuchElementException" : Cond) ∈ GW := gw1 15 rfl rfl
set_option maxRecDepth 20000 in
theorem w_78 : (.initialized "HullyardSurveys$Hulls" : Cond) ∈ GW := gw1 16 rfl rfl
set_option maxRecDepth 20000 in
theorem w_79 : (.initialized "HullyardSurveys$Shapes" : Cond) ∈ GW := gw1 17 rfl rfl
set_option maxRecDepth 20000 in
theorem w_82 : (.methodLink "HullyardSurveysLaw" 139 ⟨"HullyardSurveys", "<init>", "()V"⟩ : Cond) ∈ GW := gw1 20 rfl rfl
set_option maxRecDepth 20000 in
theorem w_83 : (.instanceMethod ⟨"HullyardSurveys", "<init>", "()V"⟩ : Cond) ∈ GW := gw1 21 rfl rfl
set_option maxRecDepth 20000 in
theorem w_84 : (.code ⟨"HullyardSurveys", "<init>", "()V"⟩ prog_1_method_1_code 1 none : Cond) ∈ GW := gw1 22 rfl rfl
set_option maxRecDepth 20000 in
theorem w_85 : (.methodLink "HullyardSurveys" 3 ⟨"java/lang/Object", "<init>", "()V"⟩ : Cond) ∈ GW := gw1 23 rfl rfl
set_option maxRecDepth 20000 in
theorem w_86 : (.instanceMethod ⟨"java/lang/Object", "<init>", "()V"⟩ : Cond) ∈ GW := gw1 24 rfl rfl
set_option maxRecDepth 20000 in
theorem w_87 : (.code ⟨"java/lang/Object", "<init>", "()V"⟩ ⟨#[0xb1]⟩ 1 none : Cond) ∈ GW := gw1 25 rfl rfl
set_option maxRecDepth 20000 in
theorem w_90 : (.methodLink "HullyardSurveys" 11 ⟨"HullyardSurveys$Yard", "<init>", "()V"⟩ : Cond) ∈ GW := gw1 28 rfl rfl
set_option maxRecDepth 20000 in
theorem w_91 : (.instanceMethod ⟨"HullyardSurveys$Yard", "<init>", "()V"⟩ : Cond) ∈ GW := gw1 29 rfl rfl
set_option maxRecDepth 20000 in
theorem w_92 : (.code ⟨"HullyardSurveys$Yard", "<init>", "()V"⟩ prog_8_method_1_code 2 none : Cond) ∈ GW := gw1 30 rfl rfl
set_option maxRecDepth 20000 in
theorem w_93 : (.methodLink "HullyardSurveys$Yard" 3 ⟨"java/lang/Object", "<init>", "()V"⟩ : Cond) ∈ GW := gw1 31 rfl rfl
set_option maxRecDepth 20000 in
theorem w_96 : (.methodLink "HullyardSurveys$Yard" 11 ⟨"HullyardSurveys$Row", "<init>", "(I)V"⟩ : Cond) ∈ GW := gw1 34 rfl rfl
set_option maxRecDepth 20000 in
theorem w_97 : (.instanceMethod ⟨"HullyardSurveys$Row", "<init>", "(I)V"⟩ : Cond) ∈ GW := gw1 35 rfl rfl
set_option maxRecDepth 20000 in
theorem w_98 : (.code ⟨"HullyardSurveys$Row", "<init>", "(I)V"⟩ prog_6_method_1_code 3 none : Cond) ∈ GW := gw1 36 rfl rfl
set_option maxRecDepth 20000 in
theorem w_99 : (.methodLink "HullyardSurveys$Row" 1 ⟨"java/lang/Object", "<init>", "()V"⟩ : Cond) ∈ GW := gw1 37 rfl rfl
set_option maxRecDepth 20000 in
theorem w_100 : (.methodLink "HullyardSurveys$Row" 13 ⟨"java/lang/Math", "max", "(II)I"⟩ : Cond) ∈ GW := gw1 38 rfl rfl
set_option maxRecDepth 20000 in
theorem w_101 : (.static ⟨"java/lang/Math", "max", "(II)I"⟩ : Cond) ∈ GW := gw1 39 rfl rfl
set_option maxRecDepth 20000 in
theorem w_102 : (.code ⟨"java/lang/Math", "max", "(II)I"⟩ Lib.Math.max.code 2 (some .int) : Cond) ∈ GW := gw1 40 rfl rfl
set_option maxRecDepth 20000 in
theorem w_103 : (.fieldLink "HullyardSurveys$Row" 19 "HullyardSurveys$Row" "xs" "[I" : Cond) ∈ GW := gw1 41 rfl rfl
set_option maxRecDepth 20000 in
theorem w_104 : (.fieldLink "HullyardSurveys$Row" 23 "HullyardSurveys$Row" "ys" "[I" : Cond) ∈ GW := gw1 42 rfl rfl
set_option maxRecDepth 20000 in
theorem w_105 : (.fieldLink "HullyardSurveys$Row" 26 "HullyardSurveys$Row" "marks" "[I" : Cond) ∈ GW := gw1 43 rfl rfl
set_option maxRecDepth 20000 in
theorem w_106 : (.fieldLink "HullyardSurveys$Row" 7 "HullyardSurveys$Row" "size" "I" : Cond) ∈ GW := gw1 44 rfl rfl
set_option maxRecDepth 20000 in
theorem w_107 : (.laysFinal "HullyardSurveys$Row" "HullyardSurveys$Row" "xs" "[I" : Cond) ∈ GW := gw1 45 rfl rfl
set_option maxRecDepth 20000 in
theorem w_109 : (.laysFinal "HullyardSurveys$Row" "HullyardSurveys$Row" "ys" "[I" : Cond) ∈ GW := gw1 47 rfl rfl
set_option maxRecDepth 20000 in
theorem w_111 : (.laysFinal "HullyardSurveys$Row" "HullyardSurveys$Row" "marks" "[I" : Cond) ∈ GW := gw1 49 rfl rfl
set_option maxRecDepth 20000 in
theorem w_113 : (.lays "HullyardSurveys$Row" "HullyardSurveys$Row" "size" "I" : Cond) ∈ GW := gw1 51 rfl rfl
set_option maxRecDepth 20000 in
theorem w_118 : (.fieldLink "HullyardSurveys$Yard" 14 "HullyardSurveys$Yard" "points" "LHullyardSurveys$Row;" : Cond) ∈ GW := gw1 56 rfl rfl
set_option maxRecDepth 20000 in
theorem w_120 : (.fieldLink "HullyardSurveys$Yard" 20 "HullyardSurveys$Yard" "ends" "LHullyardSurveys$Row;" : Cond) ∈ GW := gw1 58 rfl rfl
set_option maxRecDepth 20000 in
theorem w_122 : (.fieldLink "HullyardSurveys$Yard" 23 "HullyardSurveys$Yard" "polygons" "[LHullyardSurveys$Row;" : Cond) ∈ GW := gw1 60 rfl rfl
set_option maxRecDepth 20000 in
theorem w_123 : (.fieldLink "HullyardSurveys$Yard" 27 "HullyardSurveys$Yard" "blank" "LHullyardSurveys$Row;" : Cond) ∈ GW := gw1 61 rfl rfl
set_option maxRecDepth 20000 in
theorem w_124 : (.laysFinal "HullyardSurveys$Yard" "HullyardSurveys$Yard" "points" "LHullyardSurveys$Row;" : Cond) ∈ GW := gw1 62 rfl rfl
set_option maxRecDepth 20000 in
theorem w_126 : (.laysFinal "HullyardSurveys$Yard" "HullyardSurveys$Yard" "ends" "LHullyardSurveys$Row;" : Cond) ∈ GW := gw1 64 rfl rfl
set_option maxRecDepth 20000 in
theorem w_128 : (.laysFinal "HullyardSurveys$Yard" "HullyardSurveys$Yard" "polygons" "[LHullyardSurveys$Row;" : Cond) ∈ GW := gw1 66 rfl rfl
set_option maxRecDepth 20000 in
theorem w_130 : (.laysFinal "HullyardSurveys$Yard" "HullyardSurveys$Yard" "blank" "LHullyardSurveys$Row;" : Cond) ∈ GW := gw1 68 rfl rfl
set_option maxRecDepth 20000 in
theorem w_134 : (.methodLink "HullyardSurveys" 25 ⟨"HullyardSurveys$Row", "<init>", "(I)V"⟩ : Cond) ∈ GW := gw1 72 rfl rfl
set_option maxRecDepth 20000 in
theorem w_140 : (.methodLink "HullyardSurveys$Parting" 3 ⟨"java/lang/Object", "<init>", "()V"⟩ : Cond) ∈ GW := gw1 78 rfl rfl
set_option maxRecDepth 20000 in
theorem w_142 : (.methodLink "HullyardSurveys$Parting" 11 ⟨"HullyardSurveys$Row", "<init>", "(I)V"⟩ : Cond) ∈ GW := gw1 80 rfl rfl
set_option maxRecDepth 20000 in
theorem w_143 : (.fieldLink "HullyardSurveys$Parting" 14 "HullyardSurveys$Parting" "left" "LHullyardSurveys$Row;" : Cond) ∈ GW := gw1 81 rfl rfl
set_option maxRecDepth 20000 in
theorem w_144 : (.fieldLink "HullyardSurveys$Parting" 20 "HullyardSurveys$Parting" "told" "[I" : Cond) ∈ GW := gw1 82 rfl rfl
set_option maxRecDepth 20000 in
theorem w_145 : (.fieldLink "HullyardSurveys$Parting" 24 "HullyardSurveys$Parting" "made" "I" : Cond) ∈ GW := gw1 83 rfl rfl
set_option maxRecDepth 20000 in
theorem w_146 : (.fieldLink "HullyardSurveys$Parting" 28 "HullyardSurveys$Parting" "doubledAreas" "J" : Cond) ∈ GW := gw1 84 rfl rfl
set_option maxRecDepth 20000 in
theorem w_147 : (.laysFinal "HullyardSurveys$Parting" "HullyardSurveys$Parting" "left" "LHullyardSurveys$Row;" : Cond) ∈ GW := gw1 85 rfl rfl
set_option maxRecDepth 20000 in
theorem w_149 : (.laysFinal "HullyardSurveys$Parting" "HullyardSurveys$Parting" "told" "[I" : Cond) ∈ GW := gw1 87 rfl rfl
set_option maxRecDepth 20000 in
theorem w_151 : (.lays "HullyardSurveys$Parting" "HullyardSurveys$Parting" "made" "I" : Cond) ∈ GW := gw1 89 rfl rfl
set_option maxRecDepth 20000 in
theorem w_153 : (.lays "HullyardSurveys$Parting" "HullyardSurveys$Parting" "doubledAreas" "J" : Cond) ∈ GW := gw1 91 rfl rfl
set_option maxRecDepth 20000 in
theorem w_161 : (.methodLink "HullyardSurveys$Census" 3 ⟨"java/lang/Object", "<init>", "()V"⟩ : Cond) ∈ GW := gw1 99 rfl rfl
set_option maxRecDepth 20000 in
theorem w_163 : (.methodLink "HullyardSurveys$Census" 11 ⟨"HullyardSurveys$Row", "<init>", "(I)V"⟩ : Cond) ∈ GW := gw1 101 rfl rfl
set_option maxRecDepth 20000 in
theorem w_164 : (.fieldLink "HullyardSurveys$Census" 14 "HullyardSurveys$Census" "above" "LHullyardSurveys$Row;" : Cond) ∈ GW := gw1 102 rfl rfl
set_option maxRecDepth 20000 in
theorem w_165 : (.fieldLink "HullyardSurveys$Census" 20 "HullyardSurveys$Census" "below" "LHullyardSurveys$Row;" : Cond) ∈ GW := gw1 103 rfl rfl
set_option maxRecDepth 20000 in
theorem w_166 : (.laysFinal "HullyardSurveys$Census" "HullyardSurveys$Census" "above" "LHullyardSurveys$Row;" : Cond) ∈ GW := gw1 104 rfl rfl
set_option maxRecDepth 20000 in
theorem w_168 : (.laysFinal "HullyardSurveys$Census" "HullyardSurveys$Census" "below" "LHullyardSurveys$Row;" : Cond) ∈ GW := gw1 106 rfl rfl
set_option maxRecDepth 20000 in
theorem w_171 : (.fieldLink "HullyardSurveys" 12 "HullyardSurveys" "yard" "LHullyardSurveys$Yard;" : Cond) ∈ GW := gw1 109 rfl rfl
set_option maxRecDepth 20000 in
theorem w_172 : (.fieldLink "HullyardSurveys" 16 "HullyardSurveys" "imaged" "LHullyardSurveys$Yard;" : Cond) ∈ GW := gw1 110 rfl rfl
set_option maxRecDepth 20000 in
theorem w_173 : (.fieldLink "HullyardSurveys" 19 "HullyardSurveys" "hasImage" "Z" : Cond) ∈ GW := gw1 111 rfl rfl
set_option maxRecDepth 20000 in
theorem w_174 : (.fieldLink "HullyardSurveys" 28 "HullyardSurveys" "figure" "LHullyardSurveys$Row;" : Cond) ∈ GW := gw1 112 rfl rfl
set_option maxRecDepth 20000 in
theorem w_175 : (.fieldLink "HullyardSurveys" 32 "HullyardSurveys" "ordered" "LHullyardSurveys$Row;" : Cond) ∈ GW := gw1 113 rfl rfl
set_option maxRecDepth 20000 in
theorem w_176 : (.fieldLink "HullyardSurveys" 35 "HullyardSurveys" "heights" "LHullyardSurveys$Row;" : Cond) ∈ GW := gw1 114 rfl rfl
set_option maxRecDepth 20000 in
theorem w_177 : (.fieldLink "HullyardSurveys" 38 "HullyardSurveys" "firstHull" "LHullyardSurveys$Row;" : Cond) ∈ GW := gw1 115 rfl rfl
set_option maxRecDepth 20000 in
theorem w_178 : (.fieldLink "HullyardSurveys" 41 "HullyardSurveys" "secondHull" "LHullyardSurveys$Row;" : Cond) ∈ GW := gw1 116 rfl rfl
set_option maxRecDepth 20000 in
theorem w_179 : (.fieldLink "HullyardSurveys" 47 "HullyardSurveys" "parting" "LHullyardSurveys$Parting;" : Cond) ∈ GW := gw1 117 rfl rfl
set_option maxRecDepth 20000 in
theorem w_180 : (.fieldLink "HullyardSurveys" 54 "HullyardSurveys" "census" "LHullyardSurveys$Census;" : Cond) ∈ GW := gw1 118 rfl rfl
set_option maxRecDepth 20000 in
theorem w_181 : (.laysFinal "HullyardSurveys" "HullyardSurveys" "yard" "LHullyardSurveys$Yard;" : Cond) ∈ GW := gw1 119 rfl rfl
set_option maxRecDepth 20000 in
theorem w_183 : (.laysFinal "HullyardSurveys" "HullyardSurveys" "imaged" "LHullyardSurveys$Yard;" : Cond) ∈ GW := gw1 121 rfl rfl
set_option maxRecDepth 20000 in
theorem w_185 : (.lays "HullyardSurveys" "HullyardSurveys" "hasImage" "Z" : Cond) ∈ GW := gw1 123 rfl rfl
set_option maxRecDepth 20000 in
theorem w_187 : (.laysFinal "HullyardSurveys" "HullyardSurveys" "figure" "LHullyardSurveys$Row;" : Cond) ∈ GW := gw1 125 rfl rfl
set_option maxRecDepth 20000 in
theorem w_189 : (.laysFinal "HullyardSurveys" "HullyardSurveys" "ordered" "LHullyardSurveys$Row;" : Cond) ∈ GW := gw1 127 rfl rfl
set_option maxRecDepth 20000 in
theorem w_191 : (.laysFinal "HullyardSurveys" "HullyardSurveys" "heights" "LHullyardSurveys$Row;" : Cond) ∈ GW := gw1 129 rfl rfl
set_option maxRecDepth 20000 in
theorem w_193 : (.laysFinal "HullyardSurveys" "HullyardSurveys" "firstHull" "LHullyardSurveys$Row;" : Cond) ∈ GW := gw1 131 rfl rfl
set_option maxRecDepth 20000 in
theorem w_195 : (.laysFinal "HullyardSurveys" "HullyardSurveys" "secondHull" "LHullyardSurveys$Row;" : Cond) ∈ GW := gw1 133 rfl rfl
set_option maxRecDepth 20000 in
theorem w_197 : (.laysFinal "HullyardSurveys" "HullyardSurveys" "parting" "LHullyardSurveys$Parting;" : Cond) ∈ GW := gw1 135 rfl rfl
set_option maxRecDepth 20000 in
theorem w_199 : (.laysFinal "HullyardSurveys" "HullyardSurveys" "census" "LHullyardSurveys$Census;" : Cond) ∈ GW := gw1 137 rfl rfl
set_option maxRecDepth 20000 in
theorem w_202 : (.methodLink "HullyardSurveysLaw" 190 ⟨"HullyardSurveys", "corners", "()I"⟩ : Cond) ∈ GW := gw1 140 rfl rfl
set_option maxRecDepth 20000 in
theorem w_203 : (.instanceMethod ⟨"HullyardSurveys", "corners", "()I"⟩ : Cond) ∈ GW := gw1 141 rfl rfl
set_option maxRecDepth 20000 in
theorem w_204 : (.selects "HullyardSurveys" ⟨"HullyardSurveys", "corners", "()I"⟩ ⟨"HullyardSurveys", "corners", "()I"⟩ : Cond) ∈ GW := gw1 142 rfl rfl
set_option maxRecDepth 20000 in
theorem w_205 : (.code ⟨"HullyardSurveys", "corners", "()I"⟩ prog_1_method_15_code 1 (some .int) : Cond) ∈ GW := gw1 143 rfl rfl
set_option maxRecDepth 20000 in
theorem w_206 : (.methodLink "HullyardSurveys" 68 ⟨"HullyardSurveys$Row", "size", "()I"⟩ : Cond) ∈ GW := gw1 144 rfl rfl
set_option maxRecDepth 20000 in
theorem w_207 : (.instanceMethod ⟨"HullyardSurveys$Row", "size", "()I"⟩ : Cond) ∈ GW := gw1 145 rfl rfl
set_option maxRecDepth 20000 in
theorem w_208 : (.selects "HullyardSurveys$Row" ⟨"HullyardSurveys$Row", "size", "()I"⟩ ⟨"HullyardSurveys$Row", "size", "()I"⟩ : Cond) ∈ GW := gw1 146 rfl rfl
set_option maxRecDepth 20000 in
theorem w_209 : (.code ⟨"HullyardSurveys$Row", "size", "()I"⟩ prog_6_method_2_code 1 (some .int) : Cond) ∈ GW := gw1 147 rfl rfl
set_option maxRecDepth 20000 in
theorem w_210 : (.methodLink "HullyardSurveysLaw" 198 ⟨"HullyardSurveys", "area", "()I"⟩ : Cond) ∈ GW := gw1 148 rfl rfl
set_option maxRecDepth 20000 in
theorem w_211 : (.instanceMethod ⟨"HullyardSurveys", "area", "()I"⟩ : Cond) ∈ GW := gw1 149 rfl rfl
set_option maxRecDepth 20000 in
theorem w_212 : (.selects "HullyardSurveys" ⟨"HullyardSurveys", "area", "()I"⟩ ⟨"HullyardSurveys", "area", "()I"⟩ : Cond) ∈ GW := gw1 150 rfl rfl
set_option maxRecDepth 20000 in
theorem w_213 : (.code ⟨"HullyardSurveys", "area", "()I"⟩ prog_1_method_17_code 1 (some .int) : Cond) ∈ GW := gw1 151 rfl rfl
set_option maxRecDepth 20000 in
theorem w_214 : (.methodLink "HullyardSurveys" 178 ⟨"HullyardSurveys$Shapes", "doubledArea", "(LHullyardSurveys$Row;)I"⟩ : Cond) ∈ GW := gw1 152 rfl rfl
set_option maxRecDepth 20000 in
theorem w_215 : (.static ⟨"HullyardSurveys$Shapes", "doubledArea", "(LHullyardSurveys$Row;)I"⟩ : Cond) ∈ GW := gw1 153 rfl rfl
set_option maxRecDepth 20000 in
theorem w_216 : (.code ⟨"HullyardSurveys$Shapes", "doubledArea", "(LHullyardSurveys$Row;)I"⟩ prog_7_method_5_code 4 (some .int) : Cond) ∈ GW := gw1 154 rfl rfl
set_option maxRecDepth 20000 in
theorem w_217 : (.methodLink "HullyardSurveys$Shapes" 25 ⟨"HullyardSurveys$Row", "size", "()I"⟩ : Cond) ∈ GW := gw1 155 rfl rfl
set_option maxRecDepth 20000 in
theorem w_218 : (.methodLink "HullyardSurveys$Shapes" 7 ⟨"HullyardSurveys$Row", "next", "(I)I"⟩ : Cond) ∈ GW := gw1 156 rfl rfl
set_option maxRecDepth 20000 in
theorem w_219 : (.instanceMethod ⟨"HullyardSurveys$Row", "next", "(I)I"⟩ : Cond) ∈ GW := gw1 157 rfl rfl
set_option maxRecDepth 20000 in
theorem w_220 : (.selects "HullyardSurveys$Row" ⟨"HullyardSurveys$Row", "next", "(I)I"⟩ ⟨"HullyardSurveys$Row", "next", "(I)I"⟩ : Cond) ∈ GW := gw1 158 rfl rfl
set_option maxRecDepth 20000 in
theorem w_221 : (.code ⟨"HullyardSurveys$Row", "next", "(I)I"⟩ prog_6_method_7_code 2 (some .int) : Cond) ∈ GW := gw1 159 rfl rfl
set_option maxRecDepth 20000 in
theorem w_222 : (.methodLink "HullyardSurveys$Shapes" 13 ⟨"HullyardSurveys$Row", "xAt", "(I)I"⟩ : Cond) ∈ GW := gw1 160 rfl rfl
set_option maxRecDepth 20000 in
theorem w_223 : (.instanceMethod ⟨"HullyardSurveys$Row", "xAt", "(I)I"⟩ : Cond) ∈ GW := gw1 161 rfl rfl
set_option maxRecDepth 20000 in
theorem w_224 : (.selects "HullyardSurveys$Row" ⟨"HullyardSurveys$Row", "xAt", "(I)I"⟩ ⟨"HullyardSurveys$Row", "xAt", "(I)I"⟩ : Cond) ∈ GW := gw1 162 rfl rfl
set_option maxRecDepth 20000 in
theorem w_225 : (.code ⟨"HullyardSurveys$Row", "xAt", "(I)I"⟩ prog_6_method_3_code 2 (some .int) : Cond) ∈ GW := gw1 163 rfl rfl
set_option maxRecDepth 20000 in
theorem w_226 : (.methodLink "HullyardSurveys$Shapes" 16 ⟨"HullyardSurveys$Row", "yAt", "(I)I"⟩ : Cond) ∈ GW := gw1 164 rfl rfl
set_option maxRecDepth 20000 in
theorem w_227 : (.instanceMethod ⟨"HullyardSurveys$Row", "yAt", "(I)I"⟩ : Cond) ∈ GW := gw1 165 rfl rfl
set_option maxRecDepth 20000 in
theorem w_228 : (.selects "HullyardSurveys$Row" ⟨"HullyardSurveys$Row", "yAt", "(I)I"⟩ ⟨"HullyardSurveys$Row", "yAt", "(I)I"⟩ : Cond) ∈ GW := gw1 166 rfl rfl
set_option maxRecDepth 20000 in
theorem w_229 : (.code ⟨"HullyardSurveys$Row", "yAt", "(I)I"⟩ prog_6_method_4_code 2 (some .int) : Cond) ∈ GW := gw1 167 rfl rfl
set_option maxRecDepth 20000 in
theorem w_230 : (.methodLink "HullyardSurveysLaw" 202 ⟨"HullyardSurveys", "edge", "()I"⟩ : Cond) ∈ GW := gw1 168 rfl rfl
set_option maxRecDepth 20000 in
theorem w_231 : (.instanceMethod ⟨"HullyardSurveys", "edge", "()I"⟩ : Cond) ∈ GW := gw1 169 rfl rfl
set_option maxRecDepth 20000 in
theorem w_232 : (.selects "HullyardSurveys" ⟨"HullyardSurveys", "edge", "()I"⟩ ⟨"HullyardSurveys", "edge", "()I"⟩ : Cond) ∈ GW := gw1 170 rfl rfl
set_option maxRecDepth 20000 in
theorem w_233 : (.code ⟨"HullyardSurveys", "edge", "()I"⟩ prog_1_method_18_code 1 (some .int) : Cond) ∈ GW := gw1 171 rfl rfl
set_option maxRecDepth 20000 in
theorem w_234 : (.methodLink "HullyardSurveys" 184 ⟨"HullyardSurveys$Shapes", "stepsAlong", "(LHullyardSurveys$Row;I)I"⟩ : Cond) ∈ GW := gw1 172 rfl rfl
set_option maxRecDepth 20000 in
theorem w_235 : (.static ⟨"HullyardSurveys$Shapes", "stepsAlong", "(LHullyardSurveys$Row;I)I"⟩ : Cond) ∈ GW := gw1 173 rfl rfl
set_option maxRecDepth 20000 in
theorem w_236 : (.code ⟨"HullyardSurveys$Shapes", "stepsAlong", "(LHullyardSurveys$Row;I)I"⟩ prog_7_method_6_code 2 (some .int) : Cond) ∈ GW := gw1 174 rfl rfl
set_option maxRecDepth 20000 in
theorem w_237 : (.methodLink "HullyardSurveys$Shapes" 29 ⟨"HullyardSurveys$Shapes", "runOf", "(LHullyardSurveys$Row;I)I"⟩ : Cond) ∈ GW := gw1 175 rfl rfl
set_option maxRecDepth 20000 in
theorem w_238 : (.static ⟨"HullyardSurveys$Shapes", "runOf", "(LHullyardSurveys$Row;I)I"⟩ : Cond) ∈ GW := gw1 176 rfl rfl
set_option maxRecDepth 20000 in
theorem w_239 : (.code ⟨"HullyardSurveys$Shapes", "runOf", "(LHullyardSurveys$Row;I)I"⟩ prog_7_method_2_code 2 (some .int) : Cond) ∈ GW := gw1 177 rfl rfl
set_option maxRecDepth 20000 in
theorem w_240 : (.methodLink "HullyardSurveys$Shapes" 35 ⟨"HullyardSurveys$Shapes", "riseOf", "(LHullyardSurveys$Row;I)I"⟩ : Cond) ∈ GW := gw1 178 rfl rfl
set_option maxRecDepth 20000 in
theorem w_241 : (.static ⟨"HullyardSurveys$Shapes", "riseOf", "(LHullyardSurveys$Row;I)I"⟩ : Cond) ∈ GW := gw1 179 rfl rfl
set_option maxRecDepth 20000 in
theorem w_242 : (.code ⟨"HullyardSurveys$Shapes", "riseOf", "(LHullyardSurveys$Row;I)I"⟩ prog_7_method_3_code 2 (some .int) : Cond) ∈ GW := gw1 180 rfl rfl
set_option maxRecDepth 20000 in
theorem w_243 : (.methodLink "HullyardSurveys$Shapes" 38 ⟨"HullyardSurveys$Plane", "commonDivisor", "(JJ)J"⟩ : Cond) ∈ GW := gw1 181 rfl rfl
set_option maxRecDepth 20000 in
theorem w_244 : (.static ⟨"HullyardSurveys$Plane", "commonDivisor", "(JJ)J"⟩ : Cond) ∈ GW := gw1 182 rfl rfl
set_option maxRecDepth 20000 in
theorem w_245 : (.code ⟨"HullyardSurveys$Plane", "commonDivisor", "(JJ)J"⟩ prog_5_method_9_code 11 (some .long) : Cond) ∈ GW := gw1 183 rfl rfl
set_option maxRecDepth 20000 in
theorem w_246 : (.methodLink "HullyardSurveys$Plane" 51 ⟨"java/lang/Math", "abs", "(J)J"⟩ : Cond) ∈ GW := gw1 184 rfl rfl
set_option maxRecDepth 20000 in
theorem w_247 : (.static ⟨"java/lang/Math", "abs", "(J)J"⟩ : Cond) ∈ GW := gw1 185 rfl rfl
set_option maxRecDepth 20000 in
theorem w_248 : (.code ⟨"java/lang/Math", "abs", "(J)J"⟩ Lib.MathLoose.abs_long.code 2 (some .long) : Cond) ∈ GW := gw1 186 rfl rfl
set_option maxRecDepth 20000 in
theorem w_249 : (.methodLink "HullyardSurveys" 188 ⟨"HullyardSurveys$Shapes", "stepsRound", "(LHullyardSurveys$Row;)I"⟩ : Cond) ∈ GW := gw1 187 rfl rfl
set_option maxRecDepth 20000 in
theorem w_250 : (.static ⟨"HullyardSurveys$Shapes", "stepsRound", "(LHullyardSurveys$Row;)I"⟩ : Cond) ∈ GW := gw1 188 rfl rfl
set_option maxRecDepth 20000 in
theorem w_251 : (.code ⟨"HullyardSurveys$Shapes", "stepsRound", "(LHullyardSurveys$Row;)I"⟩ prog_7_method_7_code 3 (some .int) : Cond) ∈ GW := gw1 189 rfl rfl
set_option maxRecDepth 20000 in
theorem w_252 : (.methodLink "HullyardSurveys$Shapes" 42 ⟨"HullyardSurveys$Shapes", "stepsAlong", "(LHullyardSurveys$Row;I)I"⟩ : Cond) ∈ GW := gw1 190 rfl rfl
set_option maxRecDepth 20000 in
theorem w_253 : (.methodLink "HullyardSurveysLaw" 206 ⟨"HullyardSurveys", "inner", "()I"⟩ : Cond) ∈ GW := gw1 191 rfl rfl
set_option maxRecDepth 20000 in
theorem w_254 : (.instanceMethod ⟨"HullyardSurveys", "inner", "()I"⟩ : Cond) ∈ GW := gw1 192 rfl rfl
set_option maxRecDepth 20000 in
theorem w_255 : (.selects "HullyardSurveys" ⟨"HullyardSurveys", "inner", "()I"⟩ ⟨"HullyardSurveys", "inner", "()I"⟩ : Cond) ∈ GW := gw1 193 rfl rfl
set_option maxRecDepth 20000 in
theorem w_256 : (.code ⟨"HullyardSurveys", "inner", "()I"⟩ prog_1_method_19_code 1 (some .int) : Cond) ∈ GW := gw1 194 rfl rfl
set_option maxRecDepth 20000 in
theorem w_257 : (.methodLink "HullyardSurveys" 191 ⟨"HullyardSurveys$Shapes", "placesInside", "(LHullyardSurveys$Row;)I"⟩ : Cond) ∈ GW := gw1 195 rfl rfl
set_option maxRecDepth 20000 in
theorem w_258 : (.static ⟨"HullyardSurveys$Shapes", "placesInside", "(LHullyardSurveys$Row;)I"⟩ : Cond) ∈ GW := gw1 196 rfl rfl
set_option maxRecDepth 20000 in
theorem w_259 : (.code ⟨"HullyardSurveys$Shapes", "placesInside", "(LHullyardSurveys$Row;)I"⟩ prog_7_method_8_code 1 (some .int) : Cond) ∈ GW := gw1 197 rfl rfl
set_option maxRecDepth 20000 in
theorem w_260 : (.methodLink "HullyardSurveys$Shapes" 45 ⟨"HullyardSurveys$Shapes", "doubledArea", "(LHullyardSurveys$Row;)I"⟩ : Cond) ∈ GW := gw1 198 rfl rfl
set_option maxRecDepth 20000 in
theorem w_261 : (.methodLink "HullyardSurveys$Shapes" 49 ⟨"java/lang/Math", "abs", "(I)I"⟩ : Cond) ∈ GW := gw1 199 rfl rfl
set_option maxRecDepth 20000 in
theorem w_262 : (.static ⟨"java/lang/Math", "abs", "(I)I"⟩ : Cond) ∈ GW := gw1 200 rfl rfl
set_option maxRecDepth 20000 in
theorem w_263 : (.code ⟨"java/lang/Math", "abs", "(I)I"⟩ Lib.Math.abs.code 1 (some .int) : Cond) ∈ GW := gw1 201 rfl rfl
set_option maxRecDepth 20000 in
theorem w_264 : (.methodLink "HullyardSurveys$Shapes" 54 ⟨"HullyardSurveys$Shapes", "stepsRound", "(LHullyardSurveys$Row;)I"⟩ : Cond) ∈ GW := gw1 202 rfl rfl
set_option maxRecDepth 20000 in
theorem w_265 : (.methodLink "HullyardSurveysLaw" 210 ⟨"HullyardSurveys", "lies", "(II)I"⟩ : Cond) ∈ GW := gw1 203 rfl rfl
set_option maxRecDepth 20000 in
theorem w_266 : (.instanceMethod ⟨"HullyardSurveys", "lies", "(II)I"⟩ : Cond) ∈ GW := gw1 204 rfl rfl
set_option maxRecDepth 20000 in
theorem w_267 : (.selects "HullyardSurveys" ⟨"HullyardSurveys", "lies", "(II)I"⟩ ⟨"HullyardSurveys", "lies", "(II)I"⟩ : Cond) ∈ GW := gw1 205 rfl rfl
set_option maxRecDepth 20000 in
theorem w_268 : (.code ⟨"HullyardSurveys", "lies", "(II)I"⟩ prog_1_method_20_code 3 (some .int) : Cond) ∈ GW := gw1 206 rfl rfl
set_option maxRecDepth 20000 in
theorem w_269 : (.methodLink "HullyardSurveys" 194 ⟨"HullyardSurveys$Shapes", "whereIs", "(LHullyardSurveys$Row;IJJ)I"⟩ : Cond) ∈ GW := gw1 207 rfl rfl
set_option maxRecDepth 20000 in
theorem w_270 : (.static ⟨"HullyardSurveys$Shapes", "whereIs", "(LHullyardSurveys$Row;IJJ)I"⟩ : Cond) ∈ GW := gw1 208 rfl rfl
set_option maxRecDepth 20000 in
theorem w_271 : (.code ⟨"HullyardSurveys$Shapes", "whereIs", "(LHullyardSurveys$Row;IJJ)I"⟩ prog_7_method_9_code 18 (some .int) : Cond) ∈ GW := gw1 209 rfl rfl
set_option maxRecDepth 20000 in
theorem w_272 : (.methodLink "HullyardSurveys$Shapes" 57 ⟨"HullyardSurveys$Plane", "isOn", "(JJJJJJ)Z"⟩ : Cond) ∈ GW := gw1 210 rfl rfl
set_option maxRecDepth 20000 in
theorem w_273 : (.static ⟨"HullyardSurveys$Plane", "isOn", "(JJJJJJ)Z"⟩ : Cond) ∈ GW := gw1 211 rfl rfl
set_option maxRecDepth 20000 in
theorem w_274 : (.code ⟨"HullyardSurveys$Plane", "isOn", "(JJJJJJ)Z"⟩ prog_5_method_4_code 12 (some .boolean) : Cond) ∈ GW := gw1 212 rfl rfl
set_option maxRecDepth 20000 in
theorem w_275 : (.methodLink "HullyardSurveys$Plane" 7 ⟨"java/lang/Math", "min", "(JJ)J"⟩ : Cond) ∈ GW := gw1 213 rfl rfl
set_option maxRecDepth 20000 in
theorem w_276 : (.static ⟨"java/lang/Math", "min", "(JJ)J"⟩ : Cond) ∈ GW := gw1 214 rfl rfl
set_option maxRecDepth 20000 in
theorem w_277 : (.code ⟨"java/lang/Math", "min", "(JJ)J"⟩ Lib.MathLoose.min_long.code 4 (some .long) : Cond) ∈ GW := gw1 215 rfl rfl
set_option maxRecDepth 20000 in
theorem w_278 : (.methodLink "HullyardSurveys$Plane" 13 ⟨"java/lang/Math", "max", "(JJ)J"⟩ : Cond) ∈ GW := gw1 216 rfl rfl
set_option maxRecDepth 20000 in
theorem w_279 : (.static ⟨"java/lang/Math", "max", "(JJ)J"⟩ : Cond) ∈ GW := gw1 217 rfl rfl
set_option maxRecDepth 20000 in
theorem w_280 : (.code ⟨"java/lang/Math", "max", "(JJ)J"⟩ Lib.MathLoose.max_long.code 4 (some .long) : Cond) ∈ GW := gw1 218 rfl rfl
set_option maxRecDepth 20000 in
theorem w_281 : (.methodLink "HullyardSurveys$Plane" 16 ⟨"HullyardSurveys$Plane", "twist", "(JJJJJJ)J"⟩ : Cond) ∈ GW := gw1 219 rfl rfl
set_option maxRecDepth 20000 in
theorem w_282 : (.static ⟨"HullyardSurveys$Plane", "twist", "(JJJJJJ)J"⟩ : Cond) ∈ GW := gw1 220 rfl rfl
set_option maxRecDepth 20000 in
theorem w_283 : (.code ⟨"HullyardSurveys$Plane", "twist", "(JJJJJJ)J"⟩ prog_5_method_2_code 12 (some .long) : Cond) ∈ GW := gw1 221 rfl rfl
set_option maxRecDepth 20000 in
theorem w_284 : (.methodLink "HullyardSurveys$Shapes" 19 ⟨"HullyardSurveys$Plane", "twist", "(JJJJJJ)J"⟩ : Cond) ∈ GW := gw1 222 rfl rfl
set_option maxRecDepth 20000 in
theorem w_285 : (.methodLink "HullyardSurveysLaw" 258 ⟨"HullyardSurveys", "clearLines", "()I"⟩ : Cond) ∈ GW := gw1 223 rfl rfl
set_option maxRecDepth 20000 in
theorem w_286 : (.instanceMethod ⟨"HullyardSurveys", "clearLines", "()I"⟩ : Cond) ∈ GW := gw1 224 rfl rfl
set_option maxRecDepth 20000 in
theorem w_287 : (.selects "HullyardSurveys" ⟨"HullyardSurveys", "clearLines", "()I"⟩ ⟨"HullyardSurveys", "clearLines", "()I"⟩ : Cond) ∈ GW := gw1 225 rfl rfl
set_option maxRecDepth 20000 in
theorem w_288 : (.code ⟨"HullyardSurveys", "clearLines", "()I"⟩ prog_1_method_35_code 2 (some .int) : Cond) ∈ GW := gw1 226 rfl rfl
set_option maxRecDepth 20000 in
theorem w_289 : (.methodLink "HullyardSurveys" 229 ⟨"HullyardSurveys$Yard", "lineCount", "()I"⟩ : Cond) ∈ GW := gw1 227 rfl rfl
set_option maxRecDepth 20000 in
theorem w_290 : (.instanceMethod ⟨"HullyardSurveys$Yard", "lineCount", "()I"⟩ : Cond) ∈ GW := gw1 228 rfl rfl
set_option maxRecDepth 20000 in
theorem w_291 : (.selects "HullyardSurveys$Yard" ⟨"HullyardSurveys$Yard", "lineCount", "()I"⟩ ⟨"HullyardSurveys$Yard", "lineCount", "()I"⟩ : Cond) ∈ GW := gw1 229 rfl rfl
set_option maxRecDepth 20000 in
theorem w_292 : (.code ⟨"HullyardSurveys$Yard", "lineCount", "()I"⟩ prog_8_method_8_code 1 (some .int) : Cond) ∈ GW := gw1 230 rfl rfl
set_option maxRecDepth 20000 in
theorem w_293 : (.methodLink "HullyardSurveys$Yard" 30 ⟨"HullyardSurveys$Row", "size", "()I"⟩ : Cond) ∈ GW := gw1 231 rfl rfl
set_option maxRecDepth 20000 in
theorem w_294 : (.methodLink "HullyardSurveys" 168 ⟨"HullyardSurveys$Row", "reset", "()V"⟩ : Cond) ∈ GW := gw1 232 rfl rfl
set_option maxRecDepth 20000 in
theorem w_295 : (.instanceMethod ⟨"HullyardSurveys$Row", "reset", "()V"⟩ : Cond) ∈ GW := gw1 233 rfl rfl
set_option maxRecDepth 20000 in
theorem w_296 : (.selects "HullyardSurveys$Row" ⟨"HullyardSurveys$Row", "reset", "()V"⟩ ⟨"HullyardSurveys$Row", "reset", "()V"⟩ : Cond) ∈ GW := gw1 234 rfl rfl
set_option maxRecDepth 20000 in
theorem w_297 : (.code ⟨"HullyardSurveys$Row", "reset", "()V"⟩ prog_6_method_10_code 1 none : Cond) ∈ GW := gw1 235 rfl rfl
set_option maxRecDepth 20000 in
theorem w_298 : (.methodLink "HullyardSurveysLaw" 265 ⟨"HullyardSurveys", "crossings", "()I"⟩ : Cond) ∈ GW := gw1 236 rfl rfl
set_option maxRecDepth 20000 in
theorem w_299 : (.instanceMethod ⟨"HullyardSurveys", "crossings", "()I"⟩ : Cond) ∈ GW := gw1 237 rfl rfl
set_option maxRecDepth 20000 in
theorem w_300 : (.selects "HullyardSurveys" ⟨"HullyardSurveys", "crossings", "()I"⟩ ⟨"HullyardSurveys", "crossings", "()I"⟩ : Cond) ∈ GW := gw1 238 rfl rfl
set_option maxRecDepth 20000 in
theorem w_301 : (.code ⟨"HullyardSurveys", "crossings", "()I"⟩ prog_1_method_37_code 4 (some .int) : Cond) ∈ GW := gw1 239 rfl rfl
set_option maxRecDepth 20000 in
theorem w_302 : (.methodLink "HullyardSurveys" 240 ⟨"HullyardSurveys$Yard", "linesMeet", "(II)Z"⟩ : Cond) ∈ GW := gw2 0 rfl rfl
set_option maxRecDepth 20000 in
theorem w_303 : (.instanceMethod ⟨"HullyardSurveys$Yard", "linesMeet", "(II)Z"⟩ : Cond) ∈ GW := gw2 1 rfl rfl
set_option maxRecDepth 20000 in
theorem w_304 : (.selects "HullyardSurveys$Yard" ⟨"HullyardSurveys$Yard", "linesMeet", "(II)Z"⟩ ⟨"HullyardSurveys$Yard", "linesMeet", "(II)Z"⟩ : Cond) ∈ GW := gw2 2 rfl rfl
set_option maxRecDepth 20000 in
theorem w_305 : (.code ⟨"HullyardSurveys$Yard", "linesMeet", "(II)Z"⟩ prog_8_method_9_code 3 (some .boolean) : Cond) ∈ GW := gw2 3 rfl rfl
set_option maxRecDepth 20000 in
theorem w_306 : (.methodLink "HullyardSurveys$Yard" 52 ⟨"HullyardSurveys$Plane", "meet", "(LHullyardSurveys$Row;IILHullyardSurveys$Row;II)Z"⟩ : Cond) ∈ GW := gw2 4 rfl rfl
set_option maxRecDepth 20000 in
theorem w_307 : (.static ⟨"HullyardSurveys$Plane", "meet", "(LHullyardSurveys$Row;IILHullyardSurveys$Row;II)Z"⟩ : Cond) ∈ GW := gw2 5 rfl rfl
set_option maxRecDepth 20000 in
theorem w_308 : (.code ⟨"HullyardSurveys$Plane", "meet", "(LHullyardSurveys$Row;IILHullyardSurveys$Row;II)Z"⟩ prog_5_method_8_code 6 (some .boolean) : Cond) ∈ GW := gw2 6 rfl rfl
set_option maxRecDepth 20000 in
theorem w_309 : (.methodLink "HullyardSurveys$Plane" 43 ⟨"HullyardSurveys$Plane", "passThrough", "(LHullyardSurveys$Row;IILHullyardSurveys$Row;II)Z"⟩ : Cond) ∈ GW := gw2 7 rfl rfl
set_option maxRecDepth 20000 in
theorem w_310 : (.static ⟨"HullyardSurveys$Plane", "passThrough", "(LHullyardSurveys$Row;IILHullyardSurveys$Row;II)Z"⟩ : Cond) ∈ GW := gw2 8 rfl rfl
set_option maxRecDepth 20000 in
theorem w_311 : (.code ⟨"HullyardSurveys$Plane", "passThrough", "(LHullyardSurveys$Row;IILHullyardSurveys$Row;II)Z"⟩ prog_5_method_7_code 6 (some .boolean) : Cond) ∈ GW := gw2 9 rfl rfl
set_option maxRecDepth 20000 in
theorem w_312 : (.methodLink "HullyardSurveys$Plane" 39 ⟨"HullyardSurveys$Plane", "side", "(LHullyardSurveys$Row;IILHullyardSurveys$Row;I)I"⟩ : Cond) ∈ GW := gw2 10 rfl rfl
set_option maxRecDepth 20000 in
theorem w_313 : (.static ⟨"HullyardSurveys$Plane", "side", "(LHullyardSurveys$Row;IILHullyardSurveys$Row;I)I"⟩ : Cond) ∈ GW := gw2 11 rfl rfl
set_option maxRecDepth 20000 in
theorem w_314 : (.code ⟨"HullyardSurveys$Plane", "side", "(LHullyardSurveys$Row;IILHullyardSurveys$Row;I)I"⟩ prog_5_method_6_code 7 (some .int) : Cond) ∈ GW := gw2 12 rfl rfl
set_option maxRecDepth 20000 in
theorem w_315 : (.methodLink "HullyardSurveys$Plane" 22 ⟨"HullyardSurveys$Row", "xAt", "(I)I"⟩ : Cond) ∈ GW := gw2 13 rfl rfl
set_option maxRecDepth 20000 in
theorem w_316 : (.methodLink "HullyardSurveys$Plane" 28 ⟨"HullyardSurveys$Row", "yAt", "(I)I"⟩ : Cond) ∈ GW := gw2 14 rfl rfl
set_option maxRecDepth 20000 in
theorem w_317 : (.methodLink "HullyardSurveys$Plane" 35 ⟨"HullyardSurveys$Plane", "signOf", "(J)I"⟩ : Cond) ∈ GW := gw2 15 rfl rfl
set_option maxRecDepth 20000 in
theorem w_318 : (.static ⟨"HullyardSurveys$Plane", "signOf", "(J)I"⟩ : Cond) ∈ GW := gw2 16 rfl rfl
set_option maxRecDepth 20000 in
theorem w_319 : (.code ⟨"HullyardSurveys$Plane", "signOf", "(J)I"⟩ prog_5_method_3_code 2 (some .int) : Cond) ∈ GW := gw2 17 rfl rfl
set_option maxRecDepth 20000 in
theorem w_320 : (.methodLink "HullyardSurveys$Plane" 47 ⟨"HullyardSurveys$Plane", "isBetween", "(LHullyardSurveys$Row;IILHullyardSurveys$Row;I)Z"⟩ : Cond) ∈ GW := gw2 18 rfl rfl
set_option maxRecDepth 20000 in
theorem w_321 : (.static ⟨"HullyardSurveys$Plane", "isBetween", "(LHullyardSurveys$Row;IILHullyardSurveys$Row;I)Z"⟩ : Cond) ∈ GW := gw2 19 rfl rfl
set_option maxRecDepth 20000 in
theorem w_322 : (.code ⟨"HullyardSurveys$Plane", "isBetween", "(LHullyardSurveys$Row;IILHullyardSurveys$Row;I)Z"⟩ prog_5_method_5_code 5 (some .boolean) : Cond) ∈ GW := gw2 20 rfl rfl
set_option maxRecDepth 20000 in
theorem w_323 : (.methodLink "HullyardSurveys$Plane" 31 ⟨"HullyardSurveys$Plane", "isOn", "(JJJJJJ)Z"⟩ : Cond) ∈ GW := gw2 21 rfl rfl
set_option maxRecDepth 20000 in
theorem w_324 : (.methodLink "HullyardSurveysLaw" 287 ⟨"HullyardSurveys", "image", "()I"⟩ : Cond) ∈ GW := gw2 22 rfl rfl
set_option maxRecDepth 20000 in
theorem w_325 : (.instanceMethod ⟨"HullyardSurveys", "image", "()I"⟩ : Cond) ∈ GW := gw2 23 rfl rfl
set_option maxRecDepth 20000 in
theorem w_326 : (.selects "HullyardSurveys" ⟨"HullyardSurveys", "image", "()I"⟩ ⟨"HullyardSurveys", "image", "()I"⟩ : Cond) ∈ GW := gw2 24 rfl rfl
set_option maxRecDepth 20000 in
theorem w_327 : (.code ⟨"HullyardSurveys", "image", "()I"⟩ prog_1_method_44_code 1 (some .int) : Cond) ∈ GW := gw2 25 rfl rfl
set_option maxRecDepth 20000 in
theorem w_328 : (.methodLink "HullyardSurveys" 270 ⟨"HullyardSurveys$Yard", "copyFrom", "(LHullyardSurveys$Yard;)V"⟩ : Cond) ∈ GW := gw2 26 rfl rfl
set_option maxRecDepth 20000 in
theorem w_329 : (.instanceMethod ⟨"HullyardSurveys$Yard", "copyFrom", "(LHullyardSurveys$Yard;)V"⟩ : Cond) ∈ GW := gw2 27 rfl rfl
set_option maxRecDepth 20000 in
theorem w_330 : (.selects "HullyardSurveys$Yard" ⟨"HullyardSurveys$Yard", "copyFrom", "(LHullyardSurveys$Yard;)V"⟩ ⟨"HullyardSurveys$Yard", "copyFrom", "(LHullyardSurveys$Yard;)V"⟩ : Cond) ∈ GW := gw2 28 rfl rfl
set_option maxRecDepth 20000 in
theorem w_331 : (.code ⟨"HullyardSurveys$Yard", "copyFrom", "(LHullyardSurveys$Yard;)V"⟩ prog_8_method_10_code 3 none : Cond) ∈ GW := gw2 29 rfl rfl
set_option maxRecDepth 20000 in
theorem w_332 : (.methodLink "HullyardSurveys$Yard" 58 ⟨"HullyardSurveys$Row", "copyFrom", "(LHullyardSurveys$Row;)V"⟩ : Cond) ∈ GW := gw2 30 rfl rfl
set_option maxRecDepth 20000 in
theorem w_333 : (.instanceMethod ⟨"HullyardSurveys$Row", "copyFrom", "(LHullyardSurveys$Row;)V"⟩ : Cond) ∈ GW := gw2 31 rfl rfl
set_option maxRecDepth 20000 in
theorem w_334 : (.selects "HullyardSurveys$Row" ⟨"HullyardSurveys$Row", "copyFrom", "(LHullyardSurveys$Row;)V"⟩ ⟨"HullyardSurveys$Row", "copyFrom", "(LHullyardSurveys$Row;)V"⟩ : Cond) ∈ GW := gw2 32 rfl rfl
set_option maxRecDepth 20000 in
theorem w_335 : (.code ⟨"HullyardSurveys$Row", "copyFrom", "(LHullyardSurveys$Row;)V"⟩ prog_6_method_15_code 3 none : Cond) ∈ GW := gw2 33 rfl rfl
set_option maxRecDepth 20000 in
theorem w_336 : (.methodLink "HullyardSurveys$Row" 47 ⟨"HullyardSurveys$Row", "reset", "()V"⟩ : Cond) ∈ GW := gw2 34 rfl rfl
set_option maxRecDepth 20000 in
theorem w_337 : (.methodLink "HullyardSurveys$Row" 29 ⟨"HullyardSurveys$Row", "xAt", "(I)I"⟩ : Cond) ∈ GW := gw2 35 rfl rfl
set_option maxRecDepth 20000 in
theorem w_338 : (.methodLink "HullyardSurveys$Row" 33 ⟨"HullyardSurveys$Row", "yAt", "(I)I"⟩ : Cond) ∈ GW := gw2 36 rfl rfl
set_option maxRecDepth 20000 in
theorem w_339 : (.methodLink "HullyardSurveys$Row" 44 ⟨"HullyardSurveys$Row", "markAt", "(I)I"⟩ : Cond) ∈ GW := gw2 37 rfl rfl
set_option maxRecDepth 20000 in
theorem w_340 : (.instanceMethod ⟨"HullyardSurveys$Row", "markAt", "(I)I"⟩ : Cond) ∈ GW := gw2 38 rfl rfl
set_option maxRecDepth 20000 in
theorem w_341 : (.selects "HullyardSurveys$Row" ⟨"HullyardSurveys$Row", "markAt", "(I)I"⟩ ⟨"HullyardSurveys$Row", "markAt", "(I)I"⟩ : Cond) ∈ GW := gw2 39 rfl rfl
set_option maxRecDepth 20000 in
theorem w_342 : (.code ⟨"HullyardSurveys$Row", "markAt", "(I)I"⟩ prog_6_method_5_code 2 (some .int) : Cond) ∈ GW := gw2 40 rfl rfl
set_option maxRecDepth 20000 in
theorem w_343 : (.methodLink "HullyardSurveys$Row" 50 ⟨"HullyardSurveys$Row", "append", "(III)V"⟩ : Cond) ∈ GW := gw2 41 rfl rfl
set_option maxRecDepth 20000 in
theorem w_344 : (.instanceMethod ⟨"HullyardSurveys$Row", "append", "(III)V"⟩ : Cond) ∈ GW := gw2 42 rfl rfl
set_option maxRecDepth 20000 in
theorem w_345 : (.selects "HullyardSurveys$Row" ⟨"HullyardSurveys$Row", "append", "(III)V"⟩ ⟨"HullyardSurveys$Row", "append", "(III)V"⟩ : Cond) ∈ GW := gw2 43 rfl rfl
set_option maxRecDepth 20000 in
theorem w_346 : (.code ⟨"HullyardSurveys$Row", "append", "(III)V"⟩ prog_6_method_12_code 4 none : Cond) ∈ GW := gw2 44 rfl rfl
set_option maxRecDepth 20000 in
theorem w_347 : (.methodLink "HullyardSurveys$Row" 36 ⟨"HullyardSurveys$Row", "put", "(IIII)V"⟩ : Cond) ∈ GW := gw2 45 rfl rfl
set_option maxRecDepth 20000 in
theorem w_349 : (.instanceMethod ⟨"HullyardSurveys$Row", "put", "(IIII)V"⟩ : Cond) ∈ GW := gw2 47 rfl rfl
set_option maxRecDepth 20000 in
theorem w_350 : (.code ⟨"HullyardSurveys$Row", "put", "(IIII)V"⟩ prog_6_method_17_code 5 none : Cond) ∈ GW := gw2 48 rfl rfl
set_option maxRecDepth 20000 in
theorem w_351 : (.methodLink "HullyardSurveys$Yard" 62 ⟨"HullyardSurveys$Yard", "polygonAt", "(I)LHullyardSurveys$Row;"⟩ : Cond) ∈ GW := gw2 49 rfl rfl
set_option maxRecDepth 20000 in
theorem w_352 : (.instanceMethod ⟨"HullyardSurveys$Yard", "polygonAt", "(I)LHullyardSurveys$Row;"⟩ : Cond) ∈ GW := gw2 50 rfl rfl
set_option maxRecDepth 20000 in
theorem w_353 : (.selects "HullyardSurveys$Yard" ⟨"HullyardSurveys$Yard", "polygonAt", "(I)LHullyardSurveys$Row;"⟩ ⟨"HullyardSurveys$Yard", "polygonAt", "(I)LHullyardSurveys$Row;"⟩ : Cond) ∈ GW := gw2 51 rfl rfl
set_option maxRecDepth 20000 in
theorem w_354 : (.code ⟨"HullyardSurveys$Yard", "polygonAt", "(I)LHullyardSurveys$Row;"⟩ prog_8_method_2_code 3 (some (.object "HullyardSurveys$Row")) : Cond) ∈ GW := gw2 52 rfl rfl
set_option maxRecDepth 20000 in
theorem w_355 : (.methodLink "HullyardSurveysLaw" 295 ⟨"HullyardSurveys", "checksum", "()I"⟩ : Cond) ∈ GW := gw2 53 rfl rfl
set_option maxRecDepth 20000 in
theorem w_356 : (.instanceMethod ⟨"HullyardSurveys", "checksum", "()I"⟩ : Cond) ∈ GW := gw2 54 rfl rfl
set_option maxRecDepth 20000 in
theorem w_357 : (.selects "HullyardSurveys" ⟨"HullyardSurveys", "checksum", "()I"⟩ ⟨"HullyardSurveys", "checksum", "()I"⟩ : Cond) ∈ GW := gw2 55 rfl rfl
set_option maxRecDepth 20000 in
theorem w_358 : (.code ⟨"HullyardSurveys", "checksum", "()I"⟩ prog_1_method_46_code 3 (some .int) : Cond) ∈ GW := gw2 56 rfl rfl
set_option maxRecDepth 20000 in
theorem w_359 : (.methodLink "HullyardSurveys" 96 ⟨"HullyardSurveys$Row", "xAt", "(I)I"⟩ : Cond) ∈ GW := gw2 57 rfl rfl
set_option maxRecDepth 20000 in
theorem w_360 : (.methodLink "HullyardSurveys" 99 ⟨"HullyardSurveys$Row", "yAt", "(I)I"⟩ : Cond) ∈ GW := gw2 58 rfl rfl
set_option maxRecDepth 20000 in
theorem w_361 : (.methodLink "HullyardSurveysLaw" 303 ⟨"HullyardSurveys", "fills", "()F"⟩ : Cond) ∈ GW := gw2 59 rfl rfl
set_option maxRecDepth 20000 in
theorem w_362 : (.instanceMethod ⟨"HullyardSurveys", "fills", "()F"⟩ : Cond) ∈ GW := gw2 60 rfl rfl
set_option maxRecDepth 20000 in
theorem w_363 : (.selects "HullyardSurveys" ⟨"HullyardSurveys", "fills", "()F"⟩ ⟨"HullyardSurveys", "fills", "()F"⟩ : Cond) ∈ GW := gw2 61 rfl rfl
set_option maxRecDepth 20000 in
theorem w_364 : (.code ⟨"HullyardSurveys", "fills", "()F"⟩ prog_1_method_48_code 4 (some .float) : Cond) ∈ GW := gw2 62 rfl rfl
set_option maxRecDepth 20000 in
theorem w_365 : (.methodLink "HullyardSurveys" 256 ⟨"HullyardSurveys$Shapes", "bound", "(LHullyardSurveys$Row;I)I"⟩ : Cond) ∈ GW := gw2 63 rfl rfl
set_option maxRecDepth 20000 in
theorem w_366 : (.static ⟨"HullyardSurveys$Shapes", "bound", "(LHullyardSurveys$Row;I)I"⟩ : Cond) ∈ GW := gw2 64 rfl rfl
set_option maxRecDepth 20000 in
theorem w_367 : (.code ⟨"HullyardSurveys$Shapes", "bound", "(LHullyardSurveys$Row;I)I"⟩ prog_7_method_10_code 6 (some .int) : Cond) ∈ GW := gw2 65 rfl rfl
set_option maxRecDepth 20000 in
theorem w_368 : (.methodLink "HullyardSurveysLaw" 308 ⟨"HullyardSurveys", "errors", "()I"⟩ : Cond) ∈ GW := gw2 66 rfl rfl
set_option maxRecDepth 20000 in
theorem w_369 : (.instanceMethod ⟨"HullyardSurveys", "errors", "()I"⟩ : Cond) ∈ GW := gw2 67 rfl rfl
set_option maxRecDepth 20000 in
theorem w_370 : (.selects "HullyardSurveys" ⟨"HullyardSurveys", "errors", "()I"⟩ ⟨"HullyardSurveys", "errors", "()I"⟩ : Cond) ∈ GW := gw2 68 rfl rfl
set_option maxRecDepth 20000 in
theorem w_371 : (.code ⟨"HullyardSurveys", "errors", "()I"⟩ prog_1_method_49_code 4 (some .int) : Cond) ∈ GW := gw2 69 rfl rfl
set_option maxRecDepth 20000 in
theorem w_372 : (.methodLink "HullyardSurveys" 279 ⟨"HullyardSurveys", "hasStray", "(I)Z"⟩ : Cond) ∈ GW := gw2 70 rfl rfl
set_option maxRecDepth 20000 in
theorem w_374 : (.instanceMethod ⟨"HullyardSurveys", "hasStray", "(I)Z"⟩ : Cond) ∈ GW := gw2 72 rfl rfl
set_option maxRecDepth 20000 in
theorem w_375 : (.code ⟨"HullyardSurveys", "hasStray", "(I)Z"⟩ prog_1_method_63_code 3 (some .boolean) : Cond) ∈ GW := gw2 73 rfl rfl
set_option maxRecDepth 20000 in
theorem w_376 : (.methodLink "HullyardSurveys" 107 ⟨"HullyardSurveys", "orderHeap", "(I)V"⟩ : Cond) ∈ GW := gw2 74 rfl rfl
set_option maxRecDepth 20000 in
theorem w_378 : (.instanceMethod ⟨"HullyardSurveys", "orderHeap", "(I)V"⟩ : Cond) ∈ GW := gw2 76 rfl rfl
set_option maxRecDepth 20000 in
theorem w_379 : (.code ⟨"HullyardSurveys", "orderHeap", "(I)V"⟩ prog_1_method_60_code 2 none : Cond) ∈ GW := gw2 77 rfl rfl
set_option maxRecDepth 20000 in
theorem w_380 : (.methodLink "HullyardSurveys" 137 ⟨"HullyardSurveys$Yard", "putInOrder", "(ILHullyardSurveys$Row;)V"⟩ : Cond) ∈ GW := gw2 78 rfl rfl
set_option maxRecDepth 20000 in
theorem w_381 : (.instanceMethod ⟨"HullyardSurveys$Yard", "putInOrder", "(ILHullyardSurveys$Row;)V"⟩ : Cond) ∈ GW := gw2 79 rfl rfl
set_option maxRecDepth 20000 in
theorem w_382 : (.selects "HullyardSurveys$Yard" ⟨"HullyardSurveys$Yard", "putInOrder", "(ILHullyardSurveys$Row;)V"⟩ ⟨"HullyardSurveys$Yard", "putInOrder", "(ILHullyardSurveys$Row;)V"⟩ : Cond) ∈ GW := gw2 80 rfl rfl
set_option maxRecDepth 20000 in
theorem w_383 : (.code ⟨"HullyardSurveys$Yard", "putInOrder", "(ILHullyardSurveys$Row;)V"⟩ prog_8_method_5_code 4 none : Cond) ∈ GW := gw2 81 rfl rfl
set_option maxRecDepth 20000 in
theorem w_384 : (.methodLink "HullyardSurveys$Yard" 34 ⟨"HullyardSurveys$Row", "markAt", "(I)I"⟩ : Cond) ∈ GW := gw2 82 rfl rfl
set_option maxRecDepth 20000 in
theorem w_385 : (.methodLink "HullyardSurveys$Yard" 38 ⟨"HullyardSurveys$Row", "xAt", "(I)I"⟩ : Cond) ∈ GW := gw2 83 rfl rfl
set_option maxRecDepth 20000 in
theorem w_386 : (.methodLink "HullyardSurveys$Yard" 41 ⟨"HullyardSurveys$Row", "yAt", "(I)I"⟩ : Cond) ∈ GW := gw2 84 rfl rfl
set_option maxRecDepth 20000 in
theorem w_387 : (.methodLink "HullyardSurveys$Yard" 44 ⟨"HullyardSurveys$Row", "insertInOrder", "(III)V"⟩ : Cond) ∈ GW := gw2 85 rfl rfl
set_option maxRecDepth 20000 in
theorem w_388 : (.instanceMethod ⟨"HullyardSurveys$Row", "insertInOrder", "(III)V"⟩ : Cond) ∈ GW := gw2 86 rfl rfl
set_option maxRecDepth 20000 in
theorem w_389 : (.selects "HullyardSurveys$Row" ⟨"HullyardSurveys$Row", "insertInOrder", "(III)V"⟩ ⟨"HullyardSurveys$Row", "insertInOrder", "(III)V"⟩ : Cond) ∈ GW := gw2 87 rfl rfl
set_option maxRecDepth 20000 in
theorem w_390 : (.code ⟨"HullyardSurveys$Row", "insertInOrder", "(III)V"⟩ prog_6_method_13_code 5 none : Cond) ∈ GW := gw2 88 rfl rfl
set_option maxRecDepth 20000 in
theorem w_391 : (.methodLink "HullyardSurveys$Row" 40 ⟨"HullyardSurveys$Row", "isBehind", "(III)Z"⟩ : Cond) ∈ GW := gw2 89 rfl rfl
set_option maxRecDepth 20000 in
theorem w_393 : (.instanceMethod ⟨"HullyardSurveys$Row", "isBehind", "(III)Z"⟩ : Cond) ∈ GW := gw2 91 rfl rfl
set_option maxRecDepth 20000 in
theorem w_394 : (.code ⟨"HullyardSurveys$Row", "isBehind", "(III)Z"⟩ prog_6_method_16_code 4 (some .boolean) : Cond) ∈ GW := gw2 92 rfl rfl
set_option maxRecDepth 20000 in
theorem w_395 : (.methodLink "HullyardSurveys" 128 ⟨"HullyardSurveys$Hulls", "wrap", "(LHullyardSurveys$Row;LHullyardSurveys$Row;)V"⟩ : Cond) ∈ GW := gw2 93 rfl rfl
set_option maxRecDepth 20000 in
theorem w_396 : (.static ⟨"HullyardSurveys$Hulls", "wrap", "(LHullyardSurveys$Row;LHullyardSurveys$Row;)V"⟩ : Cond) ∈ GW := gw2 94 rfl rfl
set_option maxRecDepth 20000 in
theorem w_397 : (.code ⟨"HullyardSurveys$Hulls", "wrap", "(LHullyardSurveys$Row;LHullyardSurveys$Row;)V"⟩ prog_3_method_2_code 4 none : Cond) ∈ GW := gw2 95 rfl rfl
set_option maxRecDepth 20000 in
theorem w_398 : (.methodLink "HullyardSurveys$Hulls" 7 ⟨"HullyardSurveys$Row", "reset", "()V"⟩ : Cond) ∈ GW := gw2 96 rfl rfl
set_option maxRecDepth 20000 in
theorem w_399 : (.methodLink "HullyardSurveys$Hulls" 12 ⟨"HullyardSurveys$Row", "size", "()I"⟩ : Cond) ∈ GW := gw2 97 rfl rfl
set_option maxRecDepth 20000 in
theorem w_400 : (.methodLink "HullyardSurveys$Hulls" 16 ⟨"HullyardSurveys$Row", "xAt", "(I)I"⟩ : Cond) ∈ GW := gw2 98 rfl rfl
set_option maxRecDepth 20000 in
theorem w_401 : (.methodLink "HullyardSurveys$Hulls" 20 ⟨"HullyardSurveys$Row", "yAt", "(I)I"⟩ : Cond) ∈ GW := gw2 99 rfl rfl
set_option maxRecDepth 20000 in
theorem w_402 : (.methodLink "HullyardSurveys$Hulls" 23 ⟨"HullyardSurveys$Hulls", "bendTo", "(LHullyardSurveys$Row;III)V"⟩ : Cond) ∈ GW := gw2 100 rfl rfl
set_option maxRecDepth 20000 in
theorem w_403 : (.static ⟨"HullyardSurveys$Hulls", "bendTo", "(LHullyardSurveys$Row;III)V"⟩ : Cond) ∈ GW := gw2 101 rfl rfl
set_option maxRecDepth 20000 in
theorem w_404 : (.code ⟨"HullyardSurveys$Hulls", "bendTo", "(LHullyardSurveys$Row;III)V"⟩ prog_3_method_3_code 5 none : Cond) ∈ GW := gw2 102 rfl rfl
set_option maxRecDepth 20000 in
theorem w_405 : (.methodLink "HullyardSurveys$Hulls" 32 ⟨"HullyardSurveys$Row", "isAt", "(III)Z"⟩ : Cond) ∈ GW := gw2 103 rfl rfl
set_option maxRecDepth 20000 in
theorem w_406 : (.instanceMethod ⟨"HullyardSurveys$Row", "isAt", "(III)Z"⟩ : Cond) ∈ GW := gw2 104 rfl rfl
set_option maxRecDepth 20000 in
theorem w_407 : (.selects "HullyardSurveys$Row" ⟨"HullyardSurveys$Row", "isAt", "(III)Z"⟩ ⟨"HullyardSurveys$Row", "isAt", "(III)Z"⟩ : Cond) ∈ GW := gw2 105 rfl rfl
set_option maxRecDepth 20000 in
theorem w_408 : (.code ⟨"HullyardSurveys$Row", "isAt", "(III)Z"⟩ prog_6_method_6_code 4 (some .boolean) : Cond) ∈ GW := gw2 106 rfl rfl
set_option maxRecDepth 20000 in
theorem w_409 : (.methodLink "HullyardSurveys$Hulls" 36 ⟨"HullyardSurveys$Hulls", "turnsLeft", "(LHullyardSurveys$Row;III)Z"⟩ : Cond) ∈ GW := gw2 107 rfl rfl
set_option maxRecDepth 20000 in
theorem w_410 : (.static ⟨"HullyardSurveys$Hulls", "turnsLeft", "(LHullyardSurveys$Row;III)Z"⟩ : Cond) ∈ GW := gw2 108 rfl rfl
set_option maxRecDepth 20000 in
theorem w_411 : (.code ⟨"HullyardSurveys$Hulls", "turnsLeft", "(LHullyardSurveys$Row;III)Z"⟩ prog_3_method_4_code 4 (some .boolean) : Cond) ∈ GW := gw2 109 rfl rfl
set_option maxRecDepth 20000 in
theorem w_412 : (.methodLink "HullyardSurveys$Hulls" 44 ⟨"HullyardSurveys$Plane", "twist", "(JJJJJJ)J"⟩ : Cond) ∈ GW := gw2 110 rfl rfl
set_option maxRecDepth 20000 in
theorem w_413 : (.methodLink "HullyardSurveys$Hulls" 29 ⟨"HullyardSurveys$Row", "shorten", "()V"⟩ : Cond) ∈ GW := gw2 111 rfl rfl
set_option maxRecDepth 20000 in
theorem w_414 : (.instanceMethod ⟨"HullyardSurveys$Row", "shorten", "()V"⟩ : Cond) ∈ GW := gw2 112 rfl rfl
set_option maxRecDepth 20000 in
theorem w_415 : (.selects "HullyardSurveys$Row" ⟨"HullyardSurveys$Row", "shorten", "()V"⟩ ⟨"HullyardSurveys$Row", "shorten", "()V"⟩ : Cond) ∈ GW := gw2 113 rfl rfl
set_option maxRecDepth 20000 in
theorem w_416 : (.code ⟨"HullyardSurveys$Row", "shorten", "()V"⟩ prog_6_method_11_code 1 none : Cond) ∈ GW := gw2 114 rfl rfl
set_option maxRecDepth 20000 in
theorem w_417 : (.methodLink "HullyardSurveys$Hulls" 40 ⟨"HullyardSurveys$Row", "append", "(III)V"⟩ : Cond) ∈ GW := gw2 115 rfl rfl
set_option maxRecDepth 20000 in
theorem w_418 : (.methodLink "HullyardSurveys" 283 ⟨"HullyardSurveys$Yard", "polygonAt", "(I)LHullyardSurveys$Row;"⟩ : Cond) ∈ GW := gw2 116 rfl rfl
set_option maxRecDepth 20000 in
theorem w_419 : (.methodLink "HullyardSurveys" 206 ⟨"HullyardSurveys$Shapes", "closesSimply", "(LHullyardSurveys$Row;)Z"⟩ : Cond) ∈ GW := gw2 117 rfl rfl
set_option maxRecDepth 20000 in
theorem w_420 : (.static ⟨"HullyardSurveys$Shapes", "closesSimply", "(LHullyardSurveys$Row;)Z"⟩ : Cond) ∈ GW := gw2 118 rfl rfl
set_option maxRecDepth 20000 in
theorem w_421 : (.code ⟨"HullyardSurveys$Shapes", "closesSimply", "(LHullyardSurveys$Row;)Z"⟩ prog_7_method_13_code 4 (some .boolean) : Cond) ∈ GW := gw2 119 rfl rfl
set_option maxRecDepth 20000 in
theorem w_422 : (.methodLink "HullyardSurveys$Shapes" 72 ⟨"HullyardSurveys$Shapes", "foldsBack", "(LHullyardSurveys$Row;I)Z"⟩ : Cond) ∈ GW := gw2 120 rfl rfl
set_option maxRecDepth 20000 in
theorem w_423 : (.static ⟨"HullyardSurveys$Shapes", "foldsBack", "(LHullyardSurveys$Row;I)Z"⟩ : Cond) ∈ GW := gw2 121 rfl rfl
set_option maxRecDepth 20000 in
theorem w_424 : (.code ⟨"HullyardSurveys$Shapes", "foldsBack", "(LHullyardSurveys$Row;I)Z"⟩ prog_7_method_14_code 4 (some .boolean) : Cond) ∈ GW := gw2 122 rfl rfl
set_option maxRecDepth 20000 in
theorem w_425 : (.methodLink "HullyardSurveys$Shapes" 80 ⟨"HullyardSurveys$Row", "previous", "(I)I"⟩ : Cond) ∈ GW := gw2 123 rfl rfl
set_option maxRecDepth 20000 in
theorem w_426 : (.instanceMethod ⟨"HullyardSurveys$Row", "previous", "(I)I"⟩ : Cond) ∈ GW := gw2 124 rfl rfl
set_option maxRecDepth 20000 in
theorem w_427 : (.selects "HullyardSurveys$Row" ⟨"HullyardSurveys$Row", "previous", "(I)I"⟩ ⟨"HullyardSurveys$Row", "previous", "(I)I"⟩ : Cond) ∈ GW := gw2 125 rfl rfl
set_option maxRecDepth 20000 in
theorem w_428 : (.code ⟨"HullyardSurveys$Row", "previous", "(I)I"⟩ prog_6_method_8_code 2 (some .int) : Cond) ∈ GW := gw2 126 rfl rfl
set_option maxRecDepth 20000 in
theorem w_429 : (.methodLink "HullyardSurveys$Shapes" 83 ⟨"HullyardSurveys$Plane", "isBetween", "(LHullyardSurveys$Row;IILHullyardSurveys$Row;I)Z"⟩ : Cond) ∈ GW := gw2 127 rfl rfl
set_option maxRecDepth 20000 in
theorem w_430 : (.methodLink "HullyardSurveys$Shapes" 76 ⟨"HullyardSurveys$Plane", "meet", "(LHullyardSurveys$Row;IILHullyardSurveys$Row;II)Z"⟩ : Cond) ∈ GW := gw2 128 rfl rfl
set_option maxRecDepth 20000 in
theorem w_431 : (.methodLink "HullyardSurveys" 286 ⟨"HullyardSurveys", "faultsOf", "(LHullyardSurveys$Row;)I"⟩ : Cond) ∈ GW := gw2 129 rfl rfl
set_option maxRecDepth 20000 in
theorem w_433 : (.instanceMethod ⟨"HullyardSurveys", "faultsOf", "(LHullyardSurveys$Row;)I"⟩ : Cond) ∈ GW := gw2 131 rfl rfl
set_option maxRecDepth 20000 in
theorem w_434 : (.code ⟨"HullyardSurveys", "faultsOf", "(LHullyardSurveys$Row;)I"⟩ prog_1_method_64_code 4 (some .int) : Cond) ∈ GW := gw2 132 rfl rfl
set_option maxRecDepth 20000 in
theorem w_435 : (.methodLink "HullyardSurveys" 276 ⟨"java/lang/Math", "abs", "(I)I"⟩ : Cond) ∈ GW := gw2 133 rfl rfl
set_option maxRecDepth 20000 in
theorem w_436 : (.methodLink "HullyardSurveys" 310 ⟨"HullyardSurveys$Census", "countInside", "(LHullyardSurveys$Row;)I"⟩ : Cond) ∈ GW := gw2 134 rfl rfl
set_option maxRecDepth 20000 in
theorem w_437 : (.instanceMethod ⟨"HullyardSurveys$Census", "countInside", "(LHullyardSurveys$Row;)I"⟩ : Cond) ∈ GW := gw2 135 rfl rfl
set_option maxRecDepth 20000 in
theorem w_438 : (.selects "HullyardSurveys$Census" ⟨"HullyardSurveys$Census", "countInside", "(LHullyardSurveys$Row;)I"⟩ ⟨"HullyardSurveys$Census", "countInside", "(LHullyardSurveys$Row;)I"⟩ : Cond) ∈ GW := gw2 136 rfl rfl
set_option maxRecDepth 20000 in
theorem w_439 : (.code ⟨"HullyardSurveys$Census", "countInside", "(LHullyardSurveys$Row;)I"⟩ prog_2_method_2_code 5 (some .int) : Cond) ∈ GW := gw2 137 rfl rfl
set_option maxRecDepth 20000 in
theorem w_440 : (.methodLink "HullyardSurveys$Census" 23 ⟨"HullyardSurveys$Shapes", "bound", "(LHullyardSurveys$Row;I)I"⟩ : Cond) ∈ GW := gw2 138 rfl rfl
set_option maxRecDepth 20000 in
theorem w_441 : (.methodLink "HullyardSurveys$Census" 29 ⟨"HullyardSurveys$Census", "cut", "(LHullyardSurveys$Row;IZLHullyardSurveys$Row;)V"⟩ : Cond) ∈ GW := gw2 139 rfl rfl
set_option maxRecDepth 20000 in
theorem w_442 : (.static ⟨"HullyardSurveys$Census", "cut", "(LHullyardSurveys$Row;IZLHullyardSurveys$Row;)V"⟩ : Cond) ∈ GW := gw2 140 rfl rfl
set_option maxRecDepth 20000 in
theorem w_443 : (.code ⟨"HullyardSurveys$Census", "cut", "(LHullyardSurveys$Row;IZLHullyardSurveys$Row;)V"⟩ prog_2_method_3_code 13 none : Cond) ∈ GW := gw2 141 rfl rfl
set_option maxRecDepth 20000 in
theorem w_444 : (.methodLink "HullyardSurveys$Census" 37 ⟨"HullyardSurveys$Row", "reset", "()V"⟩ : Cond) ∈ GW := gw2 142 rfl rfl
set_option maxRecDepth 20000 in
theorem w_445 : (.methodLink "HullyardSurveys$Census" 40 ⟨"HullyardSurveys$Row", "size", "()I"⟩ : Cond) ∈ GW := gw2 143 rfl rfl
set_option maxRecDepth 20000 in
theorem w_446 : (.methodLink "HullyardSurveys$Census" 43 ⟨"HullyardSurveys$Shapes", "riseOf", "(LHullyardSurveys$Row;I)I"⟩ : Cond) ∈ GW := gw2 144 rfl rfl
set_option maxRecDepth 20000 in
theorem w_447 : (.methodLink "HullyardSurveys$Census" 46 ⟨"HullyardSurveys$Row", "next", "(I)I"⟩ : Cond) ∈ GW := gw2 145 rfl rfl
set_option maxRecDepth 20000 in
theorem w_448 : (.methodLink "HullyardSurveys$Census" 50 ⟨"HullyardSurveys$Row", "yAt", "(I)I"⟩ : Cond) ∈ GW := gw2 146 rfl rfl
set_option maxRecDepth 20000 in
theorem w_449 : (.methodLink "HullyardSurveys$Census" 53 ⟨"HullyardSurveys$Row", "xAt", "(I)I"⟩ : Cond) ∈ GW := gw2 147 rfl rfl
set_option maxRecDepth 20000 in
theorem w_450 : (.methodLink "HullyardSurveys$Census" 56 ⟨"java/lang/Math", "floorDiv", "(II)I"⟩ : Cond) ∈ GW := gw2 148 rfl rfl
set_option maxRecDepth 20000 in
theorem w_451 : (.static ⟨"java/lang/Math", "floorDiv", "(II)I"⟩ : Cond) ∈ GW := gw2 149 rfl rfl
set_option maxRecDepth 20000 in
theorem w_452 : (.code ⟨"java/lang/Math", "floorDiv", "(II)I"⟩ prog_16_method_47_code 3 (some .int) : Cond) ∈ GW := gw2 150 rfl rfl
set_option maxRecDepth 20000 in
theorem w_453 : (.methodLink "HullyardSurveys$Census" 62 ⟨"HullyardSurveys$Row", "insertInOrder", "(III)V"⟩ : Cond) ∈ GW := gw2 151 rfl rfl
set_option maxRecDepth 20000 in
theorem w_454 : (.methodLink "HullyardSurveys$Census" 33 ⟨"HullyardSurveys$Census", "countCommon", "()I"⟩ : Cond) ∈ GW := gw2 152 rfl rfl
set_option maxRecDepth 20000 in
theorem w_456 : (.instanceMethod ⟨"HullyardSurveys$Census", "countCommon", "()I"⟩ : Cond) ∈ GW := gw2 154 rfl rfl
set_option maxRecDepth 20000 in
theorem w_457 : (.code ⟨"HullyardSurveys$Census", "countCommon", "()I"⟩ prog_2_method_4_code 6 (some .int) : Cond) ∈ GW := gw2 155 rfl rfl
set_option maxRecDepth 20000 in
theorem w_458 : (.methodLink "HullyardSurveys$Census" 66 ⟨"HullyardSurveys$Census", "firstInside", "(LHullyardSurveys$Row;I)I"⟩ : Cond) ∈ GW := gw2 156 rfl rfl
set_option maxRecDepth 20000 in
theorem w_459 : (.static ⟨"HullyardSurveys$Census", "firstInside", "(LHullyardSurveys$Row;I)I"⟩ : Cond) ∈ GW := gw2 157 rfl rfl
set_option maxRecDepth 20000 in
theorem w_460 : (.code ⟨"HullyardSurveys$Census", "firstInside", "(LHullyardSurveys$Row;I)I"⟩ prog_2_method_5_code 2 (some .int) : Cond) ∈ GW := gw2 158 rfl rfl
set_option maxRecDepth 20000 in
theorem w_461 : (.methodLink "HullyardSurveys$Census" 69 ⟨"java/lang/Math", "max", "(II)I"⟩ : Cond) ∈ GW := gw2 159 rfl rfl
set_option maxRecDepth 20000 in
theorem w_462 : (.methodLink "HullyardSurveys$Census" 72 ⟨"HullyardSurveys$Census", "lastInside", "(LHullyardSurveys$Row;I)I"⟩ : Cond) ∈ GW := gw2 160 rfl rfl
set_option maxRecDepth 20000 in
theorem w_463 : (.static ⟨"HullyardSurveys$Census", "lastInside", "(LHullyardSurveys$Row;I)I"⟩ : Cond) ∈ GW := gw2 161 rfl rfl
set_option maxRecDepth 20000 in
theorem w_464 : (.code ⟨"HullyardSurveys$Census", "lastInside", "(LHullyardSurveys$Row;I)I"⟩ prog_2_method_6_code 2 (some .int) : Cond) ∈ GW := gw2 162 rfl rfl
set_option maxRecDepth 20000 in
theorem w_465 : (.methodLink "HullyardSurveys$Census" 75 ⟨"java/lang/Math", "min", "(II)I"⟩ : Cond) ∈ GW := gw2 163 rfl rfl
set_option maxRecDepth 20000 in
theorem w_466 : (.static ⟨"java/lang/Math", "min", "(II)I"⟩ : Cond) ∈ GW := gw2 164 rfl rfl
set_option maxRecDepth 20000 in
theorem w_467 : (.code ⟨"java/lang/Math", "min", "(II)I"⟩ Lib.Math.min.code 2 (some .int) : Cond) ∈ GW := gw2 165 rfl rfl
set_option maxRecDepth 20000 in
theorem w_468 : (.methodLink "HullyardSurveys" 213 ⟨"HullyardSurveys$Parting", "part", "(LHullyardSurveys$Row;)V"⟩ : Cond) ∈ GW := gw2 166 rfl rfl
set_option maxRecDepth 20000 in
theorem w_469 : (.instanceMethod ⟨"HullyardSurveys$Parting", "part", "(LHullyardSurveys$Row;)V"⟩ : Cond) ∈ GW := gw2 167 rfl rfl
set_option maxRecDepth 20000 in
theorem w_470 : (.selects "HullyardSurveys$Parting" ⟨"HullyardSurveys$Parting", "part", "(LHullyardSurveys$Row;)V"⟩ ⟨"HullyardSurveys$Parting", "part", "(LHullyardSurveys$Row;)V"⟩ : Cond) ∈ GW := gw2 168 rfl rfl
set_option maxRecDepth 20000 in
theorem w_471 : (.code ⟨"HullyardSurveys$Parting", "part", "(LHullyardSurveys$Row;)V"⟩ prog_4_method_2_code 5 none : Cond) ∈ GW := gw2 169 rfl rfl
set_option maxRecDepth 20000 in
theorem w_472 : (.methodLink "HullyardSurveys$Parting" 32 ⟨"HullyardSurveys$Row", "copyFrom", "(LHullyardSurveys$Row;)V"⟩ : Cond) ∈ GW := gw2 170 rfl rfl
set_option maxRecDepth 20000 in
theorem w_473 : (.methodLink "HullyardSurveys$Parting" 36 ⟨"HullyardSurveys$Shapes", "doubledArea", "(LHullyardSurveys$Row;)I"⟩ : Cond) ∈ GW := gw2 171 rfl rfl
set_option maxRecDepth 20000 in
theorem w_474 : (.methodLink "HullyardSurveys$Parting" 42 ⟨"HullyardSurveys$Plane", "signOf", "(J)I"⟩ : Cond) ∈ GW := gw2 172 rfl rfl
set_option maxRecDepth 20000 in
theorem w_475 : (.methodLink "HullyardSurveys$Parting" 48 ⟨"HullyardSurveys$Row", "size", "()I"⟩ : Cond) ∈ GW := gw2 173 rfl rfl
set_option maxRecDepth 20000 in
theorem w_476 : (.methodLink "HullyardSurveys$Parting" 52 ⟨"HullyardSurveys$Parting", "firstEar", "(I)I"⟩ : Cond) ∈ GW := gw2 174 rfl rfl
set_option maxRecDepth 20000 in
theorem w_478 : (.instanceMethod ⟨"HullyardSurveys$Parting", "firstEar", "(I)I"⟩ : Cond) ∈ GW := gw2 176 rfl rfl
set_option maxRecDepth 20000 in
theorem w_479 : (.code ⟨"HullyardSurveys$Parting", "firstEar", "(I)I"⟩ prog_4_method_7_code 3 (some .int) : Cond) ∈ GW := gw2 177 rfl rfl
set_option maxRecDepth 20000 in
theorem w_480 : (.methodLink "HullyardSurveys$Parting" 82 ⟨"HullyardSurveys$Parting", "isEar", "(II)Z"⟩ : Cond) ∈ GW := gw2 178 rfl rfl
set_option maxRecDepth 20000 in
theorem w_482 : (.instanceMethod ⟨"HullyardSurveys$Parting", "isEar", "(II)Z"⟩ : Cond) ∈ GW := gw2 180 rfl rfl
set_option maxRecDepth 20000 in
theorem w_483 : (.code ⟨"HullyardSurveys$Parting", "isEar", "(II)Z"⟩ prog_4_method_8_code 7 (some .boolean) : Cond) ∈ GW := gw2 181 rfl rfl
set_option maxRecDepth 20000 in
theorem w_484 : (.methodLink "HullyardSurveys$Parting" 56 ⟨"HullyardSurveys$Row", "previous", "(I)I"⟩ : Cond) ∈ GW := gw2 182 rfl rfl
set_option maxRecDepth 20000 in
theorem w_485 : (.methodLink "HullyardSurveys$Parting" 59 ⟨"HullyardSurveys$Row", "next", "(I)I"⟩ : Cond) ∈ GW := gw2 183 rfl rfl
set_option maxRecDepth 20000 in
theorem w_486 : (.methodLink "HullyardSurveys$Parting" 86 ⟨"HullyardSurveys$Plane", "side", "(LHullyardSurveys$Row;IILHullyardSurveys$Row;I)I"⟩ : Cond) ∈ GW := gw2 184 rfl rfl
set_option maxRecDepth 20000 in
theorem w_487 : (.methodLink "HullyardSurveys$Parting" 62 ⟨"HullyardSurveys$Parting", "keepTriangle", "(III)V"⟩ : Cond) ∈ GW := gw2 185 rfl rfl
set_option maxRecDepth 20000 in
theorem w_489 : (.instanceMethod ⟨"HullyardSurveys$Parting", "keepTriangle", "(III)V"⟩ : Cond) ∈ GW := gw2 187 rfl rfl
set_option maxRecDepth 20000 in
theorem w_490 : (.code ⟨"HullyardSurveys$Parting", "keepTriangle", "(III)V"⟩ prog_4_method_6_code 4 none : Cond) ∈ GW := gw2 188 rfl rfl
set_option maxRecDepth 20000 in
theorem w_491 : (.methodLink "HullyardSurveys$Parting" 69 ⟨"HullyardSurveys$Row", "markAt", "(I)I"⟩ : Cond) ∈ GW := gw2 189 rfl rfl
set_option maxRecDepth 20000 in
theorem w_492 : (.methodLink "HullyardSurveys$Parting" 72 ⟨"HullyardSurveys$Shapes", "twistOf", "(LHullyardSurveys$Row;III)J"⟩ : Cond) ∈ GW := gw2 190 rfl rfl
set_option maxRecDepth 20000 in
theorem w_493 : (.static ⟨"HullyardSurveys$Shapes", "twistOf", "(LHullyardSurveys$Row;III)J"⟩ : Cond) ∈ GW := gw2 191 rfl rfl
set_option maxRecDepth 20000 in
theorem w_494 : (.code ⟨"HullyardSurveys$Shapes", "twistOf", "(LHullyardSurveys$Row;III)J"⟩ prog_7_method_4_code 4 (some .long) : Cond) ∈ GW := gw2 192 rfl rfl
set_option maxRecDepth 20000 in
theorem w_495 : (.methodLink "HullyardSurveys$Parting" 76 ⟨"java/lang/Math", "abs", "(J)J"⟩ : Cond) ∈ GW := gw2 193 rfl rfl
set_option maxRecDepth 20000 in
theorem w_496 : (.methodLink "HullyardSurveys$Parting" 66 ⟨"HullyardSurveys$Row", "remove", "(I)V"⟩ : Cond) ∈ GW := gw2 194 rfl rfl
set_option maxRecDepth 20000 in
theorem w_497 : (.instanceMethod ⟨"HullyardSurveys$Row", "remove", "(I)V"⟩ : Cond) ∈ GW := gw2 195 rfl rfl
set_option maxRecDepth 20000 in
theorem w_498 : (.selects "HullyardSurveys$Row" ⟨"HullyardSurveys$Row", "remove", "(I)V"⟩ ⟨"HullyardSurveys$Row", "remove", "(I)V"⟩ : Cond) ∈ GW := gw2 196 rfl rfl
set_option maxRecDepth 20000 in
theorem w_499 : (.code ⟨"HullyardSurveys$Row", "remove", "(I)V"⟩ prog_6_method_14_code 3 none : Cond) ∈ GW := gw2 197 rfl rfl
set_option maxRecDepth 20000 in
theorem w_500 : (.methodLink "HullyardSurveys" 313 ⟨"HullyardSurveys$Parting", "doubledAreas", "()J"⟩ : Cond) ∈ GW := gw2 198 rfl rfl
set_option maxRecDepth 20000 in
theorem w_501 : (.instanceMethod ⟨"HullyardSurveys$Parting", "doubledAreas", "()J"⟩ : Cond) ∈ GW := gw2 199 rfl rfl
set_option maxRecDepth 20000 in
theorem w_502 : (.selects "HullyardSurveys$Parting" ⟨"HullyardSurveys$Parting", "doubledAreas", "()J"⟩ ⟨"HullyardSurveys$Parting", "doubledAreas", "()J"⟩ : Cond) ∈ GW := gw2 200 rfl rfl
set_option maxRecDepth 20000 in
theorem w_503 : (.code ⟨"HullyardSurveys$Parting", "doubledAreas", "()J"⟩ prog_4_method_4_code 1 (some .long) : Cond) ∈ GW := gw2 201 rfl rfl
set_option maxRecDepth 20000 in
theorem w_504 : (.methodLink "HullyardSurveysLaw" 143 ⟨"HullyardSurveysLaw", "point", "(LHullyardSurveys;III[J)I"⟩ : Cond) ∈ GW := gw2 202 rfl rfl
set_option maxRecDepth 20000 in
theorem w_505 : (.static ⟨"HullyardSurveysLaw", "point", "(LHullyardSurveys;III[J)I"⟩ : Cond) ∈ GW := gw2 203 rfl rfl
set_option maxRecDepth 20000 in
theorem w_506 : (.codeWith ⟨"HullyardSurveysLaw", "point", "(LHullyardSurveys;III[J)I"⟩ method_3_code 6 (some .int) [(0, 12, 15, 13), (0, 12, 19, 15)] : Cond) ∈ GW := gw2 204 rfl rfl
set_option maxRecDepth 20000 in
theorem w_509 : (.methodLink "HullyardSurveysLaw" 7 ⟨"HullyardSurveys", "point", "(III)I"⟩ : Cond) ∈ GW := gw2 207 rfl rfl
set_option maxRecDepth 20000 in
theorem w_510 : (.instanceMethod ⟨"HullyardSurveys", "point", "(III)I"⟩ : Cond) ∈ GW := gw2 208 rfl rfl
set_option maxRecDepth 20000 in
theorem w_511 : (.selects "HullyardSurveys" ⟨"HullyardSurveys", "point", "(III)I"⟩ ⟨"HullyardSurveys", "point", "(III)I"⟩ : Cond) ∈ GW := gw2 209 rfl rfl
set_option maxRecDepth 20000 in
theorem w_512 : (.code ⟨"HullyardSurveys", "point", "(III)I"⟩ prog_1_method_2_code 4 (some .int) : Cond) ∈ GW := gw2 210 rfl rfl
set_option maxRecDepth 20000 in
theorem w_513 : (.methodLink "HullyardSurveys" 58 ⟨"HullyardSurveys", "requireHeap", "(I)V"⟩ : Cond) ∈ GW := gw2 211 rfl rfl
set_option maxRecDepth 20000 in
theorem w_514 : (.static ⟨"HullyardSurveys", "requireHeap", "(I)V"⟩ : Cond) ∈ GW := gw2 212 rfl rfl
set_option maxRecDepth 20000 in
theorem w_515 : (.code ⟨"HullyardSurveys", "requireHeap", "(I)V"⟩ prog_1_method_50_code 1 none : Cond) ∈ GW := gw2 213 rfl rfl
set_option maxRecDepth 20000 in
theorem w_516 : (.classLink "HullyardSurveys" 102 "java/lang/IllegalArgumentException" : Cond) ∈ GW := gw2 214 rfl rfl
set_option maxRecDepth 20000 in
theorem w_585 : (.methodLink "HullyardSurveys" 61 ⟨"HullyardSurveys", "requireNear", "(II)V"⟩ : Cond) ∈ GW := gw3 43 rfl rfl
set_option maxRecDepth 20000 in
theorem w_586 : (.static ⟨"HullyardSurveys", "requireNear", "(II)V"⟩ : Cond) ∈ GW := gw3 44 rfl rfl
set_option maxRecDepth 20000 in
theorem w_587 : (.code ⟨"HullyardSurveys", "requireNear", "(II)V"⟩ prog_1_method_51_code 2 none : Cond) ∈ GW := gw3 45 rfl rfl
set_option maxRecDepth 20000 in
theorem w_589 : (.classLink "HullyardSurveys" 72 "java/lang/IllegalStateException" : Cond) ∈ GW := gw3 47 rfl rfl
set_option maxRecDepth 20000 in
theorem w_605 : (.methodLink "HullyardSurveys" 79 ⟨"HullyardSurveys$Row", "append", "(III)V"⟩ : Cond) ∈ GW := gw3 63 rfl rfl
set_option maxRecDepth 20000 in
theorem w_606 : (.methodLink "HullyardSurveysLaw" 152 ⟨"HullyardSurveysLaw", "drop", "(LHullyardSurveys;I[J)I"⟩ : Cond) ∈ GW := gw3 64 rfl rfl
set_option maxRecDepth 20000 in
theorem w_607 : (.static ⟨"HullyardSurveysLaw", "drop", "(LHullyardSurveys;I[J)I"⟩ : Cond) ∈ GW := gw3 65 rfl rfl
set_option maxRecDepth 20000 in
theorem w_608 : (.codeWith ⟨"HullyardSurveysLaw", "drop", "(LHullyardSurveys;I[J)I"⟩ method_4_code 4 (some .int) [(0, 9, 12, 21)] : Cond) ∈ GW := gw3 66 rfl rfl
set_option maxRecDepth 20000 in
theorem w_610 : (.methodLink "HullyardSurveysLaw" 17 ⟨"HullyardSurveys", "drop", "(I)I"⟩ : Cond) ∈ GW := gw3 68 rfl rfl
set_option maxRecDepth 20000 in
theorem w_611 : (.instanceMethod ⟨"HullyardSurveys", "drop", "(I)I"⟩ : Cond) ∈ GW := gw3 69 rfl rfl
set_option maxRecDepth 20000 in
theorem w_612 : (.selects "HullyardSurveys" ⟨"HullyardSurveys", "drop", "(I)I"⟩ ⟨"HullyardSurveys", "drop", "(I)I"⟩ : Cond) ∈ GW := gw3 70 rfl rfl
set_option maxRecDepth 20000 in
theorem w_613 : (.code ⟨"HullyardSurveys", "drop", "(I)I"⟩ prog_1_method_3_code 3 (some .int) : Cond) ∈ GW := gw3 71 rfl rfl
set_option maxRecDepth 20000 in
theorem w_614 : (.methodLink "HullyardSurveys" 83 ⟨"HullyardSurveys", "requirePoint", "(I)V"⟩ : Cond) ∈ GW := gw3 72 rfl rfl
set_option maxRecDepth 20000 in
theorem w_616 : (.instanceMethod ⟨"HullyardSurveys", "requirePoint", "(I)V"⟩ : Cond) ∈ GW := gw3 74 rfl rfl
set_option maxRecDepth 20000 in
theorem w_617 : (.code ⟨"HullyardSurveys", "requirePoint", "(I)V"⟩ prog_1_method_52_code 2 none : Cond) ∈ GW := gw3 75 rfl rfl
set_option maxRecDepth 20000 in
theorem w_618 : (.methodLink "HullyardSurveys" 293 ⟨"HullyardSurveys$Yard", "hasPoint", "(I)Z"⟩ : Cond) ∈ GW := gw3 76 rfl rfl
set_option maxRecDepth 20000 in
theorem w_619 : (.instanceMethod ⟨"HullyardSurveys$Yard", "hasPoint", "(I)Z"⟩ : Cond) ∈ GW := gw3 77 rfl rfl
set_option maxRecDepth 20000 in
theorem w_620 : (.selects "HullyardSurveys$Yard" ⟨"HullyardSurveys$Yard", "hasPoint", "(I)Z"⟩ ⟨"HullyardSurveys$Yard", "hasPoint", "(I)Z"⟩ : Cond) ∈ GW := gw3 78 rfl rfl
set_option maxRecDepth 20000 in
theorem w_621 : (.code ⟨"HullyardSurveys$Yard", "hasPoint", "(I)Z"⟩ prog_8_method_3_code 2 (some .boolean) : Cond) ∈ GW := gw3 79 rfl rfl
set_option maxRecDepth 20000 in
theorem w_622 : (.classLink "HullyardSurveys" 110 "java/lang/IndexOutOfBoundsException" : Cond) ∈ GW := gw3 80 rfl rfl
set_option maxRecDepth 20000 in
theorem w_638 : (.methodLink "HullyardSurveys" 86 ⟨"HullyardSurveys$Row", "markAt", "(I)I"⟩ : Cond) ∈ GW := gw3 96 rfl rfl
set_option maxRecDepth 20000 in
theorem w_639 : (.methodLink "HullyardSurveys" 90 ⟨"HullyardSurveys$Row", "mark", "(II)V"⟩ : Cond) ∈ GW := gw3 97 rfl rfl
set_option maxRecDepth 20000 in
theorem w_640 : (.instanceMethod ⟨"HullyardSurveys$Row", "mark", "(II)V"⟩ : Cond) ∈ GW := gw3 98 rfl rfl
set_option maxRecDepth 20000 in
theorem w_641 : (.selects "HullyardSurveys$Row" ⟨"HullyardSurveys$Row", "mark", "(II)V"⟩ ⟨"HullyardSurveys$Row", "mark", "(II)V"⟩ : Cond) ∈ GW := gw3 99 rfl rfl
set_option maxRecDepth 20000 in
theorem w_642 : (.code ⟨"HullyardSurveys$Row", "mark", "(II)V"⟩ prog_6_method_9_code 3 none : Cond) ∈ GW := gw3 100 rfl rfl
set_option maxRecDepth 20000 in
theorem w_643 : (.methodLink "HullyardSurveys" 93 ⟨"HullyardSurveys$Yard", "heapSize", "(I)I"⟩ : Cond) ∈ GW := gw3 101 rfl rfl
set_option maxRecDepth 20000 in
theorem w_644 : (.instanceMethod ⟨"HullyardSurveys$Yard", "heapSize", "(I)I"⟩ : Cond) ∈ GW := gw3 102 rfl rfl
set_option maxRecDepth 20000 in
theorem w_645 : (.selects "HullyardSurveys$Yard" ⟨"HullyardSurveys$Yard", "heapSize", "(I)I"⟩ ⟨"HullyardSurveys$Yard", "heapSize", "(I)I"⟩ : Cond) ∈ GW := gw3 103 rfl rfl
set_option maxRecDepth 20000 in
theorem w_646 : (.code ⟨"HullyardSurveys$Yard", "heapSize", "(I)I"⟩ prog_8_method_4_code 4 (some .int) : Cond) ∈ GW := gw3 104 rfl rfl
set_option maxRecDepth 20000 in
theorem w_647 : (.methodLink "HullyardSurveysLaw" 156 ⟨"HullyardSurveysLaw", "pointOf", "(LHullyardSurveys;II[J)I"⟩ : Cond) ∈ GW := gw3 105 rfl rfl
set_option maxRecDepth 20000 in
theorem w_648 : (.static ⟨"HullyardSurveysLaw", "pointOf", "(LHullyardSurveys;II[J)I"⟩ : Cond) ∈ GW := gw3 106 rfl rfl
set_option maxRecDepth 20000 in
theorem w_649 : (.codeWith ⟨"HullyardSurveysLaw", "pointOf", "(LHullyardSurveys;II[J)I"⟩ method_5_code 5 (some .int) [(0, 10, 13, 21), (0, 10, 17, 13)] : Cond) ∈ GW := gw3 107 rfl rfl
set_option maxRecDepth 20000 in
theorem w_650 : (.methodLink "HullyardSurveysLaw" 23 ⟨"HullyardSurveys", "pointOf", "(II)I"⟩ : Cond) ∈ GW := gw3 108 rfl rfl
set_option maxRecDepth 20000 in
theorem w_651 : (.instanceMethod ⟨"HullyardSurveys", "pointOf", "(II)I"⟩ : Cond) ∈ GW := gw3 109 rfl rfl
set_option maxRecDepth 20000 in
theorem w_652 : (.selects "HullyardSurveys" ⟨"HullyardSurveys", "pointOf", "(II)I"⟩ ⟨"HullyardSurveys", "pointOf", "(II)I"⟩ : Cond) ∈ GW := gw3 110 rfl rfl
set_option maxRecDepth 20000 in
theorem w_653 : (.code ⟨"HullyardSurveys", "pointOf", "(II)I"⟩ prog_1_method_4_code 3 (some .int) : Cond) ∈ GW := gw3 111 rfl rfl
set_option maxRecDepth 20000 in
theorem w_655 : (.methodLink "HullyardSurveysLaw" 160 ⟨"HullyardSurveysLaw", "count", "(LHullyardSurveys;I[J)I"⟩ : Cond) ∈ GW := gw3 113 rfl rfl
set_option maxRecDepth 20000 in
theorem w_656 : (.static ⟨"HullyardSurveysLaw", "count", "(LHullyardSurveys;I[J)I"⟩ : Cond) ∈ GW := gw3 114 rfl rfl
set_option maxRecDepth 20000 in
theorem w_657 : (.codeWith ⟨"HullyardSurveysLaw", "count", "(LHullyardSurveys;I[J)I"⟩ method_6_code 4 (some .int) [(0, 9, 12, 13)] : Cond) ∈ GW := gw3 115 rfl rfl
set_option maxRecDepth 20000 in
theorem w_658 : (.methodLink "HullyardSurveysLaw" 27 ⟨"HullyardSurveys", "count", "(I)I"⟩ : Cond) ∈ GW := gw3 116 rfl rfl
set_option maxRecDepth 20000 in
theorem w_659 : (.instanceMethod ⟨"HullyardSurveys", "count", "(I)I"⟩ : Cond) ∈ GW := gw3 117 rfl rfl
set_option maxRecDepth 20000 in
theorem w_660 : (.selects "HullyardSurveys" ⟨"HullyardSurveys", "count", "(I)I"⟩ ⟨"HullyardSurveys", "count", "(I)I"⟩ : Cond) ∈ GW := gw3 118 rfl rfl
set_option maxRecDepth 20000 in
theorem w_661 : (.code ⟨"HullyardSurveys", "count", "(I)I"⟩ prog_1_method_5_code 2 (some .int) : Cond) ∈ GW := gw3 119 rfl rfl
set_option maxRecDepth 20000 in
theorem w_662 : (.methodLink "HullyardSurveysLaw" 163 ⟨"HullyardSurveysLaw", "sorted", "(LHullyardSurveys;II[J)I"⟩ : Cond) ∈ GW := gw3 120 rfl rfl
set_option maxRecDepth 20000 in
theorem w_663 : (.static ⟨"HullyardSurveysLaw", "sorted", "(LHullyardSurveys;II[J)I"⟩ : Cond) ∈ GW := gw3 121 rfl rfl
set_option maxRecDepth 20000 in
theorem w_664 : (.codeWith ⟨"HullyardSurveysLaw", "sorted", "(LHullyardSurveys;II[J)I"⟩ method_7_code 5 (some .int) [(0, 10, 13, 13), (0, 10, 17, 21)] : Cond) ∈ GW := gw3 122 rfl rfl
set_option maxRecDepth 20000 in
theorem w_665 : (.methodLink "HullyardSurveysLaw" 30 ⟨"HullyardSurveys", "sorted", "(II)I"⟩ : Cond) ∈ GW := gw3 123 rfl rfl
set_option maxRecDepth 20000 in
theorem w_666 : (.instanceMethod ⟨"HullyardSurveys", "sorted", "(II)I"⟩ : Cond) ∈ GW := gw3 124 rfl rfl
set_option maxRecDepth 20000 in
theorem w_667 : (.selects "HullyardSurveys" ⟨"HullyardSurveys", "sorted", "(II)I"⟩ ⟨"HullyardSurveys", "sorted", "(II)I"⟩ : Cond) ∈ GW := gw3 125 rfl rfl
set_option maxRecDepth 20000 in
theorem w_668 : (.code ⟨"HullyardSurveys", "sorted", "(II)I"⟩ prog_1_method_6_code 3 (some .int) : Cond) ∈ GW := gw3 126 rfl rfl
set_option maxRecDepth 20000 in
theorem w_670 : (.methodLink "HullyardSurveysLaw" 166 ⟨"HullyardSurveysLaw", "places", "(LHullyardSurveys;I[J)I"⟩ : Cond) ∈ GW := gw3 128 rfl rfl
set_option maxRecDepth 20000 in
theorem w_671 : (.static ⟨"HullyardSurveysLaw", "places", "(LHullyardSurveys;I[J)I"⟩ : Cond) ∈ GW := gw3 129 rfl rfl
set_option maxRecDepth 20000 in
theorem w_672 : (.codeWith ⟨"HullyardSurveysLaw", "places", "(LHullyardSurveys;I[J)I"⟩ method_8_code 4 (some .int) [(0, 9, 12, 13)] : Cond) ∈ GW := gw3 130 rfl rfl
set_option maxRecDepth 20000 in
theorem w_673 : (.methodLink "HullyardSurveysLaw" 33 ⟨"HullyardSurveys", "places", "(I)I"⟩ : Cond) ∈ GW := gw3 131 rfl rfl
set_option maxRecDepth 20000 in
theorem w_674 : (.instanceMethod ⟨"HullyardSurveys", "places", "(I)I"⟩ : Cond) ∈ GW := gw3 132 rfl rfl
set_option maxRecDepth 20000 in
theorem w_675 : (.selects "HullyardSurveys" ⟨"HullyardSurveys", "places", "(I)I"⟩ ⟨"HullyardSurveys", "places", "(I)I"⟩ : Cond) ∈ GW := gw3 133 rfl rfl
set_option maxRecDepth 20000 in
theorem w_676 : (.code ⟨"HullyardSurveys", "places", "(I)I"⟩ prog_1_method_7_code 4 (some .int) : Cond) ∈ GW := gw3 134 rfl rfl
set_option maxRecDepth 20000 in
theorem w_677 : (.methodLink "HullyardSurveys" 115 ⟨"HullyardSurveys$Row", "isAt", "(III)Z"⟩ : Cond) ∈ GW := gw3 135 rfl rfl
set_option maxRecDepth 20000 in
theorem w_678 : (.methodLink "HullyardSurveysLaw" 169 ⟨"HullyardSurveysLaw", "turn", "(LHullyardSurveys;III[J)I"⟩ : Cond) ∈ GW := gw3 136 rfl rfl
set_option maxRecDepth 20000 in
theorem w_679 : (.static ⟨"HullyardSurveysLaw", "turn", "(LHullyardSurveys;III[J)I"⟩ : Cond) ∈ GW := gw3 137 rfl rfl
set_option maxRecDepth 20000 in
theorem w_680 : (.codeWith ⟨"HullyardSurveysLaw", "turn", "(LHullyardSurveys;III[J)I"⟩ method_9_code 6 (some .int) [(0, 12, 15, 21)] : Cond) ∈ GW := gw3 138 rfl rfl
set_option maxRecDepth 20000 in
theorem w_681 : (.methodLink "HullyardSurveysLaw" 36 ⟨"HullyardSurveys", "turn", "(III)I"⟩ : Cond) ∈ GW := gw3 139 rfl rfl
set_option maxRecDepth 20000 in
theorem w_682 : (.instanceMethod ⟨"HullyardSurveys", "turn", "(III)I"⟩ : Cond) ∈ GW := gw3 140 rfl rfl
set_option maxRecDepth 20000 in
theorem w_683 : (.selects "HullyardSurveys" ⟨"HullyardSurveys", "turn", "(III)I"⟩ ⟨"HullyardSurveys", "turn", "(III)I"⟩ : Cond) ∈ GW := gw3 141 rfl rfl
set_option maxRecDepth 20000 in
theorem w_684 : (.code ⟨"HullyardSurveys", "turn", "(III)I"⟩ prog_1_method_8_code 4 (some .int) : Cond) ∈ GW := gw3 142 rfl rfl
set_option maxRecDepth 20000 in
theorem w_685 : (.methodLink "HullyardSurveys" 119 ⟨"HullyardSurveys$Plane", "side", "(LHullyardSurveys$Row;IILHullyardSurveys$Row;I)I"⟩ : Cond) ∈ GW := gw3 143 rfl rfl
set_option maxRecDepth 20000 in
theorem w_686 : (.methodLink "HullyardSurveysLaw" 172 ⟨"HullyardSurveysLaw", "hull", "(LHullyardSurveys;I[J)I"⟩ : Cond) ∈ GW := gw3 144 rfl rfl
set_option maxRecDepth 20000 in
theorem w_687 : (.static ⟨"HullyardSurveysLaw", "hull", "(LHullyardSurveys;I[J)I"⟩ : Cond) ∈ GW := gw3 145 rfl rfl
set_option maxRecDepth 20000 in
theorem w_688 : (.codeWith ⟨"HullyardSurveysLaw", "hull", "(LHullyardSurveys;I[J)I"⟩ method_10_code 4 (some .int) [(0, 9, 12, 13), (0, 9, 15, 42)] : Cond) ∈ GW := gw3 146 rfl rfl
set_option maxRecDepth 20000 in
theorem w_690 : (.methodLink "HullyardSurveysLaw" 39 ⟨"HullyardSurveys", "hull", "(I)I"⟩ : Cond) ∈ GW := gw3 148 rfl rfl
set_option maxRecDepth 20000 in
theorem w_691 : (.instanceMethod ⟨"HullyardSurveys", "hull", "(I)I"⟩ : Cond) ∈ GW := gw3 149 rfl rfl
set_option maxRecDepth 20000 in
theorem w_692 : (.selects "HullyardSurveys" ⟨"HullyardSurveys", "hull", "(I)I"⟩ ⟨"HullyardSurveys", "hull", "(I)I"⟩ : Cond) ∈ GW := gw3 150 rfl rfl
set_option maxRecDepth 20000 in
theorem w_693 : (.code ⟨"HullyardSurveys", "hull", "(I)I"⟩ prog_1_method_9_code 2 (some .int) : Cond) ∈ GW := gw3 151 rfl rfl
set_option maxRecDepth 20000 in
theorem w_694 : (.methodLink "HullyardSurveys" 125 ⟨"HullyardSurveys", "requireFilled", "(I)V"⟩ : Cond) ∈ GW := gw3 152 rfl rfl
set_option maxRecDepth 20000 in
theorem w_696 : (.instanceMethod ⟨"HullyardSurveys", "requireFilled", "(I)V"⟩ : Cond) ∈ GW := gw3 154 rfl rfl
set_option maxRecDepth 20000 in
theorem w_697 : (.code ⟨"HullyardSurveys", "requireFilled", "(I)V"⟩ prog_1_method_55_code 2 none : Cond) ∈ GW := gw3 155 rfl rfl
set_option maxRecDepth 20000 in
theorem w_698 : (.classLink "HullyardSurveys" 163 "java/util/NoSuchElementException" : Cond) ∈ GW := gw3 156 rfl rfl
set_option maxRecDepth 20000 in
theorem w_714 : (.methodLink "HullyardSurveysLaw" 175 ⟨"HullyardSurveysLaw", "join", "(LHullyardSurveys;II[J)I"⟩ : Cond) ∈ GW := gw3 172 rfl rfl
set_option maxRecDepth 20000 in
theorem w_715 : (.static ⟨"HullyardSurveysLaw", "join", "(LHullyardSurveys;II[J)I"⟩ : Cond) ∈ GW := gw3 173 rfl rfl
set_option maxRecDepth 20000 in
theorem w_716 : (.codeWith ⟨"HullyardSurveysLaw", "join", "(LHullyardSurveys;II[J)I"⟩ method_11_code 5 (some .int) [(0, 10, 13, 13), (0, 10, 17, 42)] : Cond) ∈ GW := gw3 174 rfl rfl
set_option maxRecDepth 20000 in
theorem w_717 : (.methodLink "HullyardSurveysLaw" 44 ⟨"HullyardSurveys", "join", "(II)I"⟩ : Cond) ∈ GW := gw3 175 rfl rfl
set_option maxRecDepth 20000 in
theorem w_718 : (.instanceMethod ⟨"HullyardSurveys", "join", "(II)I"⟩ : Cond) ∈ GW := gw3 176 rfl rfl
set_option maxRecDepth 20000 in
theorem w_719 : (.selects "HullyardSurveys" ⟨"HullyardSurveys", "join", "(II)I"⟩ ⟨"HullyardSurveys", "join", "(II)I"⟩ : Cond) ∈ GW := gw3 177 rfl rfl
set_option maxRecDepth 20000 in
theorem w_720 : (.code ⟨"HullyardSurveys", "join", "(II)I"⟩ prog_1_method_10_code 3 (some .int) : Cond) ∈ GW := gw3 178 rfl rfl
set_option maxRecDepth 20000 in
theorem w_721 : (.methodLink "HullyardSurveys" 134 ⟨"HullyardSurveys", "requireTwoFilled", "(II)V"⟩ : Cond) ∈ GW := gw3 179 rfl rfl
set_option maxRecDepth 20000 in
theorem w_723 : (.instanceMethod ⟨"HullyardSurveys", "requireTwoFilled", "(II)V"⟩ : Cond) ∈ GW := gw3 181 rfl rfl
set_option maxRecDepth 20000 in
theorem w_724 : (.code ⟨"HullyardSurveys", "requireTwoFilled", "(II)V"⟩ prog_1_method_56_code 3 none : Cond) ∈ GW := gw3 182 rfl rfl
set_option maxRecDepth 20000 in
theorem w_725 : (.methodLink "HullyardSurveysLaw" 178 ⟨"HullyardSurveysLaw", "sum", "(LHullyardSurveys;II[J)I"⟩ : Cond) ∈ GW := gw3 183 rfl rfl
set_option maxRecDepth 20000 in
theorem w_726 : (.static ⟨"HullyardSurveysLaw", "sum", "(LHullyardSurveys;II[J)I"⟩ : Cond) ∈ GW := gw3 184 rfl rfl
set_option maxRecDepth 20000 in
theorem w_727 : (.codeWith ⟨"HullyardSurveysLaw", "sum", "(LHullyardSurveys;II[J)I"⟩ method_12_code 5 (some .int) [(0, 10, 13, 13), (0, 10, 17, 42)] : Cond) ∈ GW := gw3 185 rfl rfl
set_option maxRecDepth 20000 in
theorem w_728 : (.methodLink "HullyardSurveysLaw" 47 ⟨"HullyardSurveys", "sum", "(II)I"⟩ : Cond) ∈ GW := gw3 186 rfl rfl
set_option maxRecDepth 20000 in
theorem w_729 : (.instanceMethod ⟨"HullyardSurveys", "sum", "(II)I"⟩ : Cond) ∈ GW := gw3 187 rfl rfl
set_option maxRecDepth 20000 in
theorem w_730 : (.selects "HullyardSurveys" ⟨"HullyardSurveys", "sum", "(II)I"⟩ ⟨"HullyardSurveys", "sum", "(II)I"⟩ : Cond) ∈ GW := gw3 188 rfl rfl
set_option maxRecDepth 20000 in
theorem w_731 : (.code ⟨"HullyardSurveys", "sum", "(II)I"⟩ prog_1_method_11_code 3 (some .int) : Cond) ∈ GW := gw3 189 rfl rfl
set_option maxRecDepth 20000 in
theorem w_732 : (.methodLink "HullyardSurveys" 141 ⟨"HullyardSurveys", "wrapTwo", "(II)V"⟩ : Cond) ∈ GW := gw3 190 rfl rfl
set_option maxRecDepth 20000 in
theorem w_734 : (.instanceMethod ⟨"HullyardSurveys", "wrapTwo", "(II)V"⟩ : Cond) ∈ GW := gw3 192 rfl rfl
set_option maxRecDepth 20000 in
theorem w_735 : (.code ⟨"HullyardSurveys", "wrapTwo", "(II)V"⟩ prog_1_method_61_code 3 none : Cond) ∈ GW := gw3 193 rfl rfl
set_option maxRecDepth 20000 in
theorem w_736 : (.methodLink "HullyardSurveys" 144 ⟨"HullyardSurveys$Hulls", "addUp", "(LHullyardSurveys$Row;LHullyardSurveys$Row;LHullyardSurveys$Row;)V"⟩ : Cond) ∈ GW := gw3 194 rfl rfl
set_option maxRecDepth 20000 in
theorem w_737 : (.static ⟨"HullyardSurveys$Hulls", "addUp", "(LHullyardSurveys$Row;LHullyardSurveys$Row;LHullyardSurveys$Row;)V"⟩ : Cond) ∈ GW := gw3 195 rfl rfl
set_option maxRecDepth 20000 in
theorem w_738 : (.code ⟨"HullyardSurveys$Hulls", "addUp", "(LHullyardSurveys$Row;LHullyardSurveys$Row;LHullyardSurveys$Row;)V"⟩ prog_3_method_6_code 11 none : Cond) ∈ GW := gw3 196 rfl rfl
set_option maxRecDepth 20000 in
theorem w_739 : (.methodLink "HullyardSurveys$Hulls" 64 ⟨"HullyardSurveys$Hulls", "compareEdges", "(LHullyardSurveys$Row;ILHullyardSurveys$Row;I)I"⟩ : Cond) ∈ GW := gw3 197 rfl rfl
set_option maxRecDepth 20000 in
theorem w_740 : (.static ⟨"HullyardSurveys$Hulls", "compareEdges", "(LHullyardSurveys$Row;ILHullyardSurveys$Row;I)I"⟩ : Cond) ∈ GW := gw3 198 rfl rfl
set_option maxRecDepth 20000 in
theorem w_741 : (.code ⟨"HullyardSurveys$Hulls", "compareEdges", "(LHullyardSurveys$Row;ILHullyardSurveys$Row;I)I"⟩ prog_3_method_7_code 10 (some .int) : Cond) ∈ GW := gw3 199 rfl rfl
set_option maxRecDepth 20000 in
theorem w_742 : (.methodLink "HullyardSurveys$Hulls" 68 ⟨"HullyardSurveys$Shapes", "runOf", "(LHullyardSurveys$Row;I)I"⟩ : Cond) ∈ GW := gw3 200 rfl rfl
set_option maxRecDepth 20000 in
theorem w_743 : (.methodLink "HullyardSurveys$Hulls" 72 ⟨"HullyardSurveys$Shapes", "riseOf", "(LHullyardSurveys$Row;I)I"⟩ : Cond) ∈ GW := gw3 201 rfl rfl
set_option maxRecDepth 20000 in
theorem w_744 : (.methodLink "HullyardSurveys$Hulls" 75 ⟨"HullyardSurveys$Hulls", "goesOut", "(II)Z"⟩ : Cond) ∈ GW := gw3 202 rfl rfl
set_option maxRecDepth 20000 in
theorem w_745 : (.static ⟨"HullyardSurveys$Hulls", "goesOut", "(II)Z"⟩ : Cond) ∈ GW := gw3 203 rfl rfl
set_option maxRecDepth 20000 in
theorem w_746 : (.code ⟨"HullyardSurveys$Hulls", "goesOut", "(II)Z"⟩ prog_3_method_8_code 2 (some .boolean) : Cond) ∈ GW := gw3 204 rfl rfl
set_option maxRecDepth 20000 in
theorem w_747 : (.methodLink "HullyardSurveys$Hulls" 79 ⟨"HullyardSurveys$Plane", "signOf", "(J)I"⟩ : Cond) ∈ GW := gw3 205 rfl rfl
set_option maxRecDepth 20000 in
theorem w_748 : (.methodLink "HullyardSurveysLaw" 181 ⟨"HullyardSurveysLaw", "layers", "(LHullyardSurveys;I[J)I"⟩ : Cond) ∈ GW := gw3 206 rfl rfl
set_option maxRecDepth 20000 in
theorem w_749 : (.static ⟨"HullyardSurveysLaw", "layers", "(LHullyardSurveys;I[J)I"⟩ : Cond) ∈ GW := gw3 207 rfl rfl
set_option maxRecDepth 20000 in
theorem w_750 : (.codeWith ⟨"HullyardSurveysLaw", "layers", "(LHullyardSurveys;I[J)I"⟩ method_13_code 4 (some .int) [(0, 9, 12, 13)] : Cond) ∈ GW := gw3 208 rfl rfl
set_option maxRecDepth 20000 in
theorem w_751 : (.methodLink "HullyardSurveysLaw" 50 ⟨"HullyardSurveys", "layers", "(I)I"⟩ : Cond) ∈ GW := gw3 209 rfl rfl
set_option maxRecDepth 20000 in
theorem w_752 : (.instanceMethod ⟨"HullyardSurveys", "layers", "(I)I"⟩ : Cond) ∈ GW := gw3 210 rfl rfl
set_option maxRecDepth 20000 in
theorem w_753 : (.selects "HullyardSurveys" ⟨"HullyardSurveys", "layers", "(I)I"⟩ ⟨"HullyardSurveys", "layers", "(I)I"⟩ : Cond) ∈ GW := gw3 211 rfl rfl
set_option maxRecDepth 20000 in
theorem w_754 : (.code ⟨"HullyardSurveys", "layers", "(I)I"⟩ prog_1_method_12_code 4 (some .int) : Cond) ∈ GW := gw3 212 rfl rfl
set_option maxRecDepth 20000 in
theorem w_755 : (.methodLink "HullyardSurveys" 148 ⟨"HullyardSurveys$Hulls", "peel", "(LHullyardSurveys$Row;LHullyardSurveys$Row;)V"⟩ : Cond) ∈ GW := gw3 213 rfl rfl
set_option maxRecDepth 20000 in
theorem w_756 : (.static ⟨"HullyardSurveys$Hulls", "peel", "(LHullyardSurveys$Row;LHullyardSurveys$Row;)V"⟩ : Cond) ∈ GW := gw3 214 rfl rfl
set_option maxRecDepth 20000 in
theorem w_757 : (.code ⟨"HullyardSurveys$Hulls", "peel", "(LHullyardSurveys$Row;LHullyardSurveys$Row;)V"⟩ prog_3_method_5_code 3 none : Cond) ∈ GW := gw3 215 rfl rfl
set_option maxRecDepth 20000 in
theorem w_758 : (.methodLink "HullyardSurveys$Hulls" 50 ⟨"HullyardSurveys$Hulls", "wrap", "(LHullyardSurveys$Row;LHullyardSurveys$Row;)V"⟩ : Cond) ∈ GW := gw3 216 rfl rfl
set_option maxRecDepth 20000 in
theorem w_759 : (.methodLink "HullyardSurveys$Hulls" 54 ⟨"HullyardSurveys$Shapes", "whereIs", "(LHullyardSurveys$Row;IJJ)I"⟩ : Cond) ∈ GW := gw3 217 rfl rfl
set_option maxRecDepth 20000 in
theorem w_760 : (.methodLink "HullyardSurveys$Hulls" 60 ⟨"HullyardSurveys$Row", "remove", "(I)V"⟩ : Cond) ∈ GW := gw3 218 rfl rfl
set_option maxRecDepth 20000 in
theorem w_761 : (.methodLink "HullyardSurveysLaw" 184 ⟨"HullyardSurveysLaw", "layer", "(LHullyardSurveys;II[J)I"⟩ : Cond) ∈ GW := gw3 219 rfl rfl
set_option maxRecDepth 20000 in
theorem w_762 : (.static ⟨"HullyardSurveysLaw", "layer", "(LHullyardSurveys;II[J)I"⟩ : Cond) ∈ GW := gw3 220 rfl rfl
set_option maxRecDepth 20000 in
theorem w_763 : (.codeWith ⟨"HullyardSurveysLaw", "layer", "(LHullyardSurveys;II[J)I"⟩ method_14_code 5 (some .int) [(0, 10, 13, 13), (0, 10, 17, 21)] : Cond) ∈ GW := gw3 221 rfl rfl
set_option maxRecDepth 20000 in
theorem w_764 : (.methodLink "HullyardSurveysLaw" 53 ⟨"HullyardSurveys", "layer", "(II)I"⟩ : Cond) ∈ GW := gw3 222 rfl rfl
set_option maxRecDepth 20000 in
theorem w_765 : (.instanceMethod ⟨"HullyardSurveys", "layer", "(II)I"⟩ : Cond) ∈ GW := gw3 223 rfl rfl
set_option maxRecDepth 20000 in
theorem w_766 : (.selects "HullyardSurveys" ⟨"HullyardSurveys", "layer", "(II)I"⟩ ⟨"HullyardSurveys", "layer", "(II)I"⟩ : Cond) ∈ GW := gw3 224 rfl rfl
set_option maxRecDepth 20000 in
theorem w_767 : (.code ⟨"HullyardSurveys", "layer", "(II)I"⟩ prog_1_method_13_code 5 (some .int) : Cond) ∈ GW := gw3 225 rfl rfl
set_option maxRecDepth 20000 in
theorem w_768 : (.methodLink "HullyardSurveys" 151 ⟨"java/lang/Math", "min", "(II)I"⟩ : Cond) ∈ GW := gw3 226 rfl rfl
set_option maxRecDepth 20000 in
theorem w_770 : (.methodLink "HullyardSurveysLaw" 187 ⟨"HullyardSurveysLaw", "hullOf", "(LHullyardSurveys;I[J)I"⟩ : Cond) ∈ GW := gw3 228 rfl rfl
set_option maxRecDepth 20000 in
theorem w_771 : (.static ⟨"HullyardSurveysLaw", "hullOf", "(LHullyardSurveys;I[J)I"⟩ : Cond) ∈ GW := gw3 229 rfl rfl
set_option maxRecDepth 20000 in
theorem w_772 : (.codeWith ⟨"HullyardSurveysLaw", "hullOf", "(LHullyardSurveys;I[J)I"⟩ method_15_code 4 (some .int) [(0, 9, 12, 13), (0, 9, 15, 42)] : Cond) ∈ GW := gw3 230 rfl rfl
set_option maxRecDepth 20000 in
theorem w_773 : (.methodLink "HullyardSurveysLaw" 56 ⟨"HullyardSurveys", "hullOf", "(I)I"⟩ : Cond) ∈ GW := gw3 231 rfl rfl
set_option maxRecDepth 20000 in
theorem w_774 : (.instanceMethod ⟨"HullyardSurveys", "hullOf", "(I)I"⟩ : Cond) ∈ GW := gw3 232 rfl rfl
set_option maxRecDepth 20000 in
theorem w_775 : (.selects "HullyardSurveys" ⟨"HullyardSurveys", "hullOf", "(I)I"⟩ ⟨"HullyardSurveys", "hullOf", "(I)I"⟩ : Cond) ∈ GW := gw3 233 rfl rfl
set_option maxRecDepth 20000 in
theorem w_776 : (.code ⟨"HullyardSurveys", "hullOf", "(I)I"⟩ prog_1_method_14_code 4 (some .int) : Cond) ∈ GW := gw3 234 rfl rfl
set_option maxRecDepth 20000 in
theorem w_777 : (.methodLink "HullyardSurveys" 159 ⟨"HullyardSurveys", "requirePolygon", "(I)LHullyardSurveys$Row;"⟩ : Cond) ∈ GW := gw3 235 rfl rfl
set_option maxRecDepth 20000 in
theorem w_779 : (.instanceMethod ⟨"HullyardSurveys", "requirePolygon", "(I)LHullyardSurveys$Row;"⟩ : Cond) ∈ GW := gw3 237 rfl rfl
set_option maxRecDepth 20000 in
theorem w_780 : (.code ⟨"HullyardSurveys", "requirePolygon", "(I)LHullyardSurveys$Row;"⟩ prog_1_method_58_code 2 (some (.object "HullyardSurveys$Row")) : Cond) ∈ GW := gw3 238 rfl rfl
set_option maxRecDepth 20000 in
theorem w_783 : (.methodLink "HullyardSurveys" 171 ⟨"HullyardSurveys$Row", "insertInOrder", "(III)V"⟩ : Cond) ∈ GW := gw4 1 rfl rfl
set_option maxRecDepth 20000 in
theorem w_784 : (.methodLink "HullyardSurveysLaw" 194 ⟨"HullyardSurveysLaw", "corner", "(LHullyardSurveys;IZ[J)I"⟩ : Cond) ∈ GW := gw4 2 rfl rfl
set_option maxRecDepth 20000 in
theorem w_785 : (.static ⟨"HullyardSurveysLaw", "corner", "(LHullyardSurveys;IZ[J)I"⟩ : Cond) ∈ GW := gw4 3 rfl rfl
set_option maxRecDepth 20000 in
theorem w_786 : (.codeWith ⟨"HullyardSurveysLaw", "corner", "(LHullyardSurveys;IZ[J)I"⟩ method_16_code 5 (some .int) [(0, 10, 13, 21)] : Cond) ∈ GW := gw4 4 rfl rfl
set_option maxRecDepth 20000 in
theorem w_787 : (.methodLink "HullyardSurveysLaw" 59 ⟨"HullyardSurveys", "corner", "(IZ)I"⟩ : Cond) ∈ GW := gw4 5 rfl rfl
set_option maxRecDepth 20000 in
theorem w_788 : (.instanceMethod ⟨"HullyardSurveys", "corner", "(IZ)I"⟩ : Cond) ∈ GW := gw4 6 rfl rfl
set_option maxRecDepth 20000 in
theorem w_789 : (.selects "HullyardSurveys" ⟨"HullyardSurveys", "corner", "(IZ)I"⟩ ⟨"HullyardSurveys", "corner", "(IZ)I"⟩ : Cond) ∈ GW := gw4 7 rfl rfl
set_option maxRecDepth 20000 in
theorem w_790 : (.code ⟨"HullyardSurveys", "corner", "(IZ)I"⟩ prog_1_method_16_code 3 (some .int) : Cond) ∈ GW := gw4 8 rfl rfl
set_option maxRecDepth 20000 in
theorem w_791 : (.methodLink "HullyardSurveys" 174 ⟨"HullyardSurveys", "requireCorner", "(LHullyardSurveys$Row;I)V"⟩ : Cond) ∈ GW := gw4 9 rfl rfl
set_option maxRecDepth 20000 in
theorem w_792 : (.static ⟨"HullyardSurveys", "requireCorner", "(LHullyardSurveys$Row;I)V"⟩ : Cond) ∈ GW := gw4 10 rfl rfl
set_option maxRecDepth 20000 in
theorem w_793 : (.code ⟨"HullyardSurveys", "requireCorner", "(LHullyardSurveys$Row;I)V"⟩ prog_1_method_54_code 2 none : Cond) ∈ GW := gw4 11 rfl rfl
set_option maxRecDepth 20000 in
theorem w_795 : (.methodLink "HullyardSurveysLaw" 214 ⟨"HullyardSurveysLaw", "width", "(LHullyardSurveys;Z[J)I"⟩ : Cond) ∈ GW := gw4 13 rfl rfl
set_option maxRecDepth 20000 in
theorem w_796 : (.static ⟨"HullyardSurveysLaw", "width", "(LHullyardSurveys;Z[J)I"⟩ : Cond) ∈ GW := gw4 14 rfl rfl
set_option maxRecDepth 20000 in
theorem w_797 : (.codeWith ⟨"HullyardSurveysLaw", "width", "(LHullyardSurveys;Z[J)I"⟩ method_17_code 4 (some .int) [(0, 8, 11, 15)] : Cond) ∈ GW := gw4 15 rfl rfl
set_option maxRecDepth 20000 in
theorem w_798 : (.methodLink "HullyardSurveysLaw" 63 ⟨"HullyardSurveys", "width", "(Z)J"⟩ : Cond) ∈ GW := gw4 16 rfl rfl
set_option maxRecDepth 20000 in
theorem w_799 : (.instanceMethod ⟨"HullyardSurveys", "width", "(Z)J"⟩ : Cond) ∈ GW := gw4 17 rfl rfl
set_option maxRecDepth 20000 in
theorem w_800 : (.selects "HullyardSurveys" ⟨"HullyardSurveys", "width", "(Z)J"⟩ ⟨"HullyardSurveys", "width", "(Z)J"⟩ : Cond) ∈ GW := gw4 18 rfl rfl
set_option maxRecDepth 20000 in
theorem w_801 : (.code ⟨"HullyardSurveys", "width", "(Z)J"⟩ prog_1_method_21_code 2 (some .long) : Cond) ∈ GW := gw4 19 rfl rfl
set_option maxRecDepth 20000 in
theorem w_803 : (.methodLink "HullyardSurveys" 200 ⟨"HullyardSurveys$Shapes", "squaredWidth", "(LHullyardSurveys$Row;Z)J"⟩ : Cond) ∈ GW := gw4 21 rfl rfl
set_option maxRecDepth 20000 in
theorem w_804 : (.static ⟨"HullyardSurveys$Shapes", "squaredWidth", "(LHullyardSurveys$Row;Z)J"⟩ : Cond) ∈ GW := gw4 22 rfl rfl
set_option maxRecDepth 20000 in
theorem w_805 : (.code ⟨"HullyardSurveys$Shapes", "squaredWidth", "(LHullyardSurveys$Row;Z)J"⟩ prog_7_method_11_code 15 (some .long) : Cond) ∈ GW := gw4 23 rfl rfl
set_option maxRecDepth 20000 in
theorem w_806 : (.methodLink "HullyardSurveys$Shapes" 61 ⟨"HullyardSurveys$Shapes", "reachFrom", "(LHullyardSurveys$Row;I)J"⟩ : Cond) ∈ GW := gw4 24 rfl rfl
set_option maxRecDepth 20000 in
theorem w_807 : (.static ⟨"HullyardSurveys$Shapes", "reachFrom", "(LHullyardSurveys$Row;I)J"⟩ : Cond) ∈ GW := gw4 25 rfl rfl
set_option maxRecDepth 20000 in
theorem w_808 : (.code ⟨"HullyardSurveys$Shapes", "reachFrom", "(LHullyardSurveys$Row;I)J"⟩ prog_7_method_12_code 5 (some .long) : Cond) ∈ GW := gw4 26 rfl rfl
set_option maxRecDepth 20000 in
theorem w_809 : (.methodLink "HullyardSurveys$Shapes" 65 ⟨"HullyardSurveys$Shapes", "twistOf", "(LHullyardSurveys$Row;III)J"⟩ : Cond) ∈ GW := gw4 27 rfl rfl
set_option maxRecDepth 20000 in
theorem w_810 : (.methodLink "HullyardSurveys$Shapes" 69 ⟨"java/lang/Math", "max", "(JJ)J"⟩ : Cond) ∈ GW := gw4 28 rfl rfl
set_option maxRecDepth 20000 in
theorem w_811 : (.methodLink "HullyardSurveysLaw" 218 ⟨"HullyardSurveysLaw", "add", "(LHullyardSurveys;III[J)I"⟩ : Cond) ∈ GW := gw4 29 rfl rfl
set_option maxRecDepth 20000 in
theorem w_812 : (.static ⟨"HullyardSurveysLaw", "add", "(LHullyardSurveys;III[J)I"⟩ : Cond) ∈ GW := gw4 30 rfl rfl
set_option maxRecDepth 20000 in
theorem w_813 : (.codeWith ⟨"HullyardSurveysLaw", "add", "(LHullyardSurveys;III[J)I"⟩ method_18_code 6 (some .int) [(0, 12, 15, 13), (0, 12, 19, 15)] : Cond) ∈ GW := gw4 31 rfl rfl
set_option maxRecDepth 20000 in
theorem w_814 : (.methodLink "HullyardSurveysLaw" 67 ⟨"HullyardSurveys", "add", "(III)I"⟩ : Cond) ∈ GW := gw4 32 rfl rfl
set_option maxRecDepth 20000 in
theorem w_815 : (.instanceMethod ⟨"HullyardSurveys", "add", "(III)I"⟩ : Cond) ∈ GW := gw4 33 rfl rfl
set_option maxRecDepth 20000 in
theorem w_816 : (.selects "HullyardSurveys" ⟨"HullyardSurveys", "add", "(III)I"⟩ ⟨"HullyardSurveys", "add", "(III)I"⟩ : Cond) ∈ GW := gw4 34 rfl rfl
set_option maxRecDepth 20000 in
theorem w_817 : (.code ⟨"HullyardSurveys", "add", "(III)I"⟩ prog_1_method_22_code 5 (some .int) : Cond) ∈ GW := gw4 35 rfl rfl
set_option maxRecDepth 20000 in
theorem w_819 : (.methodLink "HullyardSurveysLaw" 221 ⟨"HullyardSurveysLaw", "clear", "(LHullyardSurveys;I[J)I"⟩ : Cond) ∈ GW := gw4 37 rfl rfl
set_option maxRecDepth 20000 in
theorem w_820 : (.static ⟨"HullyardSurveysLaw", "clear", "(LHullyardSurveys;I[J)I"⟩ : Cond) ∈ GW := gw4 38 rfl rfl
set_option maxRecDepth 20000 in
theorem w_821 : (.codeWith ⟨"HullyardSurveysLaw", "clear", "(LHullyardSurveys;I[J)I"⟩ method_19_code 4 (some .int) [(0, 9, 12, 13)] : Cond) ∈ GW := gw4 39 rfl rfl
set_option maxRecDepth 20000 in
theorem w_822 : (.methodLink "HullyardSurveysLaw" 70 ⟨"HullyardSurveys", "clear", "(I)I"⟩ : Cond) ∈ GW := gw4 40 rfl rfl
set_option maxRecDepth 20000 in
theorem w_823 : (.instanceMethod ⟨"HullyardSurveys", "clear", "(I)I"⟩ : Cond) ∈ GW := gw4 41 rfl rfl
set_option maxRecDepth 20000 in
theorem w_824 : (.selects "HullyardSurveys" ⟨"HullyardSurveys", "clear", "(I)I"⟩ ⟨"HullyardSurveys", "clear", "(I)I"⟩ : Cond) ∈ GW := gw4 42 rfl rfl
set_option maxRecDepth 20000 in
theorem w_825 : (.code ⟨"HullyardSurveys", "clear", "(I)I"⟩ prog_1_method_23_code 4 (some .int) : Cond) ∈ GW := gw4 43 rfl rfl
set_option maxRecDepth 20000 in
theorem w_826 : (.methodLink "HullyardSurveysLaw" 224 ⟨"HullyardSurveysLaw", "isSimple", "(LHullyardSurveys;I[J)I"⟩ : Cond) ∈ GW := gw4 44 rfl rfl
set_option maxRecDepth 20000 in
theorem w_827 : (.static ⟨"HullyardSurveysLaw", "isSimple", "(LHullyardSurveys;I[J)I"⟩ : Cond) ∈ GW := gw4 45 rfl rfl
set_option maxRecDepth 20000 in
theorem w_828 : (.codeWith ⟨"HullyardSurveysLaw", "isSimple", "(LHullyardSurveys;I[J)I"⟩ method_20_code 4 (some .int) [(0, 16, 19, 13)] : Cond) ∈ GW := gw4 46 rfl rfl
set_option maxRecDepth 20000 in
theorem w_829 : (.methodLink "HullyardSurveysLaw" 73 ⟨"HullyardSurveys", "isSimple", "(I)Z"⟩ : Cond) ∈ GW := gw4 47 rfl rfl
set_option maxRecDepth 20000 in
theorem w_830 : (.instanceMethod ⟨"HullyardSurveys", "isSimple", "(I)Z"⟩ : Cond) ∈ GW := gw4 48 rfl rfl
set_option maxRecDepth 20000 in
theorem w_831 : (.selects "HullyardSurveys" ⟨"HullyardSurveys", "isSimple", "(I)Z"⟩ ⟨"HullyardSurveys", "isSimple", "(I)Z"⟩ : Cond) ∈ GW := gw4 49 rfl rfl
set_option maxRecDepth 20000 in
theorem w_832 : (.code ⟨"HullyardSurveys", "isSimple", "(I)Z"⟩ prog_1_method_24_code 2 (some .boolean) : Cond) ∈ GW := gw4 50 rfl rfl
set_option maxRecDepth 20000 in
theorem w_833 : (.methodLink "HullyardSurveysLaw" 227 ⟨"HullyardSurveysLaw", "polygonArea", "(LHullyardSurveys;I[J)I"⟩ : Cond) ∈ GW := gw4 51 rfl rfl
set_option maxRecDepth 20000 in
theorem w_834 : (.static ⟨"HullyardSurveysLaw", "polygonArea", "(LHullyardSurveys;I[J)I"⟩ : Cond) ∈ GW := gw4 52 rfl rfl
set_option maxRecDepth 20000 in
theorem w_835 : (.codeWith ⟨"HullyardSurveysLaw", "polygonArea", "(LHullyardSurveys;I[J)I"⟩ method_21_code 4 (some .int) [(0, 9, 12, 13)] : Cond) ∈ GW := gw4 53 rfl rfl
set_option maxRecDepth 20000 in
theorem w_836 : (.methodLink "HullyardSurveysLaw" 77 ⟨"HullyardSurveys", "polygonArea", "(I)I"⟩ : Cond) ∈ GW := gw4 54 rfl rfl
set_option maxRecDepth 20000 in
theorem w_837 : (.instanceMethod ⟨"HullyardSurveys", "polygonArea", "(I)I"⟩ : Cond) ∈ GW := gw4 55 rfl rfl
set_option maxRecDepth 20000 in
theorem w_838 : (.selects "HullyardSurveys" ⟨"HullyardSurveys", "polygonArea", "(I)I"⟩ ⟨"HullyardSurveys", "polygonArea", "(I)I"⟩ : Cond) ∈ GW := gw4 56 rfl rfl
set_option maxRecDepth 20000 in
theorem w_839 : (.code ⟨"HullyardSurveys", "polygonArea", "(I)I"⟩ prog_1_method_25_code 2 (some .int) : Cond) ∈ GW := gw4 57 rfl rfl
set_option maxRecDepth 20000 in
theorem w_840 : (.methodLink "HullyardSurveysLaw" 230 ⟨"HullyardSurveysLaw", "polygonEdge", "(LHullyardSurveys;I[J)I"⟩ : Cond) ∈ GW := gw4 58 rfl rfl
set_option maxRecDepth 20000 in
theorem w_841 : (.static ⟨"HullyardSurveysLaw", "polygonEdge", "(LHullyardSurveys;I[J)I"⟩ : Cond) ∈ GW := gw4 59 rfl rfl
set_option maxRecDepth 20000 in
theorem w_842 : (.codeWith ⟨"HullyardSurveysLaw", "polygonEdge", "(LHullyardSurveys;I[J)I"⟩ method_22_code 4 (some .int) [(0, 9, 12, 13), (0, 9, 15, 15)] : Cond) ∈ GW := gw4 60 rfl rfl
set_option maxRecDepth 20000 in
theorem w_843 : (.methodLink "HullyardSurveysLaw" 80 ⟨"HullyardSurveys", "polygonEdge", "(I)I"⟩ : Cond) ∈ GW := gw4 61 rfl rfl
set_option maxRecDepth 20000 in
theorem w_844 : (.instanceMethod ⟨"HullyardSurveys", "polygonEdge", "(I)I"⟩ : Cond) ∈ GW := gw4 62 rfl rfl
set_option maxRecDepth 20000 in
theorem w_845 : (.selects "HullyardSurveys" ⟨"HullyardSurveys", "polygonEdge", "(I)I"⟩ ⟨"HullyardSurveys", "polygonEdge", "(I)I"⟩ : Cond) ∈ GW := gw4 63 rfl rfl
set_option maxRecDepth 20000 in
theorem w_846 : (.code ⟨"HullyardSurveys", "polygonEdge", "(I)I"⟩ prog_1_method_26_code 2 (some .int) : Cond) ∈ GW := gw4 64 rfl rfl
set_option maxRecDepth 20000 in
theorem w_847 : (.methodLink "HullyardSurveys" 210 ⟨"HullyardSurveys", "requireSimple", "(I)LHullyardSurveys$Row;"⟩ : Cond) ∈ GW := gw4 65 rfl rfl
set_option maxRecDepth 20000 in
theorem w_849 : (.instanceMethod ⟨"HullyardSurveys", "requireSimple", "(I)LHullyardSurveys$Row;"⟩ : Cond) ∈ GW := gw4 67 rfl rfl
set_option maxRecDepth 20000 in
theorem w_850 : (.code ⟨"HullyardSurveys", "requireSimple", "(I)LHullyardSurveys$Row;"⟩ prog_1_method_59_code 3 (some (.object "HullyardSurveys$Row")) : Cond) ∈ GW := gw4 68 rfl rfl
set_option maxRecDepth 20000 in
theorem w_852 : (.methodLink "HullyardSurveysLaw" 233 ⟨"HullyardSurveysLaw", "polygonInner", "(LHullyardSurveys;I[J)I"⟩ : Cond) ∈ GW := gw4 70 rfl rfl
set_option maxRecDepth 20000 in
theorem w_853 : (.static ⟨"HullyardSurveysLaw", "polygonInner", "(LHullyardSurveys;I[J)I"⟩ : Cond) ∈ GW := gw4 71 rfl rfl
set_option maxRecDepth 20000 in
theorem w_854 : (.codeWith ⟨"HullyardSurveysLaw", "polygonInner", "(LHullyardSurveys;I[J)I"⟩ method_23_code 4 (some .int) [(0, 9, 12, 13), (0, 9, 15, 15)] : Cond) ∈ GW := gw4 72 rfl rfl
set_option maxRecDepth 20000 in
theorem w_855 : (.methodLink "HullyardSurveysLaw" 83 ⟨"HullyardSurveys", "polygonInner", "(I)I"⟩ : Cond) ∈ GW := gw4 73 rfl rfl
set_option maxRecDepth 20000 in
theorem w_856 : (.instanceMethod ⟨"HullyardSurveys", "polygonInner", "(I)I"⟩ : Cond) ∈ GW := gw4 74 rfl rfl
set_option maxRecDepth 20000 in
theorem w_857 : (.selects "HullyardSurveys" ⟨"HullyardSurveys", "polygonInner", "(I)I"⟩ ⟨"HullyardSurveys", "polygonInner", "(I)I"⟩ : Cond) ∈ GW := gw4 75 rfl rfl
set_option maxRecDepth 20000 in
theorem w_858 : (.code ⟨"HullyardSurveys", "polygonInner", "(I)I"⟩ prog_1_method_27_code 2 (some .int) : Cond) ∈ GW := gw4 76 rfl rfl
set_option maxRecDepth 20000 in
theorem w_859 : (.methodLink "HullyardSurveysLaw" 236 ⟨"HullyardSurveysLaw", "polygonLies", "(LHullyardSurveys;III[J)I"⟩ : Cond) ∈ GW := gw4 77 rfl rfl
set_option maxRecDepth 20000 in
theorem w_860 : (.static ⟨"HullyardSurveysLaw", "polygonLies", "(LHullyardSurveys;III[J)I"⟩ : Cond) ∈ GW := gw4 78 rfl rfl
set_option maxRecDepth 20000 in
theorem w_861 : (.codeWith ⟨"HullyardSurveysLaw", "polygonLies", "(LHullyardSurveys;III[J)I"⟩ method_24_code 6 (some .int) [(0, 12, 15, 13), (0, 12, 19, 15)] : Cond) ∈ GW := gw4 79 rfl rfl
set_option maxRecDepth 20000 in
theorem w_862 : (.methodLink "HullyardSurveysLaw" 86 ⟨"HullyardSurveys", "polygonLies", "(III)I"⟩ : Cond) ∈ GW := gw4 80 rfl rfl
set_option maxRecDepth 20000 in
theorem w_863 : (.instanceMethod ⟨"HullyardSurveys", "polygonLies", "(III)I"⟩ : Cond) ∈ GW := gw4 81 rfl rfl
set_option maxRecDepth 20000 in
theorem w_864 : (.selects "HullyardSurveys" ⟨"HullyardSurveys", "polygonLies", "(III)I"⟩ ⟨"HullyardSurveys", "polygonLies", "(III)I"⟩ : Cond) ∈ GW := gw4 82 rfl rfl
set_option maxRecDepth 20000 in
theorem w_865 : (.code ⟨"HullyardSurveys", "polygonLies", "(III)I"⟩ prog_1_method_28_code 4 (some .int) : Cond) ∈ GW := gw4 83 rfl rfl
set_option maxRecDepth 20000 in
theorem w_866 : (.methodLink "HullyardSurveysLaw" 239 ⟨"HullyardSurveysLaw", "holds", "(LHullyardSurveys;II[J)I"⟩ : Cond) ∈ GW := gw4 84 rfl rfl
set_option maxRecDepth 20000 in
theorem w_867 : (.static ⟨"HullyardSurveysLaw", "holds", "(LHullyardSurveys;II[J)I"⟩ : Cond) ∈ GW := gw4 85 rfl rfl
set_option maxRecDepth 20000 in
theorem w_868 : (.codeWith ⟨"HullyardSurveysLaw", "holds", "(LHullyardSurveys;II[J)I"⟩ method_25_code 5 (some .int) [(0, 10, 13, 13), (0, 10, 17, 15)] : Cond) ∈ GW := gw4 86 rfl rfl
set_option maxRecDepth 20000 in
theorem w_869 : (.methodLink "HullyardSurveysLaw" 89 ⟨"HullyardSurveys", "holds", "(II)I"⟩ : Cond) ∈ GW := gw4 87 rfl rfl
set_option maxRecDepth 20000 in
theorem w_870 : (.instanceMethod ⟨"HullyardSurveys", "holds", "(II)I"⟩ : Cond) ∈ GW := gw4 88 rfl rfl
set_option maxRecDepth 20000 in
theorem w_871 : (.selects "HullyardSurveys" ⟨"HullyardSurveys", "holds", "(II)I"⟩ ⟨"HullyardSurveys", "holds", "(II)I"⟩ : Cond) ∈ GW := gw4 89 rfl rfl
set_option maxRecDepth 20000 in
theorem w_872 : (.code ⟨"HullyardSurveys", "holds", "(II)I"⟩ prog_1_method_29_code 6 (some .int) : Cond) ∈ GW := gw4 90 rfl rfl
set_option maxRecDepth 20000 in
theorem w_873 : (.methodLink "HullyardSurveysLaw" 242 ⟨"HullyardSurveysLaw", "triangles", "(LHullyardSurveys;I[J)I"⟩ : Cond) ∈ GW := gw4 91 rfl rfl
set_option maxRecDepth 20000 in
theorem w_874 : (.static ⟨"HullyardSurveysLaw", "triangles", "(LHullyardSurveys;I[J)I"⟩ : Cond) ∈ GW := gw4 92 rfl rfl
set_option maxRecDepth 20000 in
theorem w_875 : (.codeWith ⟨"HullyardSurveysLaw", "triangles", "(LHullyardSurveys;I[J)I"⟩ method_26_code 4 (some .int) [(0, 9, 12, 13), (0, 9, 15, 15)] : Cond) ∈ GW := gw4 93 rfl rfl
set_option maxRecDepth 20000 in
theorem w_876 : (.methodLink "HullyardSurveysLaw" 92 ⟨"HullyardSurveys", "triangles", "(I)I"⟩ : Cond) ∈ GW := gw4 94 rfl rfl
set_option maxRecDepth 20000 in
theorem w_877 : (.instanceMethod ⟨"HullyardSurveys", "triangles", "(I)I"⟩ : Cond) ∈ GW := gw4 95 rfl rfl
set_option maxRecDepth 20000 in
theorem w_878 : (.selects "HullyardSurveys" ⟨"HullyardSurveys", "triangles", "(I)I"⟩ ⟨"HullyardSurveys", "triangles", "(I)I"⟩ : Cond) ∈ GW := gw4 96 rfl rfl
set_option maxRecDepth 20000 in
theorem w_879 : (.code ⟨"HullyardSurveys", "triangles", "(I)I"⟩ prog_1_method_30_code 2 (some .int) : Cond) ∈ GW := gw4 97 rfl rfl
set_option maxRecDepth 20000 in
theorem w_880 : (.methodLink "HullyardSurveys" 217 ⟨"HullyardSurveys$Parting", "made", "()I"⟩ : Cond) ∈ GW := gw4 98 rfl rfl
set_option maxRecDepth 20000 in
theorem w_881 : (.instanceMethod ⟨"HullyardSurveys$Parting", "made", "()I"⟩ : Cond) ∈ GW := gw4 99 rfl rfl
set_option maxRecDepth 20000 in
theorem w_882 : (.selects "HullyardSurveys$Parting" ⟨"HullyardSurveys$Parting", "made", "()I"⟩ ⟨"HullyardSurveys$Parting", "made", "()I"⟩ : Cond) ∈ GW := gw4 100 rfl rfl
set_option maxRecDepth 20000 in
theorem w_883 : (.code ⟨"HullyardSurveys$Parting", "made", "()I"⟩ prog_4_method_3_code 1 (some .int) : Cond) ∈ GW := gw4 101 rfl rfl
set_option maxRecDepth 20000 in
theorem w_884 : (.methodLink "HullyardSurveysLaw" 245 ⟨"HullyardSurveysLaw", "triangleAt", "(LHullyardSurveys;II[J)I"⟩ : Cond) ∈ GW := gw4 102 rfl rfl
set_option maxRecDepth 20000 in
theorem w_885 : (.static ⟨"HullyardSurveysLaw", "triangleAt", "(LHullyardSurveys;II[J)I"⟩ : Cond) ∈ GW := gw4 103 rfl rfl
set_option maxRecDepth 20000 in
theorem w_886 : (.codeWith ⟨"HullyardSurveysLaw", "triangleAt", "(LHullyardSurveys;II[J)I"⟩ method_27_code 5 (some .int) [(0, 10, 13, 13), (0, 10, 17, 15), (0, 10, 21, 21)] : Cond) ∈ GW := gw4 104 rfl rfl
set_option maxRecDepth 20000 in
theorem w_887 : (.methodLink "HullyardSurveysLaw" 95 ⟨"HullyardSurveys", "triangleAt", "(II)I"⟩ : Cond) ∈ GW := gw4 105 rfl rfl
set_option maxRecDepth 20000 in
theorem w_888 : (.instanceMethod ⟨"HullyardSurveys", "triangleAt", "(II)I"⟩ : Cond) ∈ GW := gw4 106 rfl rfl
set_option maxRecDepth 20000 in
theorem w_889 : (.selects "HullyardSurveys" ⟨"HullyardSurveys", "triangleAt", "(II)I"⟩ ⟨"HullyardSurveys", "triangleAt", "(II)I"⟩ : Cond) ∈ GW := gw4 107 rfl rfl
set_option maxRecDepth 20000 in
theorem w_890 : (.code ⟨"HullyardSurveys", "triangleAt", "(II)I"⟩ prog_1_method_31_code 3 (some .int) : Cond) ∈ GW := gw4 108 rfl rfl
set_option maxRecDepth 20000 in
theorem w_892 : (.methodLink "HullyardSurveys" 222 ⟨"HullyardSurveys$Parting", "tellTriangle", "(I)I"⟩ : Cond) ∈ GW := gw4 110 rfl rfl
set_option maxRecDepth 20000 in
theorem w_893 : (.instanceMethod ⟨"HullyardSurveys$Parting", "tellTriangle", "(I)I"⟩ : Cond) ∈ GW := gw4 111 rfl rfl
set_option maxRecDepth 20000 in
theorem w_894 : (.selects "HullyardSurveys$Parting" ⟨"HullyardSurveys$Parting", "tellTriangle", "(I)I"⟩ ⟨"HullyardSurveys$Parting", "tellTriangle", "(I)I"⟩ : Cond) ∈ GW := gw4 112 rfl rfl
set_option maxRecDepth 20000 in
theorem w_895 : (.code ⟨"HullyardSurveys$Parting", "tellTriangle", "(I)I"⟩ prog_4_method_5_code 2 (some .int) : Cond) ∈ GW := gw4 113 rfl rfl
set_option maxRecDepth 20000 in
theorem w_896 : (.methodLink "HullyardSurveysLaw" 248 ⟨"HullyardSurveysLaw", "sees", "(LHullyardSurveys;III[J)I"⟩ : Cond) ∈ GW := gw4 114 rfl rfl
set_option maxRecDepth 20000 in
theorem w_897 : (.static ⟨"HullyardSurveysLaw", "sees", "(LHullyardSurveys;III[J)I"⟩ : Cond) ∈ GW := gw4 115 rfl rfl
set_option maxRecDepth 20000 in
theorem w_898 : (.codeWith ⟨"HullyardSurveysLaw", "sees", "(LHullyardSurveys;III[J)I"⟩ method_28_code 6 (some .int) [(0, 19, 22, 13), (0, 19, 26, 21), (0, 19, 30, 15)] : Cond) ∈ GW := gw4 116 rfl rfl
set_option maxRecDepth 20000 in
theorem w_899 : (.methodLink "HullyardSurveysLaw" 98 ⟨"HullyardSurveys", "sees", "(III)Z"⟩ : Cond) ∈ GW := gw4 117 rfl rfl
set_option maxRecDepth 20000 in
theorem w_900 : (.instanceMethod ⟨"HullyardSurveys", "sees", "(III)Z"⟩ : Cond) ∈ GW := gw4 118 rfl rfl
set_option maxRecDepth 20000 in
theorem w_901 : (.selects "HullyardSurveys" ⟨"HullyardSurveys", "sees", "(III)Z"⟩ ⟨"HullyardSurveys", "sees", "(III)Z"⟩ : Cond) ∈ GW := gw4 119 rfl rfl
set_option maxRecDepth 20000 in
theorem w_902 : (.code ⟨"HullyardSurveys", "sees", "(III)Z"⟩ prog_1_method_32_code 5 (some .boolean) : Cond) ∈ GW := gw4 120 rfl rfl
set_option maxRecDepth 20000 in
theorem w_903 : (.methodLink "HullyardSurveys" 225 ⟨"HullyardSurveys$Shapes", "isOpenBetween", "(LHullyardSurveys$Row;II)Z"⟩ : Cond) ∈ GW := gw4 121 rfl rfl
set_option maxRecDepth 20000 in
theorem w_904 : (.static ⟨"HullyardSurveys$Shapes", "isOpenBetween", "(LHullyardSurveys$Row;II)Z"⟩ : Cond) ∈ GW := gw4 122 rfl rfl
set_option maxRecDepth 20000 in
theorem w_905 : (.code ⟨"HullyardSurveys$Shapes", "isOpenBetween", "(LHullyardSurveys$Row;II)Z"⟩ prog_7_method_15_code 5 (some .boolean) : Cond) ∈ GW := gw4 123 rfl rfl
set_option maxRecDepth 20000 in
theorem w_906 : (.methodLink "HullyardSurveys$Shapes" 87 ⟨"HullyardSurveys$Plane", "passThrough", "(LHullyardSurveys$Row;IILHullyardSurveys$Row;II)Z"⟩ : Cond) ∈ GW := gw4 124 rfl rfl
set_option maxRecDepth 20000 in
theorem w_907 : (.methodLink "HullyardSurveys$Shapes" 90 ⟨"HullyardSurveys$Shapes", "whereIsMiddle", "(LHullyardSurveys$Row;II)I"⟩ : Cond) ∈ GW := gw4 125 rfl rfl
set_option maxRecDepth 20000 in
theorem w_908 : (.static ⟨"HullyardSurveys$Shapes", "whereIsMiddle", "(LHullyardSurveys$Row;II)I"⟩ : Cond) ∈ GW := gw4 126 rfl rfl
set_option maxRecDepth 20000 in
theorem w_909 : (.code ⟨"HullyardSurveys$Shapes", "whereIsMiddle", "(LHullyardSurveys$Row;II)I"⟩ prog_7_method_16_code 7 (some .int) : Cond) ∈ GW := gw4 127 rfl rfl
set_option maxRecDepth 20000 in
theorem w_910 : (.methodLink "HullyardSurveys$Shapes" 94 ⟨"HullyardSurveys$Shapes", "whereIs", "(LHullyardSurveys$Row;IJJ)I"⟩ : Cond) ∈ GW := gw4 128 rfl rfl
set_option maxRecDepth 20000 in
theorem w_911 : (.methodLink "HullyardSurveysLaw" 251 ⟨"HullyardSurveysLaw", "view", "(LHullyardSurveys;II[J)I"⟩ : Cond) ∈ GW := gw4 129 rfl rfl
set_option maxRecDepth 20000 in
theorem w_912 : (.static ⟨"HullyardSurveysLaw", "view", "(LHullyardSurveys;II[J)I"⟩ : Cond) ∈ GW := gw4 130 rfl rfl
set_option maxRecDepth 20000 in
theorem w_913 : (.codeWith ⟨"HullyardSurveysLaw", "view", "(LHullyardSurveys;II[J)I"⟩ method_29_code 5 (some .int) [(0, 10, 13, 13), (0, 10, 17, 21), (0, 10, 21, 15)] : Cond) ∈ GW := gw4 131 rfl rfl
set_option maxRecDepth 20000 in
theorem w_914 : (.methodLink "HullyardSurveysLaw" 102 ⟨"HullyardSurveys", "view", "(II)I"⟩ : Cond) ∈ GW := gw4 132 rfl rfl
set_option maxRecDepth 20000 in
theorem w_915 : (.instanceMethod ⟨"HullyardSurveys", "view", "(II)I"⟩ : Cond) ∈ GW := gw4 133 rfl rfl
set_option maxRecDepth 20000 in
theorem w_916 : (.selects "HullyardSurveys" ⟨"HullyardSurveys", "view", "(II)I"⟩ ⟨"HullyardSurveys", "view", "(II)I"⟩ : Cond) ∈ GW := gw4 134 rfl rfl
set_option maxRecDepth 20000 in
theorem w_917 : (.code ⟨"HullyardSurveys", "view", "(II)I"⟩ prog_1_method_33_code 6 (some .int) : Cond) ∈ GW := gw4 135 rfl rfl
set_option maxRecDepth 20000 in
theorem w_918 : (.methodLink "HullyardSurveysLaw" 254 ⟨"HullyardSurveysLaw", "line", "(LHullyardSurveys;IIII[J)I"⟩ : Cond) ∈ GW := gw4 136 rfl rfl
set_option maxRecDepth 20000 in
theorem w_919 : (.static ⟨"HullyardSurveysLaw", "line", "(LHullyardSurveys;IIII[J)I"⟩ : Cond) ∈ GW := gw4 137 rfl rfl
set_option maxRecDepth 20000 in
theorem w_920 : (.codeWith ⟨"HullyardSurveysLaw", "line", "(LHullyardSurveys;IIII[J)I"⟩ method_30_code 7 (some .int) [(0, 14, 17, 13), (0, 14, 21, 15)] : Cond) ∈ GW := gw4 138 rfl rfl
set_option maxRecDepth 20000 in
theorem w_921 : (.methodLink "HullyardSurveysLaw" 105 ⟨"HullyardSurveys", "line", "(IIII)I"⟩ : Cond) ∈ GW := gw4 139 rfl rfl
set_option maxRecDepth 20000 in
theorem w_922 : (.instanceMethod ⟨"HullyardSurveys", "line", "(IIII)I"⟩ : Cond) ∈ GW := gw4 140 rfl rfl
set_option maxRecDepth 20000 in
theorem w_923 : (.selects "HullyardSurveys" ⟨"HullyardSurveys", "line", "(IIII)I"⟩ ⟨"HullyardSurveys", "line", "(IIII)I"⟩ : Cond) ∈ GW := gw4 141 rfl rfl
set_option maxRecDepth 20000 in
theorem w_924 : (.code ⟨"HullyardSurveys", "line", "(IIII)I"⟩ prog_1_method_34_code 5 (some .int) : Cond) ∈ GW := gw4 142 rfl rfl
set_option maxRecDepth 20000 in
theorem w_926 : (.methodLink "HullyardSurveysLaw" 262 ⟨"HullyardSurveysLaw", "cross", "(LHullyardSurveys;II[J)I"⟩ : Cond) ∈ GW := gw4 144 rfl rfl
set_option maxRecDepth 20000 in
theorem w_927 : (.static ⟨"HullyardSurveysLaw", "cross", "(LHullyardSurveys;II[J)I"⟩ : Cond) ∈ GW := gw4 145 rfl rfl
set_option maxRecDepth 20000 in
theorem w_928 : (.codeWith ⟨"HullyardSurveysLaw", "cross", "(LHullyardSurveys;II[J)I"⟩ method_31_code 5 (some .int) [(0, 17, 20, 21)] : Cond) ∈ GW := gw4 146 rfl rfl
set_option maxRecDepth 20000 in
theorem w_929 : (.methodLink "HullyardSurveysLaw" 109 ⟨"HullyardSurveys", "cross", "(II)Z"⟩ : Cond) ∈ GW := gw4 147 rfl rfl
set_option maxRecDepth 20000 in
theorem w_930 : (.instanceMethod ⟨"HullyardSurveys", "cross", "(II)Z"⟩ : Cond) ∈ GW := gw4 148 rfl rfl
set_option maxRecDepth 20000 in
theorem w_931 : (.selects "HullyardSurveys" ⟨"HullyardSurveys", "cross", "(II)Z"⟩ ⟨"HullyardSurveys", "cross", "(II)Z"⟩ : Cond) ∈ GW := gw4 149 rfl rfl
set_option maxRecDepth 20000 in
theorem w_932 : (.code ⟨"HullyardSurveys", "cross", "(II)Z"⟩ prog_1_method_36_code 3 (some .boolean) : Cond) ∈ GW := gw4 150 rfl rfl
set_option maxRecDepth 20000 in
theorem w_933 : (.methodLink "HullyardSurveys" 237 ⟨"HullyardSurveys", "requireLine", "(I)V"⟩ : Cond) ∈ GW := gw4 151 rfl rfl
set_option maxRecDepth 20000 in
theorem w_935 : (.instanceMethod ⟨"HullyardSurveys", "requireLine", "(I)V"⟩ : Cond) ∈ GW := gw4 153 rfl rfl
set_option maxRecDepth 20000 in
theorem w_936 : (.code ⟨"HullyardSurveys", "requireLine", "(I)V"⟩ prog_1_method_53_code 2 none : Cond) ∈ GW := gw4 154 rfl rfl
set_option maxRecDepth 20000 in
theorem w_938 : (.methodLink "HullyardSurveysLaw" 269 ⟨"HullyardSurveysLaw", "crossingAt", "(LHullyardSurveys;I[J)I"⟩ : Cond) ∈ GW := gw4 156 rfl rfl
set_option maxRecDepth 20000 in
theorem w_939 : (.static ⟨"HullyardSurveysLaw", "crossingAt", "(LHullyardSurveys;I[J)I"⟩ : Cond) ∈ GW := gw4 157 rfl rfl
set_option maxRecDepth 20000 in
theorem w_940 : (.codeWith ⟨"HullyardSurveysLaw", "crossingAt", "(LHullyardSurveys;I[J)I"⟩ method_32_code 4 (some .int) [(0, 9, 12, 21)] : Cond) ∈ GW := gw4 158 rfl rfl
set_option maxRecDepth 20000 in
theorem w_941 : (.methodLink "HullyardSurveysLaw" 113 ⟨"HullyardSurveys", "crossingAt", "(I)I"⟩ : Cond) ∈ GW := gw4 159 rfl rfl
set_option maxRecDepth 20000 in
theorem w_942 : (.instanceMethod ⟨"HullyardSurveys", "crossingAt", "(I)I"⟩ : Cond) ∈ GW := gw4 160 rfl rfl
set_option maxRecDepth 20000 in
theorem w_943 : (.selects "HullyardSurveys" ⟨"HullyardSurveys", "crossingAt", "(I)I"⟩ ⟨"HullyardSurveys", "crossingAt", "(I)I"⟩ : Cond) ∈ GW := gw4 161 rfl rfl
set_option maxRecDepth 20000 in
theorem w_944 : (.code ⟨"HullyardSurveys", "crossingAt", "(I)I"⟩ prog_1_method_38_code 5 (some .int) : Cond) ∈ GW := gw4 162 rfl rfl
set_option maxRecDepth 20000 in
theorem w_946 : (.methodLink "HullyardSurveysLaw" 272 ⟨"HullyardSurveysLaw", "pair", "(LHullyardSurveys;IZ[J)I"⟩ : Cond) ∈ GW := gw4 164 rfl rfl
set_option maxRecDepth 20000 in
theorem w_947 : (.static ⟨"HullyardSurveysLaw", "pair", "(LHullyardSurveys;IZ[J)I"⟩ : Cond) ∈ GW := gw4 165 rfl rfl
set_option maxRecDepth 20000 in
theorem w_948 : (.codeWith ⟨"HullyardSurveysLaw", "pair", "(LHullyardSurveys;IZ[J)I"⟩ method_33_code 5 (some .int) [(0, 10, 13, 13), (0, 10, 17, 42)] : Cond) ∈ GW := gw4 166 rfl rfl
set_option maxRecDepth 20000 in
theorem w_949 : (.methodLink "HullyardSurveysLaw" 116 ⟨"HullyardSurveys", "pair", "(IZ)I"⟩ : Cond) ∈ GW := gw4 167 rfl rfl
set_option maxRecDepth 20000 in
theorem w_950 : (.instanceMethod ⟨"HullyardSurveys", "pair", "(IZ)I"⟩ : Cond) ∈ GW := gw4 168 rfl rfl
set_option maxRecDepth 20000 in
theorem w_951 : (.selects "HullyardSurveys" ⟨"HullyardSurveys", "pair", "(IZ)I"⟩ ⟨"HullyardSurveys", "pair", "(IZ)I"⟩ : Cond) ∈ GW := gw4 169 rfl rfl
set_option maxRecDepth 20000 in
theorem w_952 : (.code ⟨"HullyardSurveys", "pair", "(IZ)I"⟩ prog_1_method_39_code 3 (some .int) : Cond) ∈ GW := gw4 170 rfl rfl
set_option maxRecDepth 20000 in
theorem w_953 : (.methodLink "HullyardSurveys" 246 ⟨"HullyardSurveys", "requireTwoPoints", "(I)V"⟩ : Cond) ∈ GW := gw4 171 rfl rfl
set_option maxRecDepth 20000 in
theorem w_955 : (.instanceMethod ⟨"HullyardSurveys", "requireTwoPoints", "(I)V"⟩ : Cond) ∈ GW := gw4 173 rfl rfl
set_option maxRecDepth 20000 in
theorem w_956 : (.code ⟨"HullyardSurveys", "requireTwoPoints", "(I)V"⟩ prog_1_method_57_code 2 none : Cond) ∈ GW := gw4 174 rfl rfl
set_option maxRecDepth 20000 in
theorem w_958 : (.methodLink "HullyardSurveys" 249 ⟨"HullyardSurveys$Yard", "extremePair", "(IZ)I"⟩ : Cond) ∈ GW := gw4 176 rfl rfl
set_option maxRecDepth 20000 in
theorem w_959 : (.instanceMethod ⟨"HullyardSurveys$Yard", "extremePair", "(IZ)I"⟩ : Cond) ∈ GW := gw4 177 rfl rfl
set_option maxRecDepth 20000 in
theorem w_960 : (.selects "HullyardSurveys$Yard" ⟨"HullyardSurveys$Yard", "extremePair", "(IZ)I"⟩ ⟨"HullyardSurveys$Yard", "extremePair", "(IZ)I"⟩ : Cond) ∈ GW := gw4 178 rfl rfl
set_option maxRecDepth 20000 in
theorem w_961 : (.code ⟨"HullyardSurveys$Yard", "extremePair", "(IZ)I"⟩ prog_8_method_7_code 9 (some .int) : Cond) ∈ GW := gw4 179 rfl rfl
set_option maxRecDepth 20000 in
theorem w_962 : (.methodLink "HullyardSurveys$Yard" 48 ⟨"HullyardSurveys$Yard", "squaredDistance", "(II)I"⟩ : Cond) ∈ GW := gw4 180 rfl rfl
set_option maxRecDepth 20000 in
theorem w_963 : (.instanceMethod ⟨"HullyardSurveys$Yard", "squaredDistance", "(II)I"⟩ : Cond) ∈ GW := gw4 181 rfl rfl
set_option maxRecDepth 20000 in
theorem w_964 : (.selects "HullyardSurveys$Yard" ⟨"HullyardSurveys$Yard", "squaredDistance", "(II)I"⟩ ⟨"HullyardSurveys$Yard", "squaredDistance", "(II)I"⟩ : Cond) ∈ GW := gw4 182 rfl rfl
set_option maxRecDepth 20000 in
theorem w_965 : (.code ⟨"HullyardSurveys$Yard", "squaredDistance", "(II)I"⟩ prog_8_method_6_code 5 (some .int) : Cond) ∈ GW := gw4 183 rfl rfl
set_option maxRecDepth 20000 in
theorem w_966 : (.methodLink "HullyardSurveysLaw" 275 ⟨"HullyardSurveysLaw", "distance", "(LHullyardSurveys;IZ[J)I"⟩ : Cond) ∈ GW := gw4 184 rfl rfl
set_option maxRecDepth 20000 in
theorem w_967 : (.static ⟨"HullyardSurveysLaw", "distance", "(LHullyardSurveys;IZ[J)I"⟩ : Cond) ∈ GW := gw4 185 rfl rfl
set_option maxRecDepth 20000 in
theorem w_968 : (.codeWith ⟨"HullyardSurveysLaw", "distance", "(LHullyardSurveys;IZ[J)I"⟩ method_34_code 5 (some .int) [(0, 10, 13, 13), (0, 10, 17, 42)] : Cond) ∈ GW := gw4 186 rfl rfl
set_option maxRecDepth 20000 in
theorem w_969 : (.methodLink "HullyardSurveysLaw" 119 ⟨"HullyardSurveys", "distance", "(IZ)I"⟩ : Cond) ∈ GW := gw4 187 rfl rfl
set_option maxRecDepth 20000 in
theorem w_970 : (.instanceMethod ⟨"HullyardSurveys", "distance", "(IZ)I"⟩ : Cond) ∈ GW := gw4 188 rfl rfl
set_option maxRecDepth 20000 in
theorem w_971 : (.selects "HullyardSurveys" ⟨"HullyardSurveys", "distance", "(IZ)I"⟩ ⟨"HullyardSurveys", "distance", "(IZ)I"⟩ : Cond) ∈ GW := gw4 189 rfl rfl
set_option maxRecDepth 20000 in
theorem w_972 : (.code ⟨"HullyardSurveys", "distance", "(IZ)I"⟩ prog_1_method_40_code 4 (some .int) : Cond) ∈ GW := gw4 190 rfl rfl
set_option maxRecDepth 20000 in
theorem w_973 : (.methodLink "HullyardSurveys" 253 ⟨"HullyardSurveys$Yard", "squaredDistance", "(II)I"⟩ : Cond) ∈ GW := gw4 191 rfl rfl
set_option maxRecDepth 20000 in
theorem w_974 : (.methodLink "HullyardSurveysLaw" 278 ⟨"HullyardSurveysLaw", "box", "(LHullyardSurveys;II[J)I"⟩ : Cond) ∈ GW := gw4 192 rfl rfl
set_option maxRecDepth 20000 in
theorem w_975 : (.static ⟨"HullyardSurveysLaw", "box", "(LHullyardSurveys;II[J)I"⟩ : Cond) ∈ GW := gw4 193 rfl rfl
set_option maxRecDepth 20000 in
theorem w_976 : (.codeWith ⟨"HullyardSurveysLaw", "box", "(LHullyardSurveys;II[J)I"⟩ method_35_code 5 (some .int) [(0, 10, 13, 13), (0, 10, 17, 42)] : Cond) ∈ GW := gw4 194 rfl rfl
set_option maxRecDepth 20000 in
theorem w_977 : (.methodLink "HullyardSurveysLaw" 122 ⟨"HullyardSurveys", "box", "(II)I"⟩ : Cond) ∈ GW := gw4 195 rfl rfl
set_option maxRecDepth 20000 in
theorem w_978 : (.instanceMethod ⟨"HullyardSurveys", "box", "(II)I"⟩ : Cond) ∈ GW := gw4 196 rfl rfl
set_option maxRecDepth 20000 in
theorem w_979 : (.selects "HullyardSurveys" ⟨"HullyardSurveys", "box", "(II)I"⟩ ⟨"HullyardSurveys", "box", "(II)I"⟩ : Cond) ∈ GW := gw4 197 rfl rfl
set_option maxRecDepth 20000 in
theorem w_980 : (.code ⟨"HullyardSurveys", "box", "(II)I"⟩ prog_1_method_41_code 3 (some .int) : Cond) ∈ GW := gw4 198 rfl rfl
set_option maxRecDepth 20000 in
theorem w_981 : (.methodLink "HullyardSurveysLaw" 281 ⟨"HullyardSurveysLaw", "fence", "(LHullyardSurveys;II[J)I"⟩ : Cond) ∈ GW := gw4 199 rfl rfl
set_option maxRecDepth 20000 in
theorem w_982 : (.static ⟨"HullyardSurveysLaw", "fence", "(LHullyardSurveys;II[J)I"⟩ : Cond) ∈ GW := gw4 200 rfl rfl
set_option maxRecDepth 20000 in
theorem w_983 : (.codeWith ⟨"HullyardSurveysLaw", "fence", "(LHullyardSurveys;II[J)I"⟩ method_36_code 5 (some .int) [(0, 10, 13, 13), (0, 10, 17, 42)] : Cond) ∈ GW := gw4 201 rfl rfl
set_option maxRecDepth 20000 in
theorem w_984 : (.methodLink "HullyardSurveysLaw" 125 ⟨"HullyardSurveys", "fence", "(II)I"⟩ : Cond) ∈ GW := gw4 202 rfl rfl
set_option maxRecDepth 20000 in
theorem w_985 : (.instanceMethod ⟨"HullyardSurveys", "fence", "(II)I"⟩ : Cond) ∈ GW := gw4 203 rfl rfl
set_option maxRecDepth 20000 in
theorem w_986 : (.selects "HullyardSurveys" ⟨"HullyardSurveys", "fence", "(II)I"⟩ ⟨"HullyardSurveys", "fence", "(II)I"⟩ : Cond) ∈ GW := gw4 204 rfl rfl
set_option maxRecDepth 20000 in
theorem w_987 : (.code ⟨"HullyardSurveys", "fence", "(II)I"⟩ prog_1_method_42_code 5 (some .int) : Cond) ∈ GW := gw4 205 rfl rfl
set_option maxRecDepth 20000 in
theorem w_990 : (.methodLink "HullyardSurveys" 263 ⟨"HullyardSurveys", "leastFenceFrom", "(II)I"⟩ : Cond) ∈ GW := gw4 208 rfl rfl
set_option maxRecDepth 20000 in
theorem w_992 : (.instanceMethod ⟨"HullyardSurveys", "leastFenceFrom", "(II)I"⟩ : Cond) ∈ GW := gw4 210 rfl rfl
set_option maxRecDepth 20000 in
theorem w_993 : (.code ⟨"HullyardSurveys", "leastFenceFrom", "(II)I"⟩ prog_1_method_62_code 8 (some .int) : Cond) ∈ GW := gw4 211 rfl rfl
set_option maxRecDepth 20000 in
theorem w_994 : (.methodLink "HullyardSurveysLaw" 284 ⟨"HullyardSurveysLaw", "apart", "(LHullyardSurveys;II[J)I"⟩ : Cond) ∈ GW := gw4 212 rfl rfl
set_option maxRecDepth 20000 in
theorem w_995 : (.static ⟨"HullyardSurveysLaw", "apart", "(LHullyardSurveys;II[J)I"⟩ : Cond) ∈ GW := gw4 213 rfl rfl
set_option maxRecDepth 20000 in
theorem w_996 : (.codeWith ⟨"HullyardSurveysLaw", "apart", "(LHullyardSurveys;II[J)I"⟩ method_37_code 5 (some .int) [(0, 17, 20, 13), (0, 17, 24, 42)] : Cond) ∈ GW := gw4 214 rfl rfl
set_option maxRecDepth 20000 in
theorem w_997 : (.methodLink "HullyardSurveysLaw" 128 ⟨"HullyardSurveys", "apart", "(II)Z"⟩ : Cond) ∈ GW := gw4 215 rfl rfl
set_option maxRecDepth 20000 in
theorem w_998 : (.instanceMethod ⟨"HullyardSurveys", "apart", "(II)Z"⟩ : Cond) ∈ GW := gw4 216 rfl rfl
set_option maxRecDepth 20000 in
theorem w_999 : (.selects "HullyardSurveys" ⟨"HullyardSurveys", "apart", "(II)Z"⟩ ⟨"HullyardSurveys", "apart", "(II)Z"⟩ : Cond) ∈ GW := gw4 217 rfl rfl
set_option maxRecDepth 20000 in
theorem w_1000 : (.code ⟨"HullyardSurveys", "apart", "(II)Z"⟩ prog_1_method_43_code 3 (some .boolean) : Cond) ∈ GW := gw4 218 rfl rfl
set_option maxRecDepth 20000 in
theorem w_1001 : (.methodLink "HullyardSurveys" 266 ⟨"HullyardSurveys$Hulls", "touch", "(LHullyardSurveys$Row;LHullyardSurveys$Row;)Z"⟩ : Cond) ∈ GW := gw4 219 rfl rfl
set_option maxRecDepth 20000 in
theorem w_1002 : (.static ⟨"HullyardSurveys$Hulls", "touch", "(LHullyardSurveys$Row;LHullyardSurveys$Row;)Z"⟩ : Cond) ∈ GW := gw4 220 rfl rfl
set_option maxRecDepth 20000 in
theorem w_1003 : (.code ⟨"HullyardSurveys$Hulls", "touch", "(LHullyardSurveys$Row;LHullyardSurveys$Row;)Z"⟩ prog_3_method_9_code 4 (some .boolean) : Cond) ∈ GW := gw4 221 rfl rfl
set_option maxRecDepth 20000 in
theorem w_1004 : (.methodLink "HullyardSurveys$Hulls" 83 ⟨"HullyardSurveys$Hulls", "hasCornerIn", "(LHullyardSurveys$Row;LHullyardSurveys$Row;)Z"⟩ : Cond) ∈ GW := gw4 222 rfl rfl
set_option maxRecDepth 20000 in
theorem w_1005 : (.static ⟨"HullyardSurveys$Hulls", "hasCornerIn", "(LHullyardSurveys$Row;LHullyardSurveys$Row;)Z"⟩ : Cond) ∈ GW := gw4 223 rfl rfl
set_option maxRecDepth 20000 in
theorem w_1006 : (.code ⟨"HullyardSurveys$Hulls", "hasCornerIn", "(LHullyardSurveys$Row;LHullyardSurveys$Row;)Z"⟩ prog_3_method_10_code 3 (some .boolean) : Cond) ∈ GW := gw4 224 rfl rfl
set_option maxRecDepth 20000 in
theorem w_1007 : (.methodLink "HullyardSurveys$Hulls" 87 ⟨"HullyardSurveys$Row", "next", "(I)I"⟩ : Cond) ∈ GW := gw4 225 rfl rfl
set_option maxRecDepth 20000 in
theorem w_1008 : (.methodLink "HullyardSurveys$Hulls" 90 ⟨"HullyardSurveys$Plane", "meet", "(LHullyardSurveys$Row;IILHullyardSurveys$Row;II)Z"⟩ : Cond) ∈ GW := gw4 226 rfl rfl
set_option maxRecDepth 20000 in
theorem w_1009 : (.methodLink "HullyardSurveysLaw" 291 ⟨"HullyardSurveysLaw", "restore", "(LHullyardSurveys;[J)I"⟩ : Cond) ∈ GW := gw4 227 rfl rfl
set_option maxRecDepth 20000 in
theorem w_1010 : (.static ⟨"HullyardSurveysLaw", "restore", "(LHullyardSurveys;[J)I"⟩ : Cond) ∈ GW := gw4 228 rfl rfl
set_option maxRecDepth 20000 in
theorem w_1011 : (.codeWith ⟨"HullyardSurveysLaw", "restore", "(LHullyardSurveys;[J)I"⟩ method_38_code 3 (some .int) [(0, 8, 11, 42)] : Cond) ∈ GW := gw4 229 rfl rfl
set_option maxRecDepth 20000 in
theorem w_1012 : (.methodLink "HullyardSurveysLaw" 131 ⟨"HullyardSurveys", "restore", "()I"⟩ : Cond) ∈ GW := gw4 230 rfl rfl
set_option maxRecDepth 20000 in
theorem w_1013 : (.instanceMethod ⟨"HullyardSurveys", "restore", "()I"⟩ : Cond) ∈ GW := gw4 231 rfl rfl
set_option maxRecDepth 20000 in
theorem w_1014 : (.selects "HullyardSurveys" ⟨"HullyardSurveys", "restore", "()I"⟩ ⟨"HullyardSurveys", "restore", "()I"⟩ : Cond) ∈ GW := gw4 232 rfl rfl
set_option maxRecDepth 20000 in
theorem w_1015 : (.code ⟨"HullyardSurveys", "restore", "()I"⟩ prog_1_method_45_code 1 (some .int) : Cond) ∈ GW := gw4 233 rfl rfl
set_option maxRecDepth 20000 in
theorem w_1017 : (.methodLink "HullyardSurveysLaw" 299 ⟨"HullyardSurveysLaw", "meanFar", "(LHullyardSurveys;I[D)I"⟩ : Cond) ∈ GW := gw4 235 rfl rfl
set_option maxRecDepth 20000 in
theorem w_1018 : (.static ⟨"HullyardSurveysLaw", "meanFar", "(LHullyardSurveys;I[D)I"⟩ : Cond) ∈ GW := gw4 236 rfl rfl
set_option maxRecDepth 20000 in
theorem w_1019 : (.codeWith ⟨"HullyardSurveysLaw", "meanFar", "(LHullyardSurveys;I[D)I"⟩ method_39_code 4 (some .int) [(0, 8, 11, 13)] : Cond) ∈ GW := gw4 237 rfl rfl
set_option maxRecDepth 20000 in
theorem w_1020 : (.methodLink "HullyardSurveysLaw" 135 ⟨"HullyardSurveys", "meanFar", "(I)D"⟩ : Cond) ∈ GW := gw4 238 rfl rfl
set_option maxRecDepth 20000 in
theorem w_1021 : (.instanceMethod ⟨"HullyardSurveys", "meanFar", "(I)D"⟩ : Cond) ∈ GW := gw4 239 rfl rfl
set_option maxRecDepth 20000 in
theorem w_1022 : (.selects "HullyardSurveys" ⟨"HullyardSurveys", "meanFar", "(I)D"⟩ ⟨"HullyardSurveys", "meanFar", "(I)D"⟩ : Cond) ∈ GW := gw5 0 rfl rfl
set_option maxRecDepth 20000 in
theorem w_1023 : (.code ⟨"HullyardSurveys", "meanFar", "(I)D"⟩ prog_1_method_47_code 5 (some .double) : Cond) ∈ GW := gw5 1 rfl rfl
set_option maxRecDepth 20000 in
theorem w_1024 : (.methodLink "HullyardSurveysLaw" 149 ⟨"HullyardSurveysModel", "thrown", "()I"⟩ : Cond) ∈ GW := gw5 2 rfl rfl
set_option maxRecDepth 20000 in
theorem w_1025 : (.instanceMethod ⟨"HullyardSurveysModel", "thrown", "()I"⟩ : Cond) ∈ GW := gw5 3 rfl rfl
set_option maxRecDepth 20000 in
theorem w_1026 : (.selects "HullyardSurveysModel" ⟨"HullyardSurveysModel", "thrown", "()I"⟩ ⟨"HullyardSurveysModel", "thrown", "()I"⟩ : Cond) ∈ GW := gw5 4 rfl rfl
set_option maxRecDepth 20000 in
theorem w_1027 : (.code ⟨"HullyardSurveysModel", "thrown", "()I"⟩ prog_10_method_1_code 1 (some .int) : Cond) ∈ GW := gw5 5 rfl rfl
set_option maxRecDepth 20000 in
theorem w_1030 : (.methodLink "HullyardSurveysLaw" 142 ⟨"HullyardSurveysModel", "<init>", "()V"⟩ : Cond) ∈ GW := gw5 8 rfl rfl
set_option maxRecDepth 20000 in
theorem w_1031 : (.instanceMethod ⟨"HullyardSurveysModel", "<init>", "()V"⟩ : Cond) ∈ GW := gw5 9 rfl rfl
set_option maxRecDepth 20000 in
theorem w_1032 : (.code ⟨"HullyardSurveysModel", "<init>", "()V"⟩ prog_10_method_4_code 1 none : Cond) ∈ GW := gw5 10 rfl rfl
set_option maxRecDepth 20000 in
theorem w_1033 : (.methodLink "HullyardSurveysModel" 7 ⟨"java/lang/Object", "<init>", "()V"⟩ : Cond) ∈ GW := gw5 11 rfl rfl
set_option maxRecDepth 20000 in
theorem w_1034 : (.fieldLink "HullyardSurveysModel" 1 "HullyardSurveysModel" "thrown" "I" : Cond) ∈ GW := gw5 12 rfl rfl
set_option maxRecDepth 20000 in
theorem w_1035 : (.fieldLink "HullyardSurveysModel" 13 "HullyardSurveysModel" "heapOf" "[I" : Cond) ∈ GW := gw5 13 rfl rfl
set_option maxRecDepth 20000 in
theorem w_1036 : (.fieldLink "HullyardSurveysModel" 17 "HullyardSurveysModel" "xs" "[I" : Cond) ∈ GW := gw5 14 rfl rfl
set_option maxRecDepth 20000 in
theorem w_1037 : (.fieldLink "HullyardSurveysModel" 20 "HullyardSurveysModel" "ys" "[I" : Cond) ∈ GW := gw5 15 rfl rfl
set_option maxRecDepth 20000 in
theorem w_1038 : (.fieldLink "HullyardSurveysModel" 108 "HullyardSurveysModel" "came" "I" : Cond) ∈ GW := gw5 16 rfl rfl
set_option maxRecDepth 20000 in
theorem w_1039 : (.fieldLink "HullyardSurveysModel" 23 "HullyardSurveysModel" "px" "[I" : Cond) ∈ GW := gw5 17 rfl rfl
set_option maxRecDepth 20000 in
theorem w_1040 : (.fieldLink "HullyardSurveysModel" 26 "HullyardSurveysModel" "py" "[I" : Cond) ∈ GW := gw5 18 rfl rfl
set_option maxRecDepth 20000 in
theorem w_1041 : (.fieldLink "HullyardSurveysModel" 136 "HullyardSurveysModel" "placed" "I" : Cond) ∈ GW := gw5 19 rfl rfl
set_option maxRecDepth 20000 in
theorem w_1042 : (.fieldLink "HullyardSurveysModel" 29 "HullyardSurveysModel" "hx" "[I" : Cond) ∈ GW := gw5 20 rfl rfl
set_option maxRecDepth 20000 in
theorem w_1043 : (.fieldLink "HullyardSurveysModel" 32 "HullyardSurveysModel" "hy" "[I" : Cond) ∈ GW := gw5 21 rfl rfl
set_option maxRecDepth 20000 in
theorem w_1044 : (.fieldLink "HullyardSurveysModel" 35 "HullyardSurveysModel" "corners" "[I" : Cond) ∈ GW := gw5 22 rfl rfl
set_option maxRecDepth 20000 in
theorem w_1045 : (.fieldLink "HullyardSurveysModel" 38 "HullyardSurveysModel" "isLeft" "[Z" : Cond) ∈ GW := gw5 23 rfl rfl
set_option maxRecDepth 20000 in
theorem w_1046 : (.fieldLink "HullyardSurveysModel" 189 "HullyardSurveysModel" "widthUp" "J" : Cond) ∈ GW := gw5 24 rfl rfl
set_option maxRecDepth 20000 in
theorem w_1047 : (.fieldLink "HullyardSurveysModel" 185 "HullyardSurveysModel" "widthDown" "J" : Cond) ∈ GW := gw5 25 rfl rfl
set_option maxRecDepth 20000 in
theorem w_1048 : (.fieldLink "HullyardSurveysModel" 42 "HullyardSurveysModel" "gx" "[I" : Cond) ∈ GW := gw5 26 rfl rfl
set_option maxRecDepth 20000 in
theorem w_1049 : (.fieldLink "HullyardSurveysModel" 45 "HullyardSurveysModel" "gy" "[I" : Cond) ∈ GW := gw5 27 rfl rfl
set_option maxRecDepth 20000 in
theorem w_1050 : (.fieldLink "HullyardSurveysModel" 48 "HullyardSurveysModel" "sides" "[I" : Cond) ∈ GW := gw5 28 rfl rfl
set_option maxRecDepth 20000 in
theorem w_1051 : (.fieldLink "HullyardSurveysModel" 198 "HullyardSurveysModel" "ax" "I" : Cond) ∈ GW := gw5 29 rfl rfl
set_option maxRecDepth 20000 in
theorem w_1052 : (.fieldLink "HullyardSurveysModel" 201 "HullyardSurveysModel" "ay" "I" : Cond) ∈ GW := gw5 30 rfl rfl
set_option maxRecDepth 20000 in
theorem w_1053 : (.fieldLink "HullyardSurveysModel" 204 "HullyardSurveysModel" "bx" "I" : Cond) ∈ GW := gw5 31 rfl rfl
set_option maxRecDepth 20000 in
theorem w_1054 : (.fieldLink "HullyardSurveysModel" 207 "HullyardSurveysModel" "by" "I" : Cond) ∈ GW := gw5 32 rfl rfl
set_option maxRecDepth 20000 in
theorem w_1055 : (.fieldLink "HullyardSurveysModel" 210 "HullyardSurveysModel" "cx" "I" : Cond) ∈ GW := gw5 33 rfl rfl
set_option maxRecDepth 20000 in
theorem w_1056 : (.fieldLink "HullyardSurveysModel" 213 "HullyardSurveysModel" "cy" "I" : Cond) ∈ GW := gw5 34 rfl rfl
set_option maxRecDepth 20000 in
theorem w_1057 : (.fieldLink "HullyardSurveysModel" 216 "HullyardSurveysModel" "dx" "I" : Cond) ∈ GW := gw5 35 rfl rfl
set_option maxRecDepth 20000 in
theorem w_1058 : (.fieldLink "HullyardSurveysModel" 219 "HullyardSurveysModel" "dy" "I" : Cond) ∈ GW := gw5 36 rfl rfl
set_option maxRecDepth 20000 in
theorem w_1059 : (.fieldLink "HullyardSurveysModel" 51 "HullyardSurveysModel" "left" "[I" : Cond) ∈ GW := gw5 37 rfl rfl
set_option maxRecDepth 20000 in
theorem w_1060 : (.fieldLink "HullyardSurveysModel" 54 "HullyardSurveysModel" "triangle" "[I" : Cond) ∈ GW := gw5 38 rfl rfl
set_option maxRecDepth 20000 in
theorem w_1061 : (.fieldLink "HullyardSurveysModel" 252 "HullyardSurveysModel" "leftMany" "I" : Cond) ∈ GW := gw5 39 rfl rfl
set_option maxRecDepth 20000 in
theorem w_1062 : (.fieldLink "HullyardSurveysModel" 259 "HullyardSurveysModel" "triangles" "I" : Cond) ∈ GW := gw5 40 rfl rfl
set_option maxRecDepth 20000 in
theorem w_1063 : (.fieldLink "HullyardSurveysModel" 57 "HullyardSurveysModel" "lx1" "[I" : Cond) ∈ GW := gw5 41 rfl rfl
set_option maxRecDepth 20000 in
theorem w_1064 : (.fieldLink "HullyardSurveysModel" 60 "HullyardSurveysModel" "ly1" "[I" : Cond) ∈ GW := gw5 42 rfl rfl
set_option maxRecDepth 20000 in
theorem w_1065 : (.fieldLink "HullyardSurveysModel" 63 "HullyardSurveysModel" "lx2" "[I" : Cond) ∈ GW := gw5 43 rfl rfl
set_option maxRecDepth 20000 in
theorem w_1066 : (.fieldLink "HullyardSurveysModel" 66 "HullyardSurveysModel" "ly2" "[I" : Cond) ∈ GW := gw5 44 rfl rfl
set_option maxRecDepth 20000 in
theorem w_1067 : (.fieldLink "HullyardSurveysModel" 281 "HullyardSurveysModel" "lines" "I" : Cond) ∈ GW := gw5 45 rfl rfl
set_option maxRecDepth 20000 in
theorem w_1068 : (.fieldLink "HullyardSurveysModel" 290 "HullyardSurveysModel" "found" "I" : Cond) ∈ GW := gw5 46 rfl rfl
set_option maxRecDepth 20000 in
theorem w_1069 : (.fieldLink "HullyardSurveysModel" 69 "HullyardSurveysModel" "byY" "[I" : Cond) ∈ GW := gw5 47 rfl rfl
set_option maxRecDepth 20000 in
theorem w_1070 : (.fieldLink "HullyardSurveysModel" 72 "HullyardSurveysModel" "keptHeap" "[I" : Cond) ∈ GW := gw5 48 rfl rfl
set_option maxRecDepth 20000 in
theorem w_1071 : (.fieldLink "HullyardSurveysModel" 75 "HullyardSurveysModel" "keptX" "[I" : Cond) ∈ GW := gw5 49 rfl rfl
set_option maxRecDepth 20000 in
theorem w_1072 : (.fieldLink "HullyardSurveysModel" 78 "HullyardSurveysModel" "keptY" "[I" : Cond) ∈ GW := gw5 50 rfl rfl
set_option maxRecDepth 20000 in
theorem w_1073 : (.fieldLink "HullyardSurveysModel" 81 "HullyardSurveysModel" "keptGx" "[I" : Cond) ∈ GW := gw5 51 rfl rfl
set_option maxRecDepth 20000 in
theorem w_1074 : (.fieldLink "HullyardSurveysModel" 84 "HullyardSurveysModel" "keptGy" "[I" : Cond) ∈ GW := gw5 52 rfl rfl
set_option maxRecDepth 20000 in
theorem w_1075 : (.fieldLink "HullyardSurveysModel" 87 "HullyardSurveysModel" "keptSides" "[I" : Cond) ∈ GW := gw5 53 rfl rfl
set_option maxRecDepth 20000 in
theorem w_1076 : (.fieldLink "HullyardSurveysModel" 90 "HullyardSurveysModel" "keptLines" "[I" : Cond) ∈ GW := gw5 54 rfl rfl
set_option maxRecDepth 20000 in
theorem w_1077 : (.fieldLink "HullyardSurveysModel" 93 "HullyardSurveysModel" "keptCame" "I" : Cond) ∈ GW := gw5 55 rfl rfl
set_option maxRecDepth 20000 in
theorem w_1078 : (.fieldLink "HullyardSurveysModel" 313 "HullyardSurveysModel" "keptLineMany" "I" : Cond) ∈ GW := gw5 56 rfl rfl
set_option maxRecDepth 20000 in
theorem w_1079 : (.lays "HullyardSurveysModel" "HullyardSurveysModel" "thrown" "I" : Cond) ∈ GW := gw5 57 rfl rfl
set_option maxRecDepth 20000 in
theorem w_1081 : (.laysFinal "HullyardSurveysModel" "HullyardSurveysModel" "heapOf" "[I" : Cond) ∈ GW := gw5 59 rfl rfl
set_option maxRecDepth 20000 in
theorem w_1083 : (.laysFinal "HullyardSurveysModel" "HullyardSurveysModel" "xs" "[I" : Cond) ∈ GW := gw5 61 rfl rfl
set_option maxRecDepth 20000 in
theorem w_1085 : (.laysFinal "HullyardSurveysModel" "HullyardSurveysModel" "ys" "[I" : Cond) ∈ GW := gw5 63 rfl rfl
set_option maxRecDepth 20000 in
theorem w_1087 : (.lays "HullyardSurveysModel" "HullyardSurveysModel" "came" "I" : Cond) ∈ GW := gw5 65 rfl rfl
set_option maxRecDepth 20000 in
theorem w_1089 : (.laysFinal "HullyardSurveysModel" "HullyardSurveysModel" "px" "[I" : Cond) ∈ GW := gw5 67 rfl rfl
set_option maxRecDepth 20000 in
theorem w_1091 : (.laysFinal "HullyardSurveysModel" "HullyardSurveysModel" "py" "[I" : Cond) ∈ GW := gw5 69 rfl rfl
set_option maxRecDepth 20000 in
theorem w_1093 : (.lays "HullyardSurveysModel" "HullyardSurveysModel" "placed" "I" : Cond) ∈ GW := gw5 71 rfl rfl
set_option maxRecDepth 20000 in
theorem w_1095 : (.laysFinal "HullyardSurveysModel" "HullyardSurveysModel" "hx" "[I" : Cond) ∈ GW := gw5 73 rfl rfl
set_option maxRecDepth 20000 in
theorem w_1097 : (.laysFinal "HullyardSurveysModel" "HullyardSurveysModel" "hy" "[I" : Cond) ∈ GW := gw5 75 rfl rfl
set_option maxRecDepth 20000 in
theorem w_1099 : (.laysFinal "HullyardSurveysModel" "HullyardSurveysModel" "corners" "[I" : Cond) ∈ GW := gw5 77 rfl rfl
set_option maxRecDepth 20000 in
theorem w_1101 : (.laysFinal "HullyardSurveysModel" "HullyardSurveysModel" "isLeft" "[Z" : Cond) ∈ GW := gw5 79 rfl rfl
set_option maxRecDepth 20000 in
theorem w_1103 : (.lays "HullyardSurveysModel" "HullyardSurveysModel" "widthUp" "J" : Cond) ∈ GW := gw5 81 rfl rfl
set_option maxRecDepth 20000 in
theorem w_1105 : (.lays "HullyardSurveysModel" "HullyardSurveysModel" "widthDown" "J" : Cond) ∈ GW := gw5 83 rfl rfl
set_option maxRecDepth 20000 in
theorem w_1107 : (.laysFinal "HullyardSurveysModel" "HullyardSurveysModel" "gx" "[I" : Cond) ∈ GW := gw5 85 rfl rfl
set_option maxRecDepth 20000 in
theorem w_1109 : (.laysFinal "HullyardSurveysModel" "HullyardSurveysModel" "gy" "[I" : Cond) ∈ GW := gw5 87 rfl rfl
set_option maxRecDepth 20000 in
theorem w_1111 : (.laysFinal "HullyardSurveysModel" "HullyardSurveysModel" "sides" "[I" : Cond) ∈ GW := gw5 89 rfl rfl
set_option maxRecDepth 20000 in
theorem w_1113 : (.lays "HullyardSurveysModel" "HullyardSurveysModel" "ax" "I" : Cond) ∈ GW := gw5 91 rfl rfl
set_option maxRecDepth 20000 in
theorem w_1115 : (.lays "HullyardSurveysModel" "HullyardSurveysModel" "ay" "I" : Cond) ∈ GW := gw5 93 rfl rfl
set_option maxRecDepth 20000 in
theorem w_1117 : (.lays "HullyardSurveysModel" "HullyardSurveysModel" "bx" "I" : Cond) ∈ GW := gw5 95 rfl rfl
set_option maxRecDepth 20000 in
theorem w_1119 : (.lays "HullyardSurveysModel" "HullyardSurveysModel" "by" "I" : Cond) ∈ GW := gw5 97 rfl rfl
set_option maxRecDepth 20000 in
theorem w_1121 : (.lays "HullyardSurveysModel" "HullyardSurveysModel" "cx" "I" : Cond) ∈ GW := gw5 99 rfl rfl
set_option maxRecDepth 20000 in
theorem w_1123 : (.lays "HullyardSurveysModel" "HullyardSurveysModel" "cy" "I" : Cond) ∈ GW := gw5 101 rfl rfl
set_option maxRecDepth 20000 in
theorem w_1125 : (.lays "HullyardSurveysModel" "HullyardSurveysModel" "dx" "I" : Cond) ∈ GW := gw5 103 rfl rfl
set_option maxRecDepth 20000 in
theorem w_1127 : (.lays "HullyardSurveysModel" "HullyardSurveysModel" "dy" "I" : Cond) ∈ GW := gw5 105 rfl rfl
set_option maxRecDepth 20000 in
theorem w_1129 : (.laysFinal "HullyardSurveysModel" "HullyardSurveysModel" "left" "[I" : Cond) ∈ GW := gw5 107 rfl rfl
set_option maxRecDepth 20000 in
theorem w_1131 : (.laysFinal "HullyardSurveysModel" "HullyardSurveysModel" "triangle" "[I" : Cond) ∈ GW := gw5 109 rfl rfl
set_option maxRecDepth 20000 in
theorem w_1133 : (.lays "HullyardSurveysModel" "HullyardSurveysModel" "leftMany" "I" : Cond) ∈ GW := gw5 111 rfl rfl
set_option maxRecDepth 20000 in
theorem w_1135 : (.lays "HullyardSurveysModel" "HullyardSurveysModel" "triangles" "I" : Cond) ∈ GW := gw5 113 rfl rfl
set_option maxRecDepth 20000 in
theorem w_1137 : (.laysFinal "HullyardSurveysModel" "HullyardSurveysModel" "lx1" "[I" : Cond) ∈ GW := gw5 115 rfl rfl
set_option maxRecDepth 20000 in
theorem w_1139 : (.laysFinal "HullyardSurveysModel" "HullyardSurveysModel" "ly1" "[I" : Cond) ∈ GW := gw5 117 rfl rfl
set_option maxRecDepth 20000 in
theorem w_1141 : (.laysFinal "HullyardSurveysModel" "HullyardSurveysModel" "lx2" "[I" : Cond) ∈ GW := gw5 119 rfl rfl
set_option maxRecDepth 20000 in
theorem w_1143 : (.laysFinal "HullyardSurveysModel" "HullyardSurveysModel" "ly2" "[I" : Cond) ∈ GW := gw5 121 rfl rfl
set_option maxRecDepth 20000 in
theorem w_1145 : (.lays "HullyardSurveysModel" "HullyardSurveysModel" "lines" "I" : Cond) ∈ GW := gw5 123 rfl rfl
set_option maxRecDepth 20000 in
theorem w_1147 : (.lays "HullyardSurveysModel" "HullyardSurveysModel" "found" "I" : Cond) ∈ GW := gw5 125 rfl rfl
set_option maxRecDepth 20000 in
theorem w_1149 : (.laysFinal "HullyardSurveysModel" "HullyardSurveysModel" "byY" "[I" : Cond) ∈ GW := gw5 127 rfl rfl
set_option maxRecDepth 20000 in
theorem w_1151 : (.laysFinal "HullyardSurveysModel" "HullyardSurveysModel" "keptHeap" "[I" : Cond) ∈ GW := gw5 129 rfl rfl
set_option maxRecDepth 20000 in
theorem w_1153 : (.laysFinal "HullyardSurveysModel" "HullyardSurveysModel" "keptX" "[I" : Cond) ∈ GW := gw5 131 rfl rfl
set_option maxRecDepth 20000 in
theorem w_1155 : (.laysFinal "HullyardSurveysModel" "HullyardSurveysModel" "keptY" "[I" : Cond) ∈ GW := gw5 133 rfl rfl
set_option maxRecDepth 20000 in
theorem w_1157 : (.laysFinal "HullyardSurveysModel" "HullyardSurveysModel" "keptGx" "[I" : Cond) ∈ GW := gw5 135 rfl rfl
set_option maxRecDepth 20000 in
theorem w_1159 : (.laysFinal "HullyardSurveysModel" "HullyardSurveysModel" "keptGy" "[I" : Cond) ∈ GW := gw5 137 rfl rfl
set_option maxRecDepth 20000 in
theorem w_1161 : (.laysFinal "HullyardSurveysModel" "HullyardSurveysModel" "keptSides" "[I" : Cond) ∈ GW := gw5 139 rfl rfl
set_option maxRecDepth 20000 in
theorem w_1163 : (.laysFinal "HullyardSurveysModel" "HullyardSurveysModel" "keptLines" "[I" : Cond) ∈ GW := gw5 141 rfl rfl
set_option maxRecDepth 20000 in
theorem w_1165 : (.lays "HullyardSurveysModel" "HullyardSurveysModel" "keptCame" "I" : Cond) ∈ GW := gw5 143 rfl rfl
set_option maxRecDepth 20000 in
theorem w_1167 : (.lays "HullyardSurveysModel" "HullyardSurveysModel" "keptLineMany" "I" : Cond) ∈ GW := gw5 145 rfl rfl
set_option maxRecDepth 20000 in
theorem w_1171 : (.methodLink "HullyardSurveysLaw" 148 ⟨"HullyardSurveysModel", "point", "(III)I"⟩ : Cond) ∈ GW := gw5 149 rfl rfl
set_option maxRecDepth 20000 in
theorem w_1172 : (.instanceMethod ⟨"HullyardSurveysModel", "point", "(III)I"⟩ : Cond) ∈ GW := gw5 150 rfl rfl
set_option maxRecDepth 20000 in
theorem w_1173 : (.selects "HullyardSurveysModel" ⟨"HullyardSurveysModel", "point", "(III)I"⟩ ⟨"HullyardSurveysModel", "point", "(III)I"⟩ : Cond) ∈ GW := gw5 151 rfl rfl
set_option maxRecDepth 20000 in
theorem w_1174 : (.code ⟨"HullyardSurveysModel", "point", "(III)I"⟩ prog_10_method_12_code 4 (some .int) : Cond) ∈ GW := gw5 152 rfl rfl
set_option maxRecDepth 20000 in
theorem w_1175 : (.methodLink "HullyardSurveysModel" 111 ⟨"HullyardSurveysModel", "noHeap", "(I)Z"⟩ : Cond) ∈ GW := gw5 153 rfl rfl
set_option maxRecDepth 20000 in
theorem w_1177 : (.instanceMethod ⟨"HullyardSurveysModel", "noHeap", "(I)Z"⟩ : Cond) ∈ GW := gw5 155 rfl rfl
set_option maxRecDepth 20000 in
theorem w_1178 : (.code ⟨"HullyardSurveysModel", "noHeap", "(I)Z"⟩ prog_10_method_9_code 2 (some .boolean) : Cond) ∈ GW := gw5 156 rfl rfl
set_option maxRecDepth 20000 in
theorem w_1179 : (.methodLink "HullyardSurveysModel" 96 ⟨"HullyardSurveysModel", "in", "(III)Z"⟩ : Cond) ∈ GW := gw5 157 rfl rfl
set_option maxRecDepth 20000 in
theorem w_1180 : (.static ⟨"HullyardSurveysModel", "in", "(III)Z"⟩ : Cond) ∈ GW := gw5 158 rfl rfl
set_option maxRecDepth 20000 in
theorem w_1181 : (.code ⟨"HullyardSurveysModel", "in", "(III)Z"⟩ prog_10_method_2_code 3 (some .boolean) : Cond) ∈ GW := gw5 159 rfl rfl
set_option maxRecDepth 20000 in
theorem w_1182 : (.methodLink "HullyardSurveysModel" 104 ⟨"HullyardSurveysModel", "fails", "(ZI)Z"⟩ : Cond) ∈ GW := gw5 160 rfl rfl
set_option maxRecDepth 20000 in
theorem w_1184 : (.instanceMethod ⟨"HullyardSurveysModel", "fails", "(ZI)Z"⟩ : Cond) ∈ GW := gw5 162 rfl rfl
set_option maxRecDepth 20000 in
theorem w_1185 : (.code ⟨"HullyardSurveysModel", "fails", "(ZI)Z"⟩ prog_10_method_3_code 3 (some .boolean) : Cond) ∈ GW := gw5 163 rfl rfl
set_option maxRecDepth 20000 in
theorem w_1186 : (.methodLink "HullyardSurveysModel" 115 ⟨"HullyardSurveysModel", "isPlace", "(II)Z"⟩ : Cond) ∈ GW := gw5 164 rfl rfl
set_option maxRecDepth 20000 in
theorem w_1187 : (.static ⟨"HullyardSurveysModel", "isPlace", "(II)Z"⟩ : Cond) ∈ GW := gw5 165 rfl rfl
set_option maxRecDepth 20000 in
theorem w_1188 : (.code ⟨"HullyardSurveysModel", "isPlace", "(II)Z"⟩ prog_10_method_5_code 2 (some .boolean) : Cond) ∈ GW := gw5 166 rfl rfl
set_option maxRecDepth 20000 in
theorem w_1189 : (.methodLink "HullyardSurveysLaw" 155 ⟨"HullyardSurveysModel", "drop", "(I)I"⟩ : Cond) ∈ GW := gw5 167 rfl rfl
set_option maxRecDepth 20000 in
theorem w_1190 : (.instanceMethod ⟨"HullyardSurveysModel", "drop", "(I)I"⟩ : Cond) ∈ GW := gw5 168 rfl rfl
set_option maxRecDepth 20000 in
theorem w_1191 : (.selects "HullyardSurveysModel" ⟨"HullyardSurveysModel", "drop", "(I)I"⟩ ⟨"HullyardSurveysModel", "drop", "(I)I"⟩ : Cond) ∈ GW := gw5 169 rfl rfl
set_option maxRecDepth 20000 in
theorem w_1192 : (.code ⟨"HullyardSurveysModel", "drop", "(I)I"⟩ prog_10_method_13_code 3 (some .int) : Cond) ∈ GW := gw5 170 rfl rfl
set_option maxRecDepth 20000 in
theorem w_1193 : (.methodLink "HullyardSurveysModel" 119 ⟨"HullyardSurveysModel", "noPoint", "(I)Z"⟩ : Cond) ∈ GW := gw5 171 rfl rfl
set_option maxRecDepth 20000 in
theorem w_1195 : (.instanceMethod ⟨"HullyardSurveysModel", "noPoint", "(I)Z"⟩ : Cond) ∈ GW := gw5 173 rfl rfl
set_option maxRecDepth 20000 in
theorem w_1196 : (.code ⟨"HullyardSurveysModel", "noPoint", "(I)Z"⟩ prog_10_method_10_code 2 (some .boolean) : Cond) ∈ GW := gw5 174 rfl rfl
set_option maxRecDepth 20000 in
theorem w_1197 : (.methodLink "HullyardSurveysModel" 122 ⟨"HullyardSurveysModel", "many", "(I)I"⟩ : Cond) ∈ GW := gw5 175 rfl rfl
set_option maxRecDepth 20000 in
theorem w_1199 : (.instanceMethod ⟨"HullyardSurveysModel", "many", "(I)I"⟩ : Cond) ∈ GW := gw5 177 rfl rfl
set_option maxRecDepth 20000 in
theorem w_1200 : (.code ⟨"HullyardSurveysModel", "many", "(I)I"⟩ prog_10_method_11_code 4 (some .int) : Cond) ∈ GW := gw5 178 rfl rfl
set_option maxRecDepth 20000 in
theorem w_1201 : (.methodLink "HullyardSurveysLaw" 159 ⟨"HullyardSurveysModel", "pointOf", "(II)I"⟩ : Cond) ∈ GW := gw5 179 rfl rfl
set_option maxRecDepth 20000 in
theorem w_1202 : (.instanceMethod ⟨"HullyardSurveysModel", "pointOf", "(II)I"⟩ : Cond) ∈ GW := gw5 180 rfl rfl
set_option maxRecDepth 20000 in
theorem w_1203 : (.selects "HullyardSurveysModel" ⟨"HullyardSurveysModel", "pointOf", "(II)I"⟩ ⟨"HullyardSurveysModel", "pointOf", "(II)I"⟩ : Cond) ∈ GW := gw5 181 rfl rfl
set_option maxRecDepth 20000 in
theorem w_1204 : (.code ⟨"HullyardSurveysModel", "pointOf", "(II)I"⟩ prog_10_method_14_code 3 (some .int) : Cond) ∈ GW := gw5 182 rfl rfl
set_option maxRecDepth 20000 in
theorem w_1205 : (.methodLink "HullyardSurveysLaw" 162 ⟨"HullyardSurveysModel", "count", "(I)I"⟩ : Cond) ∈ GW := gw5 183 rfl rfl
set_option maxRecDepth 20000 in
theorem w_1206 : (.instanceMethod ⟨"HullyardSurveysModel", "count", "(I)I"⟩ : Cond) ∈ GW := gw5 184 rfl rfl
set_option maxRecDepth 20000 in
theorem w_1207 : (.selects "HullyardSurveysModel" ⟨"HullyardSurveysModel", "count", "(I)I"⟩ ⟨"HullyardSurveysModel", "count", "(I)I"⟩ : Cond) ∈ GW := gw5 185 rfl rfl
set_option maxRecDepth 20000 in
theorem w_1208 : (.code ⟨"HullyardSurveysModel", "count", "(I)I"⟩ prog_10_method_15_code 2 (some .int) : Cond) ∈ GW := gw5 186 rfl rfl
set_option maxRecDepth 20000 in
theorem w_1209 : (.methodLink "HullyardSurveysLaw" 165 ⟨"HullyardSurveysModel", "sorted", "(II)I"⟩ : Cond) ∈ GW := gw5 187 rfl rfl
set_option maxRecDepth 20000 in
theorem w_1210 : (.instanceMethod ⟨"HullyardSurveysModel", "sorted", "(II)I"⟩ : Cond) ∈ GW := gw5 188 rfl rfl
set_option maxRecDepth 20000 in
theorem w_1211 : (.selects "HullyardSurveysModel" ⟨"HullyardSurveysModel", "sorted", "(II)I"⟩ ⟨"HullyardSurveysModel", "sorted", "(II)I"⟩ : Cond) ∈ GW := gw5 189 rfl rfl
set_option maxRecDepth 20000 in
theorem w_1212 : (.code ⟨"HullyardSurveysModel", "sorted", "(II)I"⟩ prog_10_method_18_code 3 (some .int) : Cond) ∈ GW := gw5 190 rfl rfl
set_option maxRecDepth 20000 in
theorem w_1213 : (.methodLink "HullyardSurveysModel" 128 ⟨"HullyardSurveysModel", "pointAt", "(II)I"⟩ : Cond) ∈ GW := gw5 191 rfl rfl
set_option maxRecDepth 20000 in
theorem w_1215 : (.instanceMethod ⟨"HullyardSurveysModel", "pointAt", "(II)I"⟩ : Cond) ∈ GW := gw5 193 rfl rfl
set_option maxRecDepth 20000 in
theorem w_1216 : (.code ⟨"HullyardSurveysModel", "pointAt", "(II)I"⟩ prog_10_method_17_code 6 (some .int) : Cond) ∈ GW := gw5 194 rfl rfl
set_option maxRecDepth 20000 in
theorem w_1217 : (.methodLink "HullyardSurveysModel" 125 ⟨"HullyardSurveysModel", "isAhead", "(II)Z"⟩ : Cond) ∈ GW := gw5 195 rfl rfl
set_option maxRecDepth 20000 in
theorem w_1219 : (.instanceMethod ⟨"HullyardSurveysModel", "isAhead", "(II)Z"⟩ : Cond) ∈ GW := gw5 197 rfl rfl
set_option maxRecDepth 20000 in
theorem w_1220 : (.code ⟨"HullyardSurveysModel", "isAhead", "(II)Z"⟩ prog_10_method_16_code 3 (some .boolean) : Cond) ∈ GW := gw5 198 rfl rfl
set_option maxRecDepth 20000 in
theorem w_1221 : (.methodLink "HullyardSurveysLaw" 168 ⟨"HullyardSurveysModel", "places", "(I)I"⟩ : Cond) ∈ GW := gw5 199 rfl rfl
set_option maxRecDepth 20000 in
theorem w_1222 : (.instanceMethod ⟨"HullyardSurveysModel", "places", "(I)I"⟩ : Cond) ∈ GW := gw5 200 rfl rfl
set_option maxRecDepth 20000 in
theorem w_1223 : (.selects "HullyardSurveysModel" ⟨"HullyardSurveysModel", "places", "(I)I"⟩ ⟨"HullyardSurveysModel", "places", "(I)I"⟩ : Cond) ∈ GW := gw5 201 rfl rfl
set_option maxRecDepth 20000 in
theorem w_1224 : (.code ⟨"HullyardSurveysModel", "places", "(I)I"⟩ prog_10_method_19_code 6 (some .int) : Cond) ∈ GW := gw5 202 rfl rfl
set_option maxRecDepth 20000 in
theorem w_1225 : (.methodLink "HullyardSurveysLaw" 171 ⟨"HullyardSurveysModel", "turn", "(III)I"⟩ : Cond) ∈ GW := gw5 203 rfl rfl
set_option maxRecDepth 20000 in
theorem w_1226 : (.instanceMethod ⟨"HullyardSurveysModel", "turn", "(III)I"⟩ : Cond) ∈ GW := gw5 204 rfl rfl
set_option maxRecDepth 20000 in
theorem w_1227 : (.selects "HullyardSurveysModel" ⟨"HullyardSurveysModel", "turn", "(III)I"⟩ ⟨"HullyardSurveysModel", "turn", "(III)I"⟩ : Cond) ∈ GW := gw5 205 rfl rfl
set_option maxRecDepth 20000 in
theorem w_1228 : (.code ⟨"HullyardSurveysModel", "turn", "(III)I"⟩ prog_10_method_20_code 4 (some .int) : Cond) ∈ GW := gw5 206 rfl rfl
set_option maxRecDepth 20000 in
theorem w_1229 : (.methodLink "HullyardSurveysModel" 132 ⟨"HullyardSurveysModel", "turns", "(JJJJJJ)I"⟩ : Cond) ∈ GW := gw5 207 rfl rfl
set_option maxRecDepth 20000 in
theorem w_1230 : (.static ⟨"HullyardSurveysModel", "turns", "(JJJJJJ)I"⟩ : Cond) ∈ GW := gw5 208 rfl rfl
set_option maxRecDepth 20000 in
theorem w_1231 : (.code ⟨"HullyardSurveysModel", "turns", "(JJJJJJ)I"⟩ prog_10_method_8_code 14 (some .int) : Cond) ∈ GW := gw5 209 rfl rfl
set_option maxRecDepth 20000 in
theorem w_1232 : (.methodLink "HullyardSurveysLaw" 174 ⟨"HullyardSurveysModel", "hull", "(I)I"⟩ : Cond) ∈ GW := gw5 210 rfl rfl
set_option maxRecDepth 20000 in
theorem w_1233 : (.instanceMethod ⟨"HullyardSurveysModel", "hull", "(I)I"⟩ : Cond) ∈ GW := gw5 211 rfl rfl
set_option maxRecDepth 20000 in
theorem w_1234 : (.selects "HullyardSurveysModel" ⟨"HullyardSurveysModel", "hull", "(I)I"⟩ ⟨"HullyardSurveysModel", "hull", "(I)I"⟩ : Cond) ∈ GW := gw5 212 rfl rfl
set_option maxRecDepth 20000 in
theorem w_1235 : (.code ⟨"HullyardSurveysModel", "hull", "(I)I"⟩ prog_10_method_27_code 2 (some .int) : Cond) ∈ GW := gw5 213 rfl rfl
set_option maxRecDepth 20000 in
theorem w_1236 : (.methodLink "HullyardSurveysModel" 153 ⟨"HullyardSurveysModel", "isEmpty", "(I)Z"⟩ : Cond) ∈ GW := gw5 214 rfl rfl
set_option maxRecDepth 20000 in
theorem w_1238 : (.instanceMethod ⟨"HullyardSurveysModel", "isEmpty", "(I)Z"⟩ : Cond) ∈ GW := gw5 216 rfl rfl
set_option maxRecDepth 20000 in
theorem w_1239 : (.code ⟨"HullyardSurveysModel", "isEmpty", "(I)Z"⟩ prog_10_method_26_code 2 (some .boolean) : Cond) ∈ GW := gw5 217 rfl rfl
set_option maxRecDepth 20000 in
theorem w_1240 : (.methodLink "HullyardSurveysModel" 156 ⟨"HullyardSurveysModel", "hullOfHeap", "(II)I"⟩ : Cond) ∈ GW := gw5 218 rfl rfl
set_option maxRecDepth 20000 in
theorem w_1242 : (.instanceMethod ⟨"HullyardSurveysModel", "hullOfHeap", "(II)I"⟩ : Cond) ∈ GW := gw5 220 rfl rfl
set_option maxRecDepth 20000 in
theorem w_1243 : (.code ⟨"HullyardSurveysModel", "hullOfHeap", "(II)I"⟩ prog_10_method_25_code 3 (some .int) : Cond) ∈ GW := gw5 221 rfl rfl
set_option maxRecDepth 20000 in
theorem w_1244 : (.methodLink "HullyardSurveysModel" 146 ⟨"HullyardSurveysModel", "laysHeap", "(I)V"⟩ : Cond) ∈ GW := gw5 222 rfl rfl
set_option maxRecDepth 20000 in
theorem w_1246 : (.instanceMethod ⟨"HullyardSurveysModel", "laysHeap", "(I)V"⟩ : Cond) ∈ GW := gw5 224 rfl rfl
set_option maxRecDepth 20000 in
theorem w_1247 : (.code ⟨"HullyardSurveysModel", "laysHeap", "(I)V"⟩ prog_10_method_22_code 3 none : Cond) ∈ GW := gw5 225 rfl rfl
set_option maxRecDepth 20000 in
theorem w_1248 : (.methodLink "HullyardSurveysModel" 139 ⟨"HullyardSurveysModel", "lays", "(II)V"⟩ : Cond) ∈ GW := gw5 226 rfl rfl
set_option maxRecDepth 20000 in
theorem w_1250 : (.instanceMethod ⟨"HullyardSurveysModel", "lays", "(II)V"⟩ : Cond) ∈ GW := gw5 228 rfl rfl
set_option maxRecDepth 20000 in
theorem w_1251 : (.code ⟨"HullyardSurveysModel", "lays", "(II)V"⟩ prog_10_method_21_code 3 none : Cond) ∈ GW := gw5 229 rfl rfl
set_option maxRecDepth 20000 in
theorem w_1252 : (.methodLink "HullyardSurveysModel" 150 ⟨"HullyardSurveysModel", "wraps", "(I)I"⟩ : Cond) ∈ GW := gw5 230 rfl rfl
set_option maxRecDepth 20000 in
theorem w_1254 : (.instanceMethod ⟨"HullyardSurveysModel", "wraps", "(I)I"⟩ : Cond) ∈ GW := gw5 232 rfl rfl
set_option maxRecDepth 20000 in
theorem w_1255 : (.code ⟨"HullyardSurveysModel", "wraps", "(I)I"⟩ prog_10_method_24_code 9 (some .int) : Cond) ∈ GW := gw5 233 rfl rfl
set_option maxRecDepth 20000 in
theorem w_1256 : (.methodLink "HullyardSurveysModel" 143 ⟨"HullyardSurveysModel", "far", "(II)I"⟩ : Cond) ∈ GW := gw5 234 rfl rfl
set_option maxRecDepth 20000 in
theorem w_1258 : (.instanceMethod ⟨"HullyardSurveysModel", "far", "(II)I"⟩ : Cond) ∈ GW := gw5 236 rfl rfl
set_option maxRecDepth 20000 in
theorem w_1259 : (.code ⟨"HullyardSurveysModel", "far", "(II)I"⟩ prog_10_method_23_code 3 (some .int) : Cond) ∈ GW := gw5 237 rfl rfl
set_option maxRecDepth 20000 in
theorem w_1260 : (.methodLink "HullyardSurveysModel" 100 ⟨"HullyardSurveysModel", "amount", "(I)I"⟩ : Cond) ∈ GW := gw5 238 rfl rfl
set_option maxRecDepth 20000 in
theorem w_1261 : (.static ⟨"HullyardSurveysModel", "amount", "(I)I"⟩ : Cond) ∈ GW := gw5 239 rfl rfl
set_option maxRecDepth 20000 in
theorem w_1262 : (.code ⟨"HullyardSurveysModel", "amount", "(I)I"⟩ prog_10_method_6_code 1 (some .int) : Cond) ∈ GW := gw6 0 rfl rfl
set_option maxRecDepth 20000 in
theorem w_1263 : (.methodLink "HullyardSurveysLaw" 177 ⟨"HullyardSurveysModel", "join", "(II)I"⟩ : Cond) ∈ GW := gw6 1 rfl rfl
set_option maxRecDepth 20000 in
theorem w_1264 : (.instanceMethod ⟨"HullyardSurveysModel", "join", "(II)I"⟩ : Cond) ∈ GW := gw6 2 rfl rfl
set_option maxRecDepth 20000 in
theorem w_1265 : (.selects "HullyardSurveysModel" ⟨"HullyardSurveysModel", "join", "(II)I"⟩ ⟨"HullyardSurveysModel", "join", "(II)I"⟩ : Cond) ∈ GW := gw6 3 rfl rfl
set_option maxRecDepth 20000 in
theorem w_1266 : (.code ⟨"HullyardSurveysModel", "join", "(II)I"⟩ prog_10_method_29_code 3 (some .int) : Cond) ∈ GW := gw6 4 rfl rfl
set_option maxRecDepth 20000 in
theorem w_1267 : (.methodLink "HullyardSurveysModel" 159 ⟨"HullyardSurveysModel", "noHeaps", "(II)Z"⟩ : Cond) ∈ GW := gw6 5 rfl rfl
set_option maxRecDepth 20000 in
theorem w_1269 : (.instanceMethod ⟨"HullyardSurveysModel", "noHeaps", "(II)Z"⟩ : Cond) ∈ GW := gw6 7 rfl rfl
set_option maxRecDepth 20000 in
theorem w_1270 : (.code ⟨"HullyardSurveysModel", "noHeaps", "(II)Z"⟩ prog_10_method_28_code 3 (some .boolean) : Cond) ∈ GW := gw6 8 rfl rfl
set_option maxRecDepth 20000 in
theorem w_1271 : (.methodLink "HullyardSurveysLaw" 180 ⟨"HullyardSurveysModel", "sum", "(II)I"⟩ : Cond) ∈ GW := gw6 9 rfl rfl
set_option maxRecDepth 20000 in
theorem w_1272 : (.instanceMethod ⟨"HullyardSurveysModel", "sum", "(II)I"⟩ : Cond) ∈ GW := gw6 10 rfl rfl
set_option maxRecDepth 20000 in
theorem w_1273 : (.selects "HullyardSurveysModel" ⟨"HullyardSurveysModel", "sum", "(II)I"⟩ ⟨"HullyardSurveysModel", "sum", "(II)I"⟩ : Cond) ∈ GW := gw6 11 rfl rfl
set_option maxRecDepth 20000 in
theorem w_1274 : (.code ⟨"HullyardSurveysModel", "sum", "(II)I"⟩ prog_10_method_30_code 5 (some .int) : Cond) ∈ GW := gw6 12 rfl rfl
set_option maxRecDepth 20000 in
theorem w_1275 : (.methodLink "HullyardSurveysLaw" 183 ⟨"HullyardSurveysModel", "layers", "(I)I"⟩ : Cond) ∈ GW := gw6 13 rfl rfl
set_option maxRecDepth 20000 in
theorem w_1276 : (.instanceMethod ⟨"HullyardSurveysModel", "layers", "(I)I"⟩ : Cond) ∈ GW := gw6 14 rfl rfl
set_option maxRecDepth 20000 in
theorem w_1277 : (.selects "HullyardSurveysModel" ⟨"HullyardSurveysModel", "layers", "(I)I"⟩ ⟨"HullyardSurveysModel", "layers", "(I)I"⟩ : Cond) ∈ GW := gw6 15 rfl rfl
set_option maxRecDepth 20000 in
theorem w_1278 : (.code ⟨"HullyardSurveysModel", "layers", "(I)I"⟩ prog_10_method_32_code 3 (some .int) : Cond) ∈ GW := gw6 16 rfl rfl
set_option maxRecDepth 20000 in
theorem w_1279 : (.methodLink "HullyardSurveysModel" 166 ⟨"HullyardSurveysModel", "peels", "(III)Z"⟩ : Cond) ∈ GW := gw6 17 rfl rfl
set_option maxRecDepth 20000 in
theorem w_1281 : (.instanceMethod ⟨"HullyardSurveysModel", "peels", "(III)Z"⟩ : Cond) ∈ GW := gw6 19 rfl rfl
set_option maxRecDepth 20000 in
theorem w_1282 : (.code ⟨"HullyardSurveysModel", "peels", "(III)Z"⟩ prog_10_method_31_code 6 (some .boolean) : Cond) ∈ GW := gw6 20 rfl rfl
set_option maxRecDepth 20000 in
theorem w_1283 : (.methodLink "HullyardSurveysModel" 162 ⟨"HullyardSurveysModel", "side", "(III)I"⟩ : Cond) ∈ GW := gw6 21 rfl rfl
set_option maxRecDepth 20000 in
theorem w_1285 : (.instanceMethod ⟨"HullyardSurveysModel", "side", "(III)I"⟩ : Cond) ∈ GW := gw6 23 rfl rfl
set_option maxRecDepth 20000 in
theorem w_1286 : (.code ⟨"HullyardSurveysModel", "side", "(III)I"⟩ prog_10_method_35_code 10 (some .int) : Cond) ∈ GW := gw6 24 rfl rfl
set_option maxRecDepth 20000 in
theorem w_1287 : (.methodLink "HullyardSurveysModel" 169 ⟨"HullyardSurveysModel", "isOn", "(JJJJJJ)Z"⟩ : Cond) ∈ GW := gw6 25 rfl rfl
set_option maxRecDepth 20000 in
theorem w_1288 : (.static ⟨"HullyardSurveysModel", "isOn", "(JJJJJJ)Z"⟩ : Cond) ∈ GW := gw6 26 rfl rfl
set_option maxRecDepth 20000 in
theorem w_1289 : (.code ⟨"HullyardSurveysModel", "isOn", "(JJJJJJ)Z"⟩ prog_10_method_34_code 12 (some .boolean) : Cond) ∈ GW := gw6 27 rfl rfl
set_option maxRecDepth 20000 in
theorem w_1290 : (.methodLink "HullyardSurveysLaw" 186 ⟨"HullyardSurveysModel", "layer", "(II)I"⟩ : Cond) ∈ GW := gw6 28 rfl rfl
set_option maxRecDepth 20000 in
theorem w_1291 : (.instanceMethod ⟨"HullyardSurveysModel", "layer", "(II)I"⟩ : Cond) ∈ GW := gw6 29 rfl rfl
set_option maxRecDepth 20000 in
theorem w_1292 : (.selects "HullyardSurveysModel" ⟨"HullyardSurveysModel", "layer", "(II)I"⟩ ⟨"HullyardSurveysModel", "layer", "(II)I"⟩ : Cond) ∈ GW := gw6 30 rfl rfl
set_option maxRecDepth 20000 in
theorem w_1293 : (.code ⟨"HullyardSurveysModel", "layer", "(II)I"⟩ prog_10_method_33_code 4 (some .int) : Cond) ∈ GW := gw6 31 rfl rfl
set_option maxRecDepth 20000 in
theorem w_1294 : (.methodLink "HullyardSurveysLaw" 193 ⟨"HullyardSurveysModel", "corners", "()I"⟩ : Cond) ∈ GW := gw6 32 rfl rfl
set_option maxRecDepth 20000 in
theorem w_1295 : (.instanceMethod ⟨"HullyardSurveysModel", "corners", "()I"⟩ : Cond) ∈ GW := gw6 33 rfl rfl
set_option maxRecDepth 20000 in
theorem w_1296 : (.selects "HullyardSurveysModel" ⟨"HullyardSurveysModel", "corners", "()I"⟩ ⟨"HullyardSurveysModel", "corners", "()I"⟩ : Cond) ∈ GW := gw6 34 rfl rfl
set_option maxRecDepth 20000 in
theorem w_1297 : (.code ⟨"HullyardSurveysModel", "corners", "()I"⟩ prog_10_method_37_code 1 (some .int) : Cond) ∈ GW := gw6 35 rfl rfl
set_option maxRecDepth 20000 in
theorem w_1298 : (.methodLink "HullyardSurveysLaw" 197 ⟨"HullyardSurveysModel", "corner", "(IZ)I"⟩ : Cond) ∈ GW := gw6 36 rfl rfl
set_option maxRecDepth 20000 in
theorem w_1299 : (.instanceMethod ⟨"HullyardSurveysModel", "corner", "(IZ)I"⟩ : Cond) ∈ GW := gw6 37 rfl rfl
set_option maxRecDepth 20000 in
theorem w_1300 : (.selects "HullyardSurveysModel" ⟨"HullyardSurveysModel", "corner", "(IZ)I"⟩ ⟨"HullyardSurveysModel", "corner", "(IZ)I"⟩ : Cond) ∈ GW := gw6 38 rfl rfl
set_option maxRecDepth 20000 in
theorem w_1301 : (.code ⟨"HullyardSurveysModel", "corner", "(IZ)I"⟩ prog_10_method_38_code 3 (some .int) : Cond) ∈ GW := gw6 39 rfl rfl
set_option maxRecDepth 20000 in
theorem w_1302 : (.methodLink "HullyardSurveysLaw" 201 ⟨"HullyardSurveysModel", "area", "()I"⟩ : Cond) ∈ GW := gw6 40 rfl rfl
set_option maxRecDepth 20000 in
theorem w_1303 : (.instanceMethod ⟨"HullyardSurveysModel", "area", "()I"⟩ : Cond) ∈ GW := gw6 41 rfl rfl
set_option maxRecDepth 20000 in
theorem w_1304 : (.selects "HullyardSurveysModel" ⟨"HullyardSurveysModel", "area", "()I"⟩ ⟨"HullyardSurveysModel", "area", "()I"⟩ : Cond) ∈ GW := gw6 42 rfl rfl
set_option maxRecDepth 20000 in
theorem w_1305 : (.code ⟨"HullyardSurveysModel", "area", "()I"⟩ prog_10_method_39_code 1 (some .int) : Cond) ∈ GW := gw6 43 rfl rfl
set_option maxRecDepth 20000 in
theorem w_1306 : (.methodLink "HullyardSurveysModel" 173 ⟨"HullyardSurveysModel", "doubled", "(I)I"⟩ : Cond) ∈ GW := gw6 44 rfl rfl
set_option maxRecDepth 20000 in
theorem w_1308 : (.instanceMethod ⟨"HullyardSurveysModel", "doubled", "(I)I"⟩ : Cond) ∈ GW := gw6 46 rfl rfl
set_option maxRecDepth 20000 in
theorem w_1309 : (.code ⟨"HullyardSurveysModel", "doubled", "(I)I"⟩ prog_10_method_36_code 6 (some .int) : Cond) ∈ GW := gw6 47 rfl rfl
set_option maxRecDepth 20000 in
theorem w_1310 : (.methodLink "HullyardSurveysLaw" 205 ⟨"HullyardSurveysModel", "edge", "()I"⟩ : Cond) ∈ GW := gw6 48 rfl rfl
set_option maxRecDepth 20000 in
theorem w_1311 : (.instanceMethod ⟨"HullyardSurveysModel", "edge", "()I"⟩ : Cond) ∈ GW := gw6 49 rfl rfl
set_option maxRecDepth 20000 in
theorem w_1312 : (.selects "HullyardSurveysModel" ⟨"HullyardSurveysModel", "edge", "()I"⟩ ⟨"HullyardSurveysModel", "edge", "()I"⟩ : Cond) ∈ GW := gw6 50 rfl rfl
set_option maxRecDepth 20000 in
theorem w_1313 : (.code ⟨"HullyardSurveysModel", "edge", "()I"⟩ prog_10_method_40_code 4 (some .int) : Cond) ∈ GW := gw6 51 rfl rfl
set_option maxRecDepth 20000 in
theorem w_1314 : (.methodLink "HullyardSurveysModel" 176 ⟨"HullyardSurveysModel", "common", "(II)I"⟩ : Cond) ∈ GW := gw6 52 rfl rfl
set_option maxRecDepth 20000 in
theorem w_1315 : (.static ⟨"HullyardSurveysModel", "common", "(II)I"⟩ : Cond) ∈ GW := gw6 53 rfl rfl
set_option maxRecDepth 20000 in
theorem w_1316 : (.code ⟨"HullyardSurveysModel", "common", "(II)I"⟩ prog_10_method_7_code 5 (some .int) : Cond) ∈ GW := gw6 54 rfl rfl
set_option maxRecDepth 20000 in
theorem w_1317 : (.methodLink "HullyardSurveysLaw" 209 ⟨"HullyardSurveysModel", "inner", "()I"⟩ : Cond) ∈ GW := gw6 55 rfl rfl
set_option maxRecDepth 20000 in
theorem w_1318 : (.instanceMethod ⟨"HullyardSurveysModel", "inner", "()I"⟩ : Cond) ∈ GW := gw6 56 rfl rfl
set_option maxRecDepth 20000 in
theorem w_1319 : (.selects "HullyardSurveysModel" ⟨"HullyardSurveysModel", "inner", "()I"⟩ ⟨"HullyardSurveysModel", "inner", "()I"⟩ : Cond) ∈ GW := gw6 57 rfl rfl
set_option maxRecDepth 20000 in
theorem w_1320 : (.code ⟨"HullyardSurveysModel", "inner", "()I"⟩ prog_10_method_43_code 3 (some .int) : Cond) ∈ GW := gw6 58 rfl rfl
set_option maxRecDepth 20000 in
theorem w_1321 : (.methodLink "HullyardSurveysModel" 182 ⟨"HullyardSurveysModel", "innerIn", "(I)I"⟩ : Cond) ∈ GW := gw6 59 rfl rfl
set_option maxRecDepth 20000 in
theorem w_1323 : (.instanceMethod ⟨"HullyardSurveysModel", "innerIn", "(I)I"⟩ : Cond) ∈ GW := gw6 61 rfl rfl
set_option maxRecDepth 20000 in
theorem w_1324 : (.code ⟨"HullyardSurveysModel", "innerIn", "(I)I"⟩ prog_10_method_42_code 10 (some .int) : Cond) ∈ GW := gw6 62 rfl rfl
set_option maxRecDepth 20000 in
theorem w_1325 : (.methodLink "HullyardSurveysModel" 179 ⟨"HullyardSurveysModel", "floor", "(II)I"⟩ : Cond) ∈ GW := gw6 63 rfl rfl
set_option maxRecDepth 20000 in
theorem w_1326 : (.static ⟨"HullyardSurveysModel", "floor", "(II)I"⟩ : Cond) ∈ GW := gw6 64 rfl rfl
set_option maxRecDepth 20000 in
theorem w_1327 : (.code ⟨"HullyardSurveysModel", "floor", "(II)I"⟩ prog_10_method_41_code 2 (some .int) : Cond) ∈ GW := gw6 65 rfl rfl
set_option maxRecDepth 20000 in
theorem w_1328 : (.methodLink "HullyardSurveysLaw" 213 ⟨"HullyardSurveysModel", "lies", "(II)I"⟩ : Cond) ∈ GW := gw6 66 rfl rfl
set_option maxRecDepth 20000 in
theorem w_1329 : (.instanceMethod ⟨"HullyardSurveysModel", "lies", "(II)I"⟩ : Cond) ∈ GW := gw6 67 rfl rfl
set_option maxRecDepth 20000 in
theorem w_1330 : (.selects "HullyardSurveysModel" ⟨"HullyardSurveysModel", "lies", "(II)I"⟩ ⟨"HullyardSurveysModel", "lies", "(II)I"⟩ : Cond) ∈ GW := gw6 68 rfl rfl
set_option maxRecDepth 20000 in
theorem w_1331 : (.code ⟨"HullyardSurveysModel", "lies", "(II)I"⟩ prog_10_method_44_code 3 (some .int) : Cond) ∈ GW := gw6 69 rfl rfl
set_option maxRecDepth 20000 in
theorem w_1332 : (.methodLink "HullyardSurveysLaw" 217 ⟨"HullyardSurveysModel", "width", "(Z)J"⟩ : Cond) ∈ GW := gw6 70 rfl rfl
set_option maxRecDepth 20000 in
theorem w_1333 : (.instanceMethod ⟨"HullyardSurveysModel", "width", "(Z)J"⟩ : Cond) ∈ GW := gw6 71 rfl rfl
set_option maxRecDepth 20000 in
theorem w_1334 : (.selects "HullyardSurveysModel" ⟨"HullyardSurveysModel", "width", "(Z)J"⟩ ⟨"HullyardSurveysModel", "width", "(Z)J"⟩ : Cond) ∈ GW := gw6 72 rfl rfl
set_option maxRecDepth 20000 in
theorem w_1335 : (.code ⟨"HullyardSurveysModel", "width", "(Z)J"⟩ prog_10_method_46_code 2 (some .long) : Cond) ∈ GW := gw6 73 rfl rfl
set_option maxRecDepth 20000 in
theorem w_1336 : (.methodLink "HullyardSurveysModel" 192 ⟨"HullyardSurveysModel", "findsWidth", "()V"⟩ : Cond) ∈ GW := gw6 74 rfl rfl
set_option maxRecDepth 20000 in
theorem w_1338 : (.instanceMethod ⟨"HullyardSurveysModel", "findsWidth", "()V"⟩ : Cond) ∈ GW := gw6 76 rfl rfl
set_option maxRecDepth 20000 in
theorem w_1339 : (.code ⟨"HullyardSurveysModel", "findsWidth", "()V"⟩ prog_10_method_45_code 12 none : Cond) ∈ GW := gw6 77 rfl rfl
set_option maxRecDepth 20000 in
theorem w_1340 : (.methodLink "HullyardSurveysLaw" 220 ⟨"HullyardSurveysModel", "add", "(III)I"⟩ : Cond) ∈ GW := gw6 78 rfl rfl
set_option maxRecDepth 20000 in
theorem w_1341 : (.instanceMethod ⟨"HullyardSurveysModel", "add", "(III)I"⟩ : Cond) ∈ GW := gw6 79 rfl rfl
set_option maxRecDepth 20000 in
theorem w_1342 : (.selects "HullyardSurveysModel" ⟨"HullyardSurveysModel", "add", "(III)I"⟩ ⟨"HullyardSurveysModel", "add", "(III)I"⟩ : Cond) ∈ GW := gw6 80 rfl rfl
set_option maxRecDepth 20000 in
theorem w_1343 : (.code ⟨"HullyardSurveysModel", "add", "(III)I"⟩ prog_10_method_48_code 4 (some .int) : Cond) ∈ GW := gw6 81 rfl rfl
set_option maxRecDepth 20000 in
theorem w_1344 : (.methodLink "HullyardSurveysModel" 195 ⟨"HullyardSurveysModel", "noPolygon", "(I)Z"⟩ : Cond) ∈ GW := gw6 82 rfl rfl
set_option maxRecDepth 20000 in
theorem w_1346 : (.instanceMethod ⟨"HullyardSurveysModel", "noPolygon", "(I)Z"⟩ : Cond) ∈ GW := gw6 84 rfl rfl
set_option maxRecDepth 20000 in
theorem w_1347 : (.code ⟨"HullyardSurveysModel", "noPolygon", "(I)Z"⟩ prog_10_method_47_code 2 (some .boolean) : Cond) ∈ GW := gw6 85 rfl rfl
set_option maxRecDepth 20000 in
theorem w_1348 : (.methodLink "HullyardSurveysLaw" 223 ⟨"HullyardSurveysModel", "clear", "(I)I"⟩ : Cond) ∈ GW := gw6 86 rfl rfl
set_option maxRecDepth 20000 in
theorem w_1349 : (.instanceMethod ⟨"HullyardSurveysModel", "clear", "(I)I"⟩ : Cond) ∈ GW := gw6 87 rfl rfl
set_option maxRecDepth 20000 in
theorem w_1350 : (.selects "HullyardSurveysModel" ⟨"HullyardSurveysModel", "clear", "(I)I"⟩ ⟨"HullyardSurveysModel", "clear", "(I)I"⟩ : Cond) ∈ GW := gw6 88 rfl rfl
set_option maxRecDepth 20000 in
theorem w_1351 : (.code ⟨"HullyardSurveysModel", "clear", "(I)I"⟩ prog_10_method_49_code 3 (some .int) : Cond) ∈ GW := gw6 89 rfl rfl
set_option maxRecDepth 20000 in
theorem w_1352 : (.methodLink "HullyardSurveysLaw" 189 ⟨"HullyardSurveysModel", "hullOf", "(I)I"⟩ : Cond) ∈ GW := gw6 90 rfl rfl
set_option maxRecDepth 20000 in
theorem w_1353 : (.instanceMethod ⟨"HullyardSurveysModel", "hullOf", "(I)I"⟩ : Cond) ∈ GW := gw6 91 rfl rfl
set_option maxRecDepth 20000 in
theorem w_1354 : (.selects "HullyardSurveysModel" ⟨"HullyardSurveysModel", "hullOf", "(I)I"⟩ ⟨"HullyardSurveysModel", "hullOf", "(I)I"⟩ : Cond) ∈ GW := gw6 92 rfl rfl
set_option maxRecDepth 20000 in
theorem w_1355 : (.code ⟨"HullyardSurveysModel", "hullOf", "(I)I"⟩ prog_10_method_50_code 3 (some .int) : Cond) ∈ GW := gw6 93 rfl rfl
set_option maxRecDepth 20000 in
theorem w_1356 : (.methodLink "HullyardSurveysLaw" 226 ⟨"HullyardSurveysModel", "isSimple", "(I)Z"⟩ : Cond) ∈ GW := gw6 94 rfl rfl
set_option maxRecDepth 20000 in
theorem w_1357 : (.instanceMethod ⟨"HullyardSurveysModel", "isSimple", "(I)Z"⟩ : Cond) ∈ GW := gw6 95 rfl rfl
set_option maxRecDepth 20000 in
theorem w_1358 : (.selects "HullyardSurveysModel" ⟨"HullyardSurveysModel", "isSimple", "(I)Z"⟩ ⟨"HullyardSurveysModel", "isSimple", "(I)Z"⟩ : Cond) ∈ GW := gw6 96 rfl rfl
set_option maxRecDepth 20000 in
theorem w_1359 : (.code ⟨"HullyardSurveysModel", "isSimple", "(I)Z"⟩ prog_10_method_58_code 2 (some .boolean) : Cond) ∈ GW := gw6 97 rfl rfl
set_option maxRecDepth 20000 in
theorem w_1360 : (.methodLink "HullyardSurveysModel" 239 ⟨"HullyardSurveysModel", "isGood", "(I)Z"⟩ : Cond) ∈ GW := gw6 98 rfl rfl
set_option maxRecDepth 20000 in
theorem w_1362 : (.instanceMethod ⟨"HullyardSurveysModel", "isGood", "(I)Z"⟩ : Cond) ∈ GW := gw6 100 rfl rfl
set_option maxRecDepth 20000 in
theorem w_1363 : (.code ⟨"HullyardSurveysModel", "isGood", "(I)Z"⟩ prog_10_method_56_code 11 (some .boolean) : Cond) ∈ GW := gw6 101 rfl rfl
set_option maxRecDepth 20000 in
theorem w_1364 : (.methodLink "HullyardSurveysModel" 226 ⟨"HullyardSurveysModel", "cornerOf", "(II)I"⟩ : Cond) ∈ GW := gw6 102 rfl rfl
set_option maxRecDepth 20000 in
theorem w_1366 : (.instanceMethod ⟨"HullyardSurveysModel", "cornerOf", "(II)I"⟩ : Cond) ∈ GW := gw6 104 rfl rfl
set_option maxRecDepth 20000 in
theorem w_1367 : (.code ⟨"HullyardSurveysModel", "cornerOf", "(II)I"⟩ prog_10_method_55_code 3 (some .int) : Cond) ∈ GW := gw6 105 rfl rfl
set_option maxRecDepth 20000 in
theorem w_1368 : (.methodLink "HullyardSurveysModel" 229 ⟨"HullyardSurveysModel", "takesFirst", "(IIII)V"⟩ : Cond) ∈ GW := gw6 106 rfl rfl
set_option maxRecDepth 20000 in
theorem w_1370 : (.instanceMethod ⟨"HullyardSurveysModel", "takesFirst", "(IIII)V"⟩ : Cond) ∈ GW := gw6 108 rfl rfl
set_option maxRecDepth 20000 in
theorem w_1371 : (.code ⟨"HullyardSurveysModel", "takesFirst", "(IIII)V"⟩ prog_10_method_51_code 5 none : Cond) ∈ GW := gw6 109 rfl rfl
set_option maxRecDepth 20000 in
theorem w_1372 : (.methodLink "HullyardSurveysModel" 233 ⟨"HullyardSurveysModel", "takesSecond", "(IIII)V"⟩ : Cond) ∈ GW := gw6 110 rfl rfl
set_option maxRecDepth 20000 in
theorem w_1374 : (.instanceMethod ⟨"HullyardSurveysModel", "takesSecond", "(IIII)V"⟩ : Cond) ∈ GW := gw6 112 rfl rfl
set_option maxRecDepth 20000 in
theorem w_1375 : (.code ⟨"HullyardSurveysModel", "takesSecond", "(IIII)V"⟩ prog_10_method_52_code 5 none : Cond) ∈ GW := gw6 113 rfl rfl
set_option maxRecDepth 20000 in
theorem w_1376 : (.methodLink "HullyardSurveysModel" 236 ⟨"HullyardSurveysModel", "doTouch", "()Z"⟩ : Cond) ∈ GW := gw6 114 rfl rfl
set_option maxRecDepth 20000 in
theorem w_1378 : (.instanceMethod ⟨"HullyardSurveysModel", "doTouch", "()Z"⟩ : Cond) ∈ GW := gw6 116 rfl rfl
set_option maxRecDepth 20000 in
theorem w_1379 : (.code ⟨"HullyardSurveysModel", "doTouch", "()Z"⟩ prog_10_method_53_code 1 (some .boolean) : Cond) ∈ GW := gw6 117 rfl rfl
set_option maxRecDepth 20000 in
theorem w_1380 : (.methodLink "HullyardSurveysModel" 222 ⟨"HullyardSurveysModel", "doCross", "()Z"⟩ : Cond) ∈ GW := gw6 118 rfl rfl
set_option maxRecDepth 20000 in
theorem w_1382 : (.instanceMethod ⟨"HullyardSurveysModel", "doCross", "()Z"⟩ : Cond) ∈ GW := gw6 120 rfl rfl
set_option maxRecDepth 20000 in
theorem w_1383 : (.code ⟨"HullyardSurveysModel", "doCross", "()Z"⟩ prog_10_method_54_code 1 (some .boolean) : Cond) ∈ GW := gw6 121 rfl rfl
set_option maxRecDepth 20000 in
theorem w_1384 : (.methodLink "HullyardSurveysLaw" 229 ⟨"HullyardSurveysModel", "polygonArea", "(I)I"⟩ : Cond) ∈ GW := gw6 122 rfl rfl
set_option maxRecDepth 20000 in
theorem w_1385 : (.instanceMethod ⟨"HullyardSurveysModel", "polygonArea", "(I)I"⟩ : Cond) ∈ GW := gw6 123 rfl rfl
set_option maxRecDepth 20000 in
theorem w_1386 : (.selects "HullyardSurveysModel" ⟨"HullyardSurveysModel", "polygonArea", "(I)I"⟩ ⟨"HullyardSurveysModel", "polygonArea", "(I)I"⟩ : Cond) ∈ GW := gw6 124 rfl rfl
set_option maxRecDepth 20000 in
theorem w_1387 : (.code ⟨"HullyardSurveysModel", "polygonArea", "(I)I"⟩ prog_10_method_59_code 2 (some .int) : Cond) ∈ GW := gw6 125 rfl rfl
set_option maxRecDepth 20000 in
theorem w_1388 : (.methodLink "HullyardSurveysModel" 242 ⟨"HullyardSurveysModel", "doubledOf", "(I)I"⟩ : Cond) ∈ GW := gw6 126 rfl rfl
set_option maxRecDepth 20000 in
theorem w_1390 : (.instanceMethod ⟨"HullyardSurveysModel", "doubledOf", "(I)I"⟩ : Cond) ∈ GW := gw6 128 rfl rfl
set_option maxRecDepth 20000 in
theorem w_1391 : (.code ⟨"HullyardSurveysModel", "doubledOf", "(I)I"⟩ prog_10_method_57_code 6 (some .int) : Cond) ∈ GW := gw6 129 rfl rfl
set_option maxRecDepth 20000 in
theorem w_1392 : (.methodLink "HullyardSurveysLaw" 232 ⟨"HullyardSurveysModel", "polygonEdge", "(I)I"⟩ : Cond) ∈ GW := gw6 130 rfl rfl
set_option maxRecDepth 20000 in
theorem w_1393 : (.instanceMethod ⟨"HullyardSurveysModel", "polygonEdge", "(I)I"⟩ : Cond) ∈ GW := gw6 131 rfl rfl
set_option maxRecDepth 20000 in
theorem w_1394 : (.selects "HullyardSurveysModel" ⟨"HullyardSurveysModel", "polygonEdge", "(I)I"⟩ ⟨"HullyardSurveysModel", "polygonEdge", "(I)I"⟩ : Cond) ∈ GW := gw6 132 rfl rfl
set_option maxRecDepth 20000 in
theorem w_1395 : (.code ⟨"HullyardSurveysModel", "polygonEdge", "(I)I"⟩ prog_10_method_61_code 6 (some .int) : Cond) ∈ GW := gw6 133 rfl rfl
set_option maxRecDepth 20000 in
theorem w_1396 : (.methodLink "HullyardSurveysModel" 245 ⟨"HullyardSurveysModel", "noSimple", "(I)Z"⟩ : Cond) ∈ GW := gw6 134 rfl rfl
set_option maxRecDepth 20000 in
theorem w_1398 : (.instanceMethod ⟨"HullyardSurveysModel", "noSimple", "(I)Z"⟩ : Cond) ∈ GW := gw6 136 rfl rfl
set_option maxRecDepth 20000 in
theorem w_1399 : (.code ⟨"HullyardSurveysModel", "noSimple", "(I)Z"⟩ prog_10_method_60_code 2 (some .boolean) : Cond) ∈ GW := gw6 137 rfl rfl
set_option maxRecDepth 20000 in
theorem w_1400 : (.methodLink "HullyardSurveysLaw" 235 ⟨"HullyardSurveysModel", "polygonInner", "(I)I"⟩ : Cond) ∈ GW := gw6 138 rfl rfl
set_option maxRecDepth 20000 in
theorem w_1401 : (.instanceMethod ⟨"HullyardSurveysModel", "polygonInner", "(I)I"⟩ : Cond) ∈ GW := gw6 139 rfl rfl
set_option maxRecDepth 20000 in
theorem w_1402 : (.selects "HullyardSurveysModel" ⟨"HullyardSurveysModel", "polygonInner", "(I)I"⟩ ⟨"HullyardSurveysModel", "polygonInner", "(I)I"⟩ : Cond) ∈ GW := gw6 140 rfl rfl
set_option maxRecDepth 20000 in
theorem w_1403 : (.code ⟨"HullyardSurveysModel", "polygonInner", "(I)I"⟩ prog_10_method_63_code 5 (some .int) : Cond) ∈ GW := gw6 141 rfl rfl
set_option maxRecDepth 20000 in
theorem w_1404 : (.methodLink "HullyardSurveysModel" 248 ⟨"HullyardSurveysModel", "sideOf", "(IJJI)I"⟩ : Cond) ∈ GW := gw6 142 rfl rfl
set_option maxRecDepth 20000 in
theorem w_1406 : (.instanceMethod ⟨"HullyardSurveysModel", "sideOf", "(IJJI)I"⟩ : Cond) ∈ GW := gw6 144 rfl rfl
set_option maxRecDepth 20000 in
theorem w_1407 : (.code ⟨"HullyardSurveysModel", "sideOf", "(IJJI)I"⟩ prog_10_method_62_code 20 (some .int) : Cond) ∈ GW := gw6 145 rfl rfl
set_option maxRecDepth 20000 in
theorem w_1408 : (.methodLink "HullyardSurveysLaw" 238 ⟨"HullyardSurveysModel", "polygonLies", "(III)I"⟩ : Cond) ∈ GW := gw6 146 rfl rfl
set_option maxRecDepth 20000 in
theorem w_1409 : (.instanceMethod ⟨"HullyardSurveysModel", "polygonLies", "(III)I"⟩ : Cond) ∈ GW := gw6 147 rfl rfl
set_option maxRecDepth 20000 in
theorem w_1410 : (.selects "HullyardSurveysModel" ⟨"HullyardSurveysModel", "polygonLies", "(III)I"⟩ ⟨"HullyardSurveysModel", "polygonLies", "(III)I"⟩ : Cond) ∈ GW := gw6 148 rfl rfl
set_option maxRecDepth 20000 in
theorem w_1411 : (.code ⟨"HullyardSurveysModel", "polygonLies", "(III)I"⟩ prog_10_method_64_code 4 (some .int) : Cond) ∈ GW := gw6 149 rfl rfl
set_option maxRecDepth 20000 in
theorem w_1412 : (.methodLink "HullyardSurveysLaw" 241 ⟨"HullyardSurveysModel", "holds", "(II)I"⟩ : Cond) ∈ GW := gw6 150 rfl rfl
set_option maxRecDepth 20000 in
theorem w_1413 : (.instanceMethod ⟨"HullyardSurveysModel", "holds", "(II)I"⟩ : Cond) ∈ GW := gw6 151 rfl rfl
set_option maxRecDepth 20000 in
theorem w_1414 : (.selects "HullyardSurveysModel" ⟨"HullyardSurveysModel", "holds", "(II)I"⟩ ⟨"HullyardSurveysModel", "holds", "(II)I"⟩ : Cond) ∈ GW := gw6 152 rfl rfl
set_option maxRecDepth 20000 in
theorem w_1415 : (.code ⟨"HullyardSurveysModel", "holds", "(II)I"⟩ prog_10_method_65_code 5 (some .int) : Cond) ∈ GW := gw6 153 rfl rfl
set_option maxRecDepth 20000 in
theorem w_1416 : (.methodLink "HullyardSurveysLaw" 244 ⟨"HullyardSurveysModel", "triangles", "(I)I"⟩ : Cond) ∈ GW := gw6 154 rfl rfl
set_option maxRecDepth 20000 in
theorem w_1417 : (.instanceMethod ⟨"HullyardSurveysModel", "triangles", "(I)I"⟩ : Cond) ∈ GW := gw6 155 rfl rfl
set_option maxRecDepth 20000 in
theorem w_1418 : (.selects "HullyardSurveysModel" ⟨"HullyardSurveysModel", "triangles", "(I)I"⟩ ⟨"HullyardSurveysModel", "triangles", "(I)I"⟩ : Cond) ∈ GW := gw6 156 rfl rfl
set_option maxRecDepth 20000 in
theorem w_1419 : (.code ⟨"HullyardSurveysModel", "triangles", "(I)I"⟩ prog_10_method_70_code 2 (some .int) : Cond) ∈ GW := gw6 157 rfl rfl
set_option maxRecDepth 20000 in
theorem w_1420 : (.methodLink "HullyardSurveysModel" 269 ⟨"HullyardSurveysModel", "parts", "(I)V"⟩ : Cond) ∈ GW := gw6 158 rfl rfl
set_option maxRecDepth 20000 in
theorem w_1422 : (.instanceMethod ⟨"HullyardSurveysModel", "parts", "(I)V"⟩ : Cond) ∈ GW := gw6 160 rfl rfl
set_option maxRecDepth 20000 in
theorem w_1423 : (.code ⟨"HullyardSurveysModel", "parts", "(I)V"⟩ prog_10_method_69_code 5 none : Cond) ∈ GW := gw6 161 rfl rfl
set_option maxRecDepth 20000 in
theorem w_1424 : (.methodLink "HullyardSurveysModel" 262 ⟨"HullyardSurveysModel", "isEar", "(III)Z"⟩ : Cond) ∈ GW := gw6 162 rfl rfl
set_option maxRecDepth 20000 in
theorem w_1426 : (.instanceMethod ⟨"HullyardSurveysModel", "isEar", "(III)Z"⟩ : Cond) ∈ GW := gw6 164 rfl rfl
set_option maxRecDepth 20000 in
theorem w_1427 : (.code ⟨"HullyardSurveysModel", "isEar", "(III)Z"⟩ prog_10_method_67_code 10 (some .boolean) : Cond) ∈ GW := gw6 165 rfl rfl
set_option maxRecDepth 20000 in
theorem w_1428 : (.methodLink "HullyardSurveysModel" 255 ⟨"HullyardSurveysModel", "turnOf", "(IIII)I"⟩ : Cond) ∈ GW := gw6 166 rfl rfl
set_option maxRecDepth 20000 in
theorem w_1430 : (.instanceMethod ⟨"HullyardSurveysModel", "turnOf", "(IIII)I"⟩ : Cond) ∈ GW := gw6 168 rfl rfl
set_option maxRecDepth 20000 in
theorem w_1431 : (.code ⟨"HullyardSurveysModel", "turnOf", "(IIII)I"⟩ prog_10_method_66_code 8 (some .int) : Cond) ∈ GW := gw6 169 rfl rfl
set_option maxRecDepth 20000 in
theorem w_1432 : (.methodLink "HullyardSurveysModel" 265 ⟨"HullyardSurveysModel", "cuts", "(III)V"⟩ : Cond) ∈ GW := gw6 170 rfl rfl
set_option maxRecDepth 20000 in
theorem w_1434 : (.instanceMethod ⟨"HullyardSurveysModel", "cuts", "(III)V"⟩ : Cond) ∈ GW := gw6 172 rfl rfl
set_option maxRecDepth 20000 in
theorem w_1435 : (.code ⟨"HullyardSurveysModel", "cuts", "(III)V"⟩ prog_10_method_68_code 4 none : Cond) ∈ GW := gw6 173 rfl rfl
set_option maxRecDepth 20000 in
theorem w_1436 : (.methodLink "HullyardSurveysLaw" 247 ⟨"HullyardSurveysModel", "triangleAt", "(II)I"⟩ : Cond) ∈ GW := gw6 174 rfl rfl
set_option maxRecDepth 20000 in
theorem w_1437 : (.instanceMethod ⟨"HullyardSurveysModel", "triangleAt", "(II)I"⟩ : Cond) ∈ GW := gw6 175 rfl rfl
set_option maxRecDepth 20000 in
theorem w_1438 : (.selects "HullyardSurveysModel" ⟨"HullyardSurveysModel", "triangleAt", "(II)I"⟩ ⟨"HullyardSurveysModel", "triangleAt", "(II)I"⟩ : Cond) ∈ GW := gw6 176 rfl rfl
set_option maxRecDepth 20000 in
theorem w_1439 : (.code ⟨"HullyardSurveysModel", "triangleAt", "(II)I"⟩ prog_10_method_71_code 3 (some .int) : Cond) ∈ GW := gw6 177 rfl rfl
set_option maxRecDepth 20000 in
theorem w_1440 : (.methodLink "HullyardSurveysLaw" 250 ⟨"HullyardSurveysModel", "sees", "(III)Z"⟩ : Cond) ∈ GW := gw6 178 rfl rfl
set_option maxRecDepth 20000 in
theorem w_1441 : (.instanceMethod ⟨"HullyardSurveysModel", "sees", "(III)Z"⟩ : Cond) ∈ GW := gw6 179 rfl rfl
set_option maxRecDepth 20000 in
theorem w_1442 : (.selects "HullyardSurveysModel" ⟨"HullyardSurveysModel", "sees", "(III)Z"⟩ ⟨"HullyardSurveysModel", "sees", "(III)Z"⟩ : Cond) ∈ GW := gw6 180 rfl rfl
set_option maxRecDepth 20000 in
theorem w_1443 : (.code ⟨"HullyardSurveysModel", "sees", "(III)Z"⟩ prog_10_method_75_code 4 (some .boolean) : Cond) ∈ GW := gw6 181 rfl rfl
set_option maxRecDepth 20000 in
theorem w_1444 : (.methodLink "HullyardSurveysModel" 275 ⟨"HullyardSurveysModel", "noCorner", "(II)Z"⟩ : Cond) ∈ GW := gw6 182 rfl rfl
set_option maxRecDepth 20000 in
theorem w_1446 : (.instanceMethod ⟨"HullyardSurveysModel", "noCorner", "(II)Z"⟩ : Cond) ∈ GW := gw6 184 rfl rfl
set_option maxRecDepth 20000 in
theorem w_1447 : (.code ⟨"HullyardSurveysModel", "noCorner", "(II)Z"⟩ prog_10_method_72_code 3 (some .boolean) : Cond) ∈ GW := gw6 185 rfl rfl
set_option maxRecDepth 20000 in
theorem w_1448 : (.methodLink "HullyardSurveysModel" 278 ⟨"HullyardSurveysModel", "doesSee", "(III)Z"⟩ : Cond) ∈ GW := gw6 186 rfl rfl
set_option maxRecDepth 20000 in
theorem w_1450 : (.instanceMethod ⟨"HullyardSurveysModel", "doesSee", "(III)Z"⟩ : Cond) ∈ GW := gw6 188 rfl rfl
set_option maxRecDepth 20000 in
theorem w_1451 : (.code ⟨"HullyardSurveysModel", "doesSee", "(III)Z"⟩ prog_10_method_73_code 11 (some .boolean) : Cond) ∈ GW := gw6 189 rfl rfl
set_option maxRecDepth 20000 in
theorem w_1452 : (.methodLink "HullyardSurveysModel" 272 ⟨"HullyardSurveysModel", "off", "(I)I"⟩ : Cond) ∈ GW := gw6 190 rfl rfl
set_option maxRecDepth 20000 in
theorem w_1454 : (.instanceMethod ⟨"HullyardSurveysModel", "off", "(I)I"⟩ : Cond) ∈ GW := gw6 192 rfl rfl
set_option maxRecDepth 20000 in
theorem w_1455 : (.code ⟨"HullyardSurveysModel", "off", "(I)I"⟩ prog_10_method_74_code 2 (some .int) : Cond) ∈ GW := gw6 193 rfl rfl
set_option maxRecDepth 20000 in
theorem w_1456 : (.methodLink "HullyardSurveysLaw" 253 ⟨"HullyardSurveysModel", "view", "(II)I"⟩ : Cond) ∈ GW := gw6 194 rfl rfl
set_option maxRecDepth 20000 in
theorem w_1457 : (.instanceMethod ⟨"HullyardSurveysModel", "view", "(II)I"⟩ : Cond) ∈ GW := gw6 195 rfl rfl
set_option maxRecDepth 20000 in
theorem w_1458 : (.selects "HullyardSurveysModel" ⟨"HullyardSurveysModel", "view", "(II)I"⟩ ⟨"HullyardSurveysModel", "view", "(II)I"⟩ : Cond) ∈ GW := gw6 196 rfl rfl
set_option maxRecDepth 20000 in
theorem w_1459 : (.code ⟨"HullyardSurveysModel", "view", "(II)I"⟩ prog_10_method_76_code 5 (some .int) : Cond) ∈ GW := gw6 197 rfl rfl
set_option maxRecDepth 20000 in
theorem w_1460 : (.methodLink "HullyardSurveysLaw" 257 ⟨"HullyardSurveysModel", "line", "(IIII)I"⟩ : Cond) ∈ GW := gw6 198 rfl rfl
set_option maxRecDepth 20000 in
theorem w_1461 : (.instanceMethod ⟨"HullyardSurveysModel", "line", "(IIII)I"⟩ : Cond) ∈ GW := gw6 199 rfl rfl
set_option maxRecDepth 20000 in
theorem w_1462 : (.selects "HullyardSurveysModel" ⟨"HullyardSurveysModel", "line", "(IIII)I"⟩ ⟨"HullyardSurveysModel", "line", "(IIII)I"⟩ : Cond) ∈ GW := gw6 200 rfl rfl
set_option maxRecDepth 20000 in
theorem w_1463 : (.code ⟨"HullyardSurveysModel", "line", "(IIII)I"⟩ prog_10_method_77_code 5 (some .int) : Cond) ∈ GW := gw6 201 rfl rfl
set_option maxRecDepth 20000 in
theorem w_1464 : (.methodLink "HullyardSurveysLaw" 261 ⟨"HullyardSurveysModel", "clearLines", "()I"⟩ : Cond) ∈ GW := gw6 202 rfl rfl
set_option maxRecDepth 20000 in
theorem w_1465 : (.instanceMethod ⟨"HullyardSurveysModel", "clearLines", "()I"⟩ : Cond) ∈ GW := gw6 203 rfl rfl
set_option maxRecDepth 20000 in
theorem w_1466 : (.selects "HullyardSurveysModel" ⟨"HullyardSurveysModel", "clearLines", "()I"⟩ ⟨"HullyardSurveysModel", "clearLines", "()I"⟩ : Cond) ∈ GW := gw6 204 rfl rfl
set_option maxRecDepth 20000 in
theorem w_1467 : (.code ⟨"HullyardSurveysModel", "clearLines", "()I"⟩ prog_10_method_78_code 2 (some .int) : Cond) ∈ GW := gw6 205 rfl rfl
set_option maxRecDepth 20000 in
theorem w_1468 : (.methodLink "HullyardSurveysLaw" 264 ⟨"HullyardSurveysModel", "cross", "(II)Z"⟩ : Cond) ∈ GW := gw6 206 rfl rfl
set_option maxRecDepth 20000 in
theorem w_1469 : (.instanceMethod ⟨"HullyardSurveysModel", "cross", "(II)Z"⟩ : Cond) ∈ GW := gw6 207 rfl rfl
set_option maxRecDepth 20000 in
theorem w_1470 : (.selects "HullyardSurveysModel" ⟨"HullyardSurveysModel", "cross", "(II)Z"⟩ ⟨"HullyardSurveysModel", "cross", "(II)Z"⟩ : Cond) ∈ GW := gw6 208 rfl rfl
set_option maxRecDepth 20000 in
theorem w_1471 : (.code ⟨"HullyardSurveysModel", "cross", "(II)Z"⟩ prog_10_method_81_code 3 (some .boolean) : Cond) ∈ GW := gw6 209 rfl rfl
set_option maxRecDepth 20000 in
theorem w_1472 : (.methodLink "HullyardSurveysModel" 284 ⟨"HullyardSurveysModel", "noLine", "(I)Z"⟩ : Cond) ∈ GW := gw6 210 rfl rfl
set_option maxRecDepth 20000 in
theorem w_1474 : (.instanceMethod ⟨"HullyardSurveysModel", "noLine", "(I)Z"⟩ : Cond) ∈ GW := gw6 212 rfl rfl
set_option maxRecDepth 20000 in
theorem w_1475 : (.code ⟨"HullyardSurveysModel", "noLine", "(I)Z"⟩ prog_10_method_80_code 2 (some .boolean) : Cond) ∈ GW := gw6 213 rfl rfl
set_option maxRecDepth 20000 in
theorem w_1476 : (.methodLink "HullyardSurveysModel" 287 ⟨"HullyardSurveysModel", "areCrossed", "(II)Z"⟩ : Cond) ∈ GW := gw6 214 rfl rfl
set_option maxRecDepth 20000 in
theorem w_1478 : (.instanceMethod ⟨"HullyardSurveysModel", "areCrossed", "(II)Z"⟩ : Cond) ∈ GW := gw6 216 rfl rfl
set_option maxRecDepth 20000 in
theorem w_1479 : (.code ⟨"HullyardSurveysModel", "areCrossed", "(II)Z"⟩ prog_10_method_79_code 3 (some .boolean) : Cond) ∈ GW := gw6 217 rfl rfl
set_option maxRecDepth 20000 in
theorem w_1480 : (.methodLink "HullyardSurveysLaw" 268 ⟨"HullyardSurveysModel", "crossings", "()I"⟩ : Cond) ∈ GW := gw6 218 rfl rfl
set_option maxRecDepth 20000 in
theorem w_1481 : (.instanceMethod ⟨"HullyardSurveysModel", "crossings", "()I"⟩ : Cond) ∈ GW := gw6 219 rfl rfl
set_option maxRecDepth 20000 in
theorem w_1482 : (.selects "HullyardSurveysModel" ⟨"HullyardSurveysModel", "crossings", "()I"⟩ ⟨"HullyardSurveysModel", "crossings", "()I"⟩ : Cond) ∈ GW := gw6 220 rfl rfl
set_option maxRecDepth 20000 in
theorem w_1483 : (.code ⟨"HullyardSurveysModel", "crossings", "()I"⟩ prog_10_method_83_code 2 (some .int) : Cond) ∈ GW := gw6 221 rfl rfl
set_option maxRecDepth 20000 in
theorem w_1484 : (.methodLink "HullyardSurveysModel" 293 ⟨"HullyardSurveysModel", "crossed", "(I)I"⟩ : Cond) ∈ GW := gw6 222 rfl rfl
set_option maxRecDepth 20000 in
theorem w_1486 : (.instanceMethod ⟨"HullyardSurveysModel", "crossed", "(I)I"⟩ : Cond) ∈ GW := gw6 224 rfl rfl
set_option maxRecDepth 20000 in
theorem w_1487 : (.code ⟨"HullyardSurveysModel", "crossed", "(I)I"⟩ prog_10_method_82_code 4 (some .int) : Cond) ∈ GW := gw6 225 rfl rfl
set_option maxRecDepth 20000 in
theorem w_1488 : (.methodLink "HullyardSurveysLaw" 271 ⟨"HullyardSurveysModel", "crossingAt", "(I)I"⟩ : Cond) ∈ GW := gw6 226 rfl rfl
set_option maxRecDepth 20000 in
theorem w_1489 : (.instanceMethod ⟨"HullyardSurveysModel", "crossingAt", "(I)I"⟩ : Cond) ∈ GW := gw6 227 rfl rfl
set_option maxRecDepth 20000 in
theorem w_1490 : (.selects "HullyardSurveysModel" ⟨"HullyardSurveysModel", "crossingAt", "(I)I"⟩ ⟨"HullyardSurveysModel", "crossingAt", "(I)I"⟩ : Cond) ∈ GW := gw6 228 rfl rfl
set_option maxRecDepth 20000 in
theorem w_1491 : (.code ⟨"HullyardSurveysModel", "crossingAt", "(I)I"⟩ prog_10_method_84_code 3 (some .int) : Cond) ∈ GW := gw6 229 rfl rfl
set_option maxRecDepth 20000 in
theorem w_1492 : (.methodLink "HullyardSurveysLaw" 274 ⟨"HullyardSurveysModel", "pair", "(IZ)I"⟩ : Cond) ∈ GW := gw6 230 rfl rfl
set_option maxRecDepth 20000 in
theorem w_1493 : (.instanceMethod ⟨"HullyardSurveysModel", "pair", "(IZ)I"⟩ : Cond) ∈ GW := gw6 231 rfl rfl
set_option maxRecDepth 20000 in
theorem w_1494 : (.selects "HullyardSurveysModel" ⟨"HullyardSurveysModel", "pair", "(IZ)I"⟩ ⟨"HullyardSurveysModel", "pair", "(IZ)I"⟩ : Cond) ∈ GW := gw6 232 rfl rfl
set_option maxRecDepth 20000 in
theorem w_1495 : (.code ⟨"HullyardSurveysModel", "pair", "(IZ)I"⟩ prog_10_method_87_code 3 (some .int) : Cond) ∈ GW := gw6 233 rfl rfl
set_option maxRecDepth 20000 in
theorem w_1496 : (.methodLink "HullyardSurveysModel" 299 ⟨"HullyardSurveysModel", "pairOf", "(IZ)I"⟩ : Cond) ∈ GW := gw6 234 rfl rfl
set_option maxRecDepth 20000 in
theorem w_1498 : (.instanceMethod ⟨"HullyardSurveysModel", "pairOf", "(IZ)I"⟩ : Cond) ∈ GW := gw6 236 rfl rfl
set_option maxRecDepth 20000 in
theorem w_1499 : (.code ⟨"HullyardSurveysModel", "pairOf", "(IZ)I"⟩ prog_10_method_86_code 7 (some .int) : Cond) ∈ GW := gw6 237 rfl rfl
set_option maxRecDepth 20000 in
theorem w_1500 : (.methodLink "HullyardSurveysModel" 296 ⟨"HullyardSurveysModel", "squared", "(II)I"⟩ : Cond) ∈ GW := gw6 238 rfl rfl
set_option maxRecDepth 20000 in
theorem w_1502 : (.instanceMethod ⟨"HullyardSurveysModel", "squared", "(II)I"⟩ : Cond) ∈ GW := gw7 0 rfl rfl
set_option maxRecDepth 20000 in
theorem w_1503 : (.code ⟨"HullyardSurveysModel", "squared", "(II)I"⟩ prog_10_method_85_code 3 (some .int) : Cond) ∈ GW := gw7 1 rfl rfl
set_option maxRecDepth 20000 in
theorem w_1504 : (.methodLink "HullyardSurveysLaw" 277 ⟨"HullyardSurveysModel", "distance", "(IZ)I"⟩ : Cond) ∈ GW := gw7 2 rfl rfl
set_option maxRecDepth 20000 in
theorem w_1505 : (.instanceMethod ⟨"HullyardSurveysModel", "distance", "(IZ)I"⟩ : Cond) ∈ GW := gw7 3 rfl rfl
set_option maxRecDepth 20000 in
theorem w_1506 : (.selects "HullyardSurveysModel" ⟨"HullyardSurveysModel", "distance", "(IZ)I"⟩ ⟨"HullyardSurveysModel", "distance", "(IZ)I"⟩ : Cond) ∈ GW := gw7 4 rfl rfl
set_option maxRecDepth 20000 in
theorem w_1507 : (.code ⟨"HullyardSurveysModel", "distance", "(IZ)I"⟩ prog_10_method_88_code 4 (some .int) : Cond) ∈ GW := gw7 5 rfl rfl
set_option maxRecDepth 20000 in
theorem w_1508 : (.methodLink "HullyardSurveysLaw" 280 ⟨"HullyardSurveysModel", "box", "(II)I"⟩ : Cond) ∈ GW := gw7 6 rfl rfl
set_option maxRecDepth 20000 in
theorem w_1509 : (.instanceMethod ⟨"HullyardSurveysModel", "box", "(II)I"⟩ : Cond) ∈ GW := gw7 7 rfl rfl
set_option maxRecDepth 20000 in
theorem w_1510 : (.selects "HullyardSurveysModel" ⟨"HullyardSurveysModel", "box", "(II)I"⟩ ⟨"HullyardSurveysModel", "box", "(II)I"⟩ : Cond) ∈ GW := gw7 8 rfl rfl
set_option maxRecDepth 20000 in
theorem w_1511 : (.code ⟨"HullyardSurveysModel", "box", "(II)I"⟩ prog_10_method_89_code 7 (some .int) : Cond) ∈ GW := gw7 9 rfl rfl
set_option maxRecDepth 20000 in
theorem w_1512 : (.methodLink "HullyardSurveysLaw" 283 ⟨"HullyardSurveysModel", "fence", "(II)I"⟩ : Cond) ∈ GW := gw7 10 rfl rfl
set_option maxRecDepth 20000 in
theorem w_1513 : (.instanceMethod ⟨"HullyardSurveysModel", "fence", "(II)I"⟩ : Cond) ∈ GW := gw7 11 rfl rfl
set_option maxRecDepth 20000 in
theorem w_1514 : (.selects "HullyardSurveysModel" ⟨"HullyardSurveysModel", "fence", "(II)I"⟩ ⟨"HullyardSurveysModel", "fence", "(II)I"⟩ : Cond) ∈ GW := gw7 12 rfl rfl
set_option maxRecDepth 20000 in
theorem w_1515 : (.code ⟨"HullyardSurveysModel", "fence", "(II)I"⟩ prog_10_method_92_code 10 (some .int) : Cond) ∈ GW := gw7 13 rfl rfl
set_option maxRecDepth 20000 in
theorem w_1516 : (.methodLink "HullyardSurveysModel" 303 ⟨"HullyardSurveysModel", "ordersByY", "(I)I"⟩ : Cond) ∈ GW := gw7 14 rfl rfl
set_option maxRecDepth 20000 in
theorem w_1518 : (.instanceMethod ⟨"HullyardSurveysModel", "ordersByY", "(I)I"⟩ : Cond) ∈ GW := gw7 16 rfl rfl
set_option maxRecDepth 20000 in
theorem w_1519 : (.code ⟨"HullyardSurveysModel", "ordersByY", "(I)I"⟩ prog_10_method_90_code 5 (some .int) : Cond) ∈ GW := gw7 17 rfl rfl
set_option maxRecDepth 20000 in
theorem w_1520 : (.methodLink "HullyardSurveysModel" 306 ⟨"HullyardSurveysModel", "height", "(IIIII)I"⟩ : Cond) ∈ GW := gw7 18 rfl rfl
set_option maxRecDepth 20000 in
theorem w_1522 : (.instanceMethod ⟨"HullyardSurveysModel", "height", "(IIIII)I"⟩ : Cond) ∈ GW := gw7 20 rfl rfl
set_option maxRecDepth 20000 in
theorem w_1523 : (.code ⟨"HullyardSurveysModel", "height", "(IIIII)I"⟩ prog_10_method_91_code 9 (some .int) : Cond) ∈ GW := gw7 21 rfl rfl
set_option maxRecDepth 20000 in
theorem w_1524 : (.methodLink "HullyardSurveysLaw" 286 ⟨"HullyardSurveysModel", "apart", "(II)Z"⟩ : Cond) ∈ GW := gw7 22 rfl rfl
set_option maxRecDepth 20000 in
theorem w_1525 : (.instanceMethod ⟨"HullyardSurveysModel", "apart", "(II)Z"⟩ : Cond) ∈ GW := gw7 23 rfl rfl
set_option maxRecDepth 20000 in
theorem w_1526 : (.selects "HullyardSurveysModel" ⟨"HullyardSurveysModel", "apart", "(II)Z"⟩ ⟨"HullyardSurveysModel", "apart", "(II)Z"⟩ : Cond) ∈ GW := gw7 24 rfl rfl
set_option maxRecDepth 20000 in
theorem w_1527 : (.code ⟨"HullyardSurveysModel", "apart", "(II)Z"⟩ prog_10_method_94_code 7 (some .boolean) : Cond) ∈ GW := gw7 25 rfl rfl
set_option maxRecDepth 20000 in
theorem w_1528 : (.methodLink "HullyardSurveysModel" 310 ⟨"HullyardSurveysModel", "isIn", "(II)Z"⟩ : Cond) ∈ GW := gw7 26 rfl rfl
set_option maxRecDepth 20000 in
theorem w_1530 : (.instanceMethod ⟨"HullyardSurveysModel", "isIn", "(II)Z"⟩ : Cond) ∈ GW := gw7 28 rfl rfl
set_option maxRecDepth 20000 in
theorem w_1531 : (.code ⟨"HullyardSurveysModel", "isIn", "(II)Z"⟩ prog_10_method_93_code 4 (some .boolean) : Cond) ∈ GW := gw7 29 rfl rfl
set_option maxRecDepth 20000 in
theorem w_1532 : (.methodLink "HullyardSurveysLaw" 290 ⟨"HullyardSurveysModel", "image", "()I"⟩ : Cond) ∈ GW := gw7 30 rfl rfl
set_option maxRecDepth 20000 in
theorem w_1533 : (.instanceMethod ⟨"HullyardSurveysModel", "image", "()I"⟩ : Cond) ∈ GW := gw7 31 rfl rfl
set_option maxRecDepth 20000 in
theorem w_1534 : (.selects "HullyardSurveysModel" ⟨"HullyardSurveysModel", "image", "()I"⟩ ⟨"HullyardSurveysModel", "image", "()I"⟩ : Cond) ∈ GW := gw7 32 rfl rfl
set_option maxRecDepth 20000 in
theorem w_1535 : (.code ⟨"HullyardSurveysModel", "image", "()I"⟩ prog_10_method_95_code 2 (some .int) : Cond) ∈ GW := gw7 33 rfl rfl
set_option maxRecDepth 20000 in
theorem w_1536 : (.methodLink "HullyardSurveysLaw" 294 ⟨"HullyardSurveysModel", "restore", "()I"⟩ : Cond) ∈ GW := gw7 34 rfl rfl
set_option maxRecDepth 20000 in
theorem w_1537 : (.instanceMethod ⟨"HullyardSurveysModel", "restore", "()I"⟩ : Cond) ∈ GW := gw7 35 rfl rfl
set_option maxRecDepth 20000 in
theorem w_1538 : (.selects "HullyardSurveysModel" ⟨"HullyardSurveysModel", "restore", "()I"⟩ ⟨"HullyardSurveysModel", "restore", "()I"⟩ : Cond) ∈ GW := gw7 36 rfl rfl
set_option maxRecDepth 20000 in
theorem w_1539 : (.code ⟨"HullyardSurveysModel", "restore", "()I"⟩ prog_10_method_96_code 2 (some .int) : Cond) ∈ GW := gw7 37 rfl rfl
set_option maxRecDepth 20000 in
theorem w_1540 : (.methodLink "HullyardSurveysLaw" 298 ⟨"HullyardSurveysModel", "checksum", "()I"⟩ : Cond) ∈ GW := gw7 38 rfl rfl
set_option maxRecDepth 20000 in
theorem w_1541 : (.instanceMethod ⟨"HullyardSurveysModel", "checksum", "()I"⟩ : Cond) ∈ GW := gw7 39 rfl rfl
set_option maxRecDepth 20000 in
theorem w_1542 : (.selects "HullyardSurveysModel" ⟨"HullyardSurveysModel", "checksum", "()I"⟩ ⟨"HullyardSurveysModel", "checksum", "()I"⟩ : Cond) ∈ GW := gw7 40 rfl rfl
set_option maxRecDepth 20000 in
theorem w_1543 : (.code ⟨"HullyardSurveysModel", "checksum", "()I"⟩ prog_10_method_97_code 3 (some .int) : Cond) ∈ GW := gw7 41 rfl rfl
set_option maxRecDepth 20000 in
theorem w_1544 : (.methodLink "HullyardSurveysLaw" 302 ⟨"HullyardSurveysModel", "meanFar", "(I)D"⟩ : Cond) ∈ GW := gw7 42 rfl rfl
set_option maxRecDepth 20000 in
theorem w_1545 : (.instanceMethod ⟨"HullyardSurveysModel", "meanFar", "(I)D"⟩ : Cond) ∈ GW := gw7 43 rfl rfl
set_option maxRecDepth 20000 in
theorem w_1546 : (.selects "HullyardSurveysModel" ⟨"HullyardSurveysModel", "meanFar", "(I)D"⟩ ⟨"HullyardSurveysModel", "meanFar", "(I)D"⟩ : Cond) ∈ GW := gw7 44 rfl rfl
set_option maxRecDepth 20000 in
theorem w_1547 : (.code ⟨"HullyardSurveysModel", "meanFar", "(I)D"⟩ prog_10_method_98_code 5 (some .double) : Cond) ∈ GW := gw7 45 rfl rfl
set_option maxRecDepth 20000 in
theorem w_1548 : (.methodLink "HullyardSurveysLaw" 307 ⟨"HullyardSurveysModel", "fills", "()F"⟩ : Cond) ∈ GW := gw7 46 rfl rfl
set_option maxRecDepth 20000 in
theorem w_1549 : (.instanceMethod ⟨"HullyardSurveysModel", "fills", "()F"⟩ : Cond) ∈ GW := gw7 47 rfl rfl
set_option maxRecDepth 20000 in
theorem w_1550 : (.selects "HullyardSurveysModel" ⟨"HullyardSurveysModel", "fills", "()F"⟩ ⟨"HullyardSurveysModel", "fills", "()F"⟩ : Cond) ∈ GW := gw7 48 rfl rfl
set_option maxRecDepth 20000 in
theorem w_1551 : (.code ⟨"HullyardSurveysModel", "fills", "()F"⟩ prog_10_method_99_code 6 (some .float) : Cond) ∈ GW := gw7 49 rfl rfl
set_option maxRecDepth 20000 in
theorem w_1552 : (.methodLink "HullyardSurveysLaw" 311 ⟨"HullyardSurveysModel", "errors", "()I"⟩ : Cond) ∈ GW := gw7 50 rfl rfl
set_option maxRecDepth 20000 in
theorem w_1553 : (.instanceMethod ⟨"HullyardSurveysModel", "errors", "()I"⟩ : Cond) ∈ GW := gw7 51 rfl rfl
set_option maxRecDepth 20000 in
theorem w_1554 : (.selects "HullyardSurveysModel" ⟨"HullyardSurveysModel", "errors", "()I"⟩ ⟨"HullyardSurveysModel", "errors", "()I"⟩ : Cond) ∈ GW := gw7 52 rfl rfl
set_option maxRecDepth 20000 in
theorem w_1555 : (.code ⟨"HullyardSurveysModel", "errors", "()I"⟩ prog_10_method_100_code 1 (some .int) : Cond) ∈ GW := gw7 53 rfl rfl
