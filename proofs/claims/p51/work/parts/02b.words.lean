/-! words of the tables by their places; by program -/
/-- the words that every method may use -/
def GW : List Cond := lw_tbl.filter goodWord
theorem GW_in {w : Cond} (h1 : w ∈ lw_tbl) (h2 : goodWord w = true) : w ∈ GW := List.mem_filter.mpr ⟨h1, h2⟩
theorem GW_good : GoodIn GW GW := fun w h => ⟨h, good_of_word (List.mem_filter.mp h).2⟩
theorem gw0 {w : Cond} (i : Nat) (hw : (k2_sels lw_privs)[i]? = some w) (hg : goodWord w = true) : w ∈ GW := GW_in (List.mem_append_left _ (List.mem_of_getElem? hw)) hg
theorem gw1 {w : Cond} (i : Nat) (hw : tables_1_1[i]? = some w) (hg : goodWord w = true) : w ∈ GW := GW_in (List.mem_append_right _ (show w ∈ tables_1 from List.mem_append_left _ (List.mem_of_getElem? hw))) hg
theorem gw2 {w : Cond} (i : Nat) (hw : tables_1_2[i]? = some w) (hg : goodWord w = true) : w ∈ GW := GW_in (List.mem_append_right _ (show w ∈ tables_1 from List.mem_append_right _ (List.mem_append_left _ (List.mem_of_getElem? hw)))) hg
theorem gw3 {w : Cond} (i : Nat) (hw : tables_1_3[i]? = some w) (hg : goodWord w = true) : w ∈ GW := GW_in (List.mem_append_right _ (show w ∈ tables_1 from List.mem_append_right _ (List.mem_append_right _ (List.mem_append_left _ (List.mem_of_getElem? hw))))) hg
theorem gw4 {w : Cond} (i : Nat) (hw : tables_1_4[i]? = some w) (hg : goodWord w = true) : w ∈ GW := GW_in (List.mem_append_right _ (show w ∈ tables_1 from List.mem_append_right _ (List.mem_append_right _ (List.mem_append_right _ (List.mem_append_left _ (List.mem_of_getElem? hw)))))) hg
theorem gw5 {w : Cond} (i : Nat) (hw : tables_1_5[i]? = some w) (hg : goodWord w = true) : w ∈ GW := GW_in (List.mem_append_right _ (show w ∈ tables_1 from List.mem_append_right _ (List.mem_append_right _ (List.mem_append_right _ (List.mem_append_right _ (List.mem_of_getElem? hw)))))) hg
set_option maxRecDepth 20000 in
theorem w_0 : (.selects "HullyardSurveysLaw" ⟨"HullyardSurveysLaw", "come", "()Z"⟩ ⟨"HullyardSurveysLaw", "come", "()Z"⟩ : Cond) ∈ GW := gw0 0 rfl rfl
set_option maxRecDepth 20000 in
theorem w_1 : (.selects "HullyardSurveysLaw" ⟨"HullyardSurveysLaw", "next", "(I)I"⟩ ⟨"HullyardSurveysLaw", "next", "(I)I"⟩ : Cond) ∈ GW := gw0 1 rfl rfl
set_option maxRecDepth 20000 in
theorem w_2 : (.selects "HullyardSurveysLaw" ⟨"HullyardSurveysLaw", "spread", "()I"⟩ ⟨"HullyardSurveysLaw", "spread", "()I"⟩ : Cond) ∈ GW := gw0 2 rfl rfl
set_option maxRecDepth 20000 in
theorem w_4 : (.selects "HullyardSurveys$Row" ⟨"HullyardSurveys$Row", "put", "(IIII)V"⟩ ⟨"HullyardSurveys$Row", "put", "(IIII)V"⟩ : Cond) ∈ GW := gw0 4 rfl rfl
set_option maxRecDepth 20000 in
theorem w_5 : (.selects "HullyardSurveysLaw" ⟨"HullyardSurveysLaw", "areHulls", "()Z"⟩ ⟨"HullyardSurveysLaw", "areHulls", "()Z"⟩ : Cond) ∈ GW := gw0 5 rfl rfl
set_option maxRecDepth 20000 in
theorem w_6 : (.selects "HullyardSurveys" ⟨"HullyardSurveys", "requireFilled", "(I)V"⟩ ⟨"HullyardSurveys", "requireFilled", "(I)V"⟩ : Cond) ∈ GW := gw0 6 rfl rfl
set_option maxRecDepth 20000 in
theorem w_7 : (.selects "HullyardSurveys" ⟨"HullyardSurveys", "orderHeap", "(I)V"⟩ ⟨"HullyardSurveys", "orderHeap", "(I)V"⟩ : Cond) ∈ GW := gw0 7 rfl rfl
set_option maxRecDepth 20000 in
theorem w_8 : (.selects "HullyardSurveys$Row" ⟨"HullyardSurveys$Row", "isBehind", "(III)Z"⟩ ⟨"HullyardSurveys$Row", "isBehind", "(III)Z"⟩ : Cond) ∈ GW := gw0 8 rfl rfl
set_option maxRecDepth 20000 in
theorem w_9 : (.selects "HullyardSurveysLaw" ⟨"HullyardSurveysLaw", "isFigure", "()Z"⟩ ⟨"HullyardSurveysLaw", "isFigure", "()Z"⟩ : Cond) ∈ GW := gw0 9 rfl rfl
set_option maxRecDepth 20000 in
theorem w_10 : (.selects "HullyardSurveysLaw" ⟨"HullyardSurveysLaw", "isWide", "(I)Z"⟩ ⟨"HullyardSurveysLaw", "isWide", "(I)Z"⟩ : Cond) ∈ GW := gw0 10 rfl rfl
set_option maxRecDepth 20000 in
theorem w_11 : (.selects "HullyardSurveysLaw" ⟨"HullyardSurveysLaw", "holdsAll", "(I)Z"⟩ ⟨"HullyardSurveysLaw", "holdsAll", "(I)Z"⟩ : Cond) ∈ GW := gw0 11 rfl rfl
set_option maxRecDepth 20000 in
theorem w_12 : (.selects "HullyardSurveysLaw" ⟨"HullyardSurveysLaw", "isOfPoints", "(II)Z"⟩ ⟨"HullyardSurveysLaw", "isOfPoints", "(II)Z"⟩ : Cond) ∈ GW := gw0 12 rfl rfl
set_option maxRecDepth 20000 in
theorem w_13 : (.selects "HullyardSurveys" ⟨"HullyardSurveys", "requireTwoFilled", "(II)V"⟩ ⟨"HullyardSurveys", "requireTwoFilled", "(II)V"⟩ : Cond) ∈ GW := gw0 13 rfl rfl
set_option maxRecDepth 20000 in
theorem w_14 : (.selects "HullyardSurveys" ⟨"HullyardSurveys", "wrapTwo", "(II)V"⟩ ⟨"HullyardSurveys", "wrapTwo", "(II)V"⟩ : Cond) ∈ GW := gw0 14 rfl rfl
set_option maxRecDepth 20000 in
theorem w_15 : (.selects "HullyardSurveysLaw" ⟨"HullyardSurveysLaw", "areLayers", "()Z"⟩ ⟨"HullyardSurveysLaw", "areLayers", "()Z"⟩ : Cond) ∈ GW := gw0 15 rfl rfl
set_option maxRecDepth 20000 in
theorem w_16 : (.selects "HullyardSurveysLaw" ⟨"HullyardSurveysLaw", "many", "(I)I"⟩ ⟨"HullyardSurveysLaw", "many", "(I)I"⟩ : Cond) ∈ GW := gw0 16 rfl rfl
set_option maxRecDepth 20000 in
theorem w_17 : (.selects "HullyardSurveysLaw" ⟨"HullyardSurveysLaw", "arePairs", "()Z"⟩ ⟨"HullyardSurveysLaw", "arePairs", "()Z"⟩ : Cond) ∈ GW := gw0 17 rfl rfl
set_option maxRecDepth 20000 in
theorem w_18 : (.selects "HullyardSurveys" ⟨"HullyardSurveys", "requireTwoPoints", "(I)V"⟩ ⟨"HullyardSurveys", "requireTwoPoints", "(I)V"⟩ : Cond) ∈ GW := gw0 18 rfl rfl
set_option maxRecDepth 20000 in
theorem w_19 : (.selects "HullyardSurveys" ⟨"HullyardSurveys", "leastFenceFrom", "(II)I"⟩ ⟨"HullyardSurveys", "leastFenceFrom", "(II)I"⟩ : Cond) ∈ GW := gw0 19 rfl rfl
set_option maxRecDepth 20000 in
theorem w_20 : (.selects "HullyardSurveys" ⟨"HullyardSurveys", "requirePoint", "(I)V"⟩ ⟨"HullyardSurveys", "requirePoint", "(I)V"⟩ : Cond) ∈ GW := gw0 20 rfl rfl
set_option maxRecDepth 20000 in
theorem w_21 : (.selects "HullyardSurveysLaw" ⟨"HullyardSurveysLaw", "areApart", "()Z"⟩ ⟨"HullyardSurveysLaw", "areApart", "()Z"⟩ : Cond) ∈ GW := gw0 21 rfl rfl
set_option maxRecDepth 20000 in
theorem w_22 : (.selects "HullyardSurveysLaw" ⟨"HullyardSurveysLaw", "isDrawn", "(I)Z"⟩ ⟨"HullyardSurveysLaw", "isDrawn", "(I)Z"⟩ : Cond) ∈ GW := gw0 22 rfl rfl
set_option maxRecDepth 20000 in
theorem w_23 : (.selects "HullyardSurveys" ⟨"HullyardSurveys", "requirePolygon", "(I)LHullyardSurveys$Row;"⟩ ⟨"HullyardSurveys", "requirePolygon", "(I)LHullyardSurveys$Row;"⟩ : Cond) ∈ GW := gw0 23 rfl rfl
set_option maxRecDepth 20000 in
theorem w_24 : (.selects "HullyardSurveysLaw" ⟨"HullyardSurveysLaw", "isPolygon", "(I)Z"⟩ ⟨"HullyardSurveysLaw", "isPolygon", "(I)Z"⟩ : Cond) ∈ GW := gw0 24 rfl rfl
set_option maxRecDepth 20000 in
theorem w_25 : (.selects "HullyardSurveysLaw" ⟨"HullyardSurveysLaw", "isTouched", "()Z"⟩ ⟨"HullyardSurveysLaw", "isTouched", "()Z"⟩ : Cond) ∈ GW := gw0 25 rfl rfl
set_option maxRecDepth 20000 in
theorem w_26 : (.selects "HullyardSurveys" ⟨"HullyardSurveys", "requireLine", "(I)V"⟩ ⟨"HullyardSurveys", "requireLine", "(I)V"⟩ : Cond) ∈ GW := gw0 26 rfl rfl
set_option maxRecDepth 20000 in
theorem w_27 : (.selects "HullyardSurveys" ⟨"HullyardSurveys", "requireSimple", "(I)LHullyardSurveys$Row;"⟩ ⟨"HullyardSurveys", "requireSimple", "(I)LHullyardSurveys$Row;"⟩ : Cond) ∈ GW := gw0 27 rfl rfl
set_option maxRecDepth 20000 in
theorem w_28 : (.selects "HullyardSurveysLaw" ⟨"HullyardSurveysLaw", "isParted", "(II)Z"⟩ ⟨"HullyardSurveysLaw", "isParted", "(II)Z"⟩ : Cond) ∈ GW := gw0 28 rfl rfl
set_option maxRecDepth 20000 in
theorem w_29 : (.selects "HullyardSurveys$Parting" ⟨"HullyardSurveys$Parting", "firstEar", "(I)I"⟩ ⟨"HullyardSurveys$Parting", "firstEar", "(I)I"⟩ : Cond) ∈ GW := gw0 29 rfl rfl
set_option maxRecDepth 20000 in
theorem w_30 : (.selects "HullyardSurveys$Parting" ⟨"HullyardSurveys$Parting", "isEar", "(II)Z"⟩ ⟨"HullyardSurveys$Parting", "isEar", "(II)Z"⟩ : Cond) ∈ GW := gw0 30 rfl rfl
set_option maxRecDepth 20000 in
theorem w_31 : (.selects "HullyardSurveys$Parting" ⟨"HullyardSurveys$Parting", "keepTriangle", "(III)V"⟩ ⟨"HullyardSurveys$Parting", "keepTriangle", "(III)V"⟩ : Cond) ∈ GW := gw0 31 rfl rfl
set_option maxRecDepth 20000 in
theorem w_32 : (.selects "HullyardSurveysLaw" ⟨"HullyardSurveysLaw", "isSeen", "(I)Z"⟩ ⟨"HullyardSurveysLaw", "isSeen", "(I)Z"⟩ : Cond) ∈ GW := gw0 32 rfl rfl
set_option maxRecDepth 20000 in
theorem w_33 : (.selects "HullyardSurveysLaw" ⟨"HullyardSurveysLaw", "areLines", "()Z"⟩ ⟨"HullyardSurveysLaw", "areLines", "()Z"⟩ : Cond) ∈ GW := gw0 33 rfl rfl
set_option maxRecDepth 20000 in
theorem w_34 : (.selects "HullyardSurveysLaw" ⟨"HullyardSurveysLaw", "isRestored", "()Z"⟩ ⟨"HullyardSurveysLaw", "isRestored", "()Z"⟩ : Cond) ∈ GW := gw0 34 rfl rfl
set_option maxRecDepth 20000 in
theorem w_35 : (.selects "HullyardSurveys" ⟨"HullyardSurveys", "hasStray", "(I)Z"⟩ ⟨"HullyardSurveys", "hasStray", "(I)Z"⟩ : Cond) ∈ GW := gw0 35 rfl rfl
set_option maxRecDepth 20000 in
theorem w_36 : (.selects "HullyardSurveys" ⟨"HullyardSurveys", "faultsOf", "(LHullyardSurveys$Row;)I"⟩ ⟨"HullyardSurveys", "faultsOf", "(LHullyardSurveys$Row;)I"⟩ : Cond) ∈ GW := gw0 36 rfl rfl
set_option maxRecDepth 20000 in
theorem w_37 : (.selects "HullyardSurveys$Census" ⟨"HullyardSurveys$Census", "countCommon", "()I"⟩ ⟨"HullyardSurveys$Census", "countCommon", "()I"⟩ : Cond) ∈ GW := gw0 37 rfl rfl
set_option maxRecDepth 20000 in
theorem w_38 : (.initialized "HullyardSurveysLaw" : Cond) ∈ GW := gw1 0 rfl rfl
set_option maxRecDepth 20000 in
theorem w_39 : (.initialized "HullyardSurveys" : Cond) ∈ GW := gw1 1 rfl rfl
set_option maxRecDepth 20000 in
theorem w_40 : (.initialized "HullyardSurveys$Yard" : Cond) ∈ GW := gw1 2 rfl rfl
set_option maxRecDepth 20000 in
theorem w_41 : (.initialized "HullyardSurveys$Row" : Cond) ∈ GW := gw1 3 rfl rfl
set_option maxRecDepth 20000 in
theorem w_42 : (.initialized "java/lang/Math" : Cond) ∈ GW := gw1 4 rfl rfl
set_option maxRecDepth 20000 in
theorem w_43 : (.initialized "HullyardSurveys$Parting" : Cond) ∈ GW := gw1 5 rfl rfl
set_option maxRecDepth 20000 in
theorem w_44 : (.initialized "HullyardSurveys$Census" : Cond) ∈ GW := gw1 6 rfl rfl
set_option maxRecDepth 20000 in
theorem w_48 : (.initialized "java/lang/IllegalArgumentException" : Cond) ∈ GW := gw1 10 rfl rfl
set_option maxRecDepth 20000 in
theorem w_49 : (.initialized "java/lang/IllegalStateException" : Cond) ∈ GW := gw1 11 rfl rfl
set_option maxRecDepth 20000 in
theorem w_50 : (.initialized "java/util/NoSuchElementException" : Cond) ∈ GW := gw1 12 rfl rfl
set_option maxRecDepth 20000 in
theorem w_51 : (.initialized "HullyardSurveys$Hulls" : Cond) ∈ GW := gw1 13 rfl rfl
set_option maxRecDepth 20000 in
theorem w_52 : (.initialized "HullyardSurveys$Plane" : Cond) ∈ GW := gw1 14 rfl rfl
set_option maxRecDepth 20000 in
theorem w_53 : (.initialized "java/lang/IndexOutOfBoundsException" : Cond) ∈ GW := gw1 15 rfl rfl
set_option maxRecDepth 20000 in
theorem w_54 : (.initialized "java/lang/Integer" : Cond) ∈ GW := gw1 16 rfl rfl
set_option maxRecDepth 20000 in
theorem w_55 : (.initialized "HullyardSurveys$Shapes" : Cond) ∈ GW := gw1 17 rfl rfl
set_option maxRecDepth 20000 in
theorem w_58 : (.methodLink "HullyardSurveysLaw" 255 ⟨"HullyardSurveysLaw", "<init>", "()V"⟩ : Cond) ∈ GW := gw1 20 rfl rfl
set_option maxRecDepth 20000 in
theorem w_59 : (.instanceMethod ⟨"HullyardSurveysLaw", "<init>", "()V"⟩ : Cond) ∈ GW := gw1 21 rfl rfl
set_option maxRecDepth 20000 in
theorem w_60 : (.code ⟨"HullyardSurveysLaw", "<init>", "()V"⟩ method_1_code 1 none : Cond) ∈ GW := gw1 22 rfl rfl
set_option maxRecDepth 20000 in
theorem w_61 : (.methodLink "HullyardSurveysLaw" 1 ⟨"java/lang/Object", "<init>", "()V"⟩ : Cond) ∈ GW := gw1 23 rfl rfl
set_option maxRecDepth 20000 in
theorem w_62 : (.instanceMethod ⟨"java/lang/Object", "<init>", "()V"⟩ : Cond) ∈ GW := gw1 24 rfl rfl
set_option maxRecDepth 20000 in
theorem w_63 : (.code ⟨"java/lang/Object", "<init>", "()V"⟩ ⟨#[0xb1]⟩ 1 none : Cond) ∈ GW := gw1 25 rfl rfl
set_option maxRecDepth 20000 in
theorem w_66 : (.methodLink "HullyardSurveysLaw" 9 ⟨"HullyardSurveys", "<init>", "()V"⟩ : Cond) ∈ GW := gw1 28 rfl rfl
set_option maxRecDepth 20000 in
theorem w_67 : (.instanceMethod ⟨"HullyardSurveys", "<init>", "()V"⟩ : Cond) ∈ GW := gw1 29 rfl rfl
set_option maxRecDepth 20000 in
theorem w_68 : (.code ⟨"HullyardSurveys", "<init>", "()V"⟩ prog_1_method_1_code 1 none : Cond) ∈ GW := gw1 30 rfl rfl
set_option maxRecDepth 20000 in
theorem w_69 : (.methodLink "HullyardSurveys" 3 ⟨"java/lang/Object", "<init>", "()V"⟩ : Cond) ∈ GW := gw1 31 rfl rfl
set_option maxRecDepth 20000 in
theorem w_72 : (.methodLink "HullyardSurveys" 11 ⟨"HullyardSurveys$Yard", "<init>", "()V"⟩ : Cond) ∈ GW := gw1 34 rfl rfl
set_option maxRecDepth 20000 in
theorem w_73 : (.instanceMethod ⟨"HullyardSurveys$Yard", "<init>", "()V"⟩ : Cond) ∈ GW := gw1 35 rfl rfl
set_option maxRecDepth 20000 in
theorem w_74 : (.code ⟨"HullyardSurveys$Yard", "<init>", "()V"⟩ prog_8_method_1_code 2 none : Cond) ∈ GW := gw1 36 rfl rfl
set_option maxRecDepth 20000 in
theorem w_75 : (.methodLink "HullyardSurveys$Yard" 3 ⟨"java/lang/Object", "<init>", "()V"⟩ : Cond) ∈ GW := gw1 37 rfl rfl
set_option maxRecDepth 20000 in
theorem w_78 : (.methodLink "HullyardSurveys$Yard" 11 ⟨"HullyardSurveys$Row", "<init>", "(I)V"⟩ : Cond) ∈ GW := gw1 40 rfl rfl
set_option maxRecDepth 20000 in
theorem w_79 : (.instanceMethod ⟨"HullyardSurveys$Row", "<init>", "(I)V"⟩ : Cond) ∈ GW := gw1 41 rfl rfl
set_option maxRecDepth 20000 in
theorem w_80 : (.code ⟨"HullyardSurveys$Row", "<init>", "(I)V"⟩ prog_6_method_1_code 3 none : Cond) ∈ GW := gw1 42 rfl rfl
set_option maxRecDepth 20000 in
theorem w_81 : (.methodLink "HullyardSurveys$Row" 1 ⟨"java/lang/Object", "<init>", "()V"⟩ : Cond) ∈ GW := gw1 43 rfl rfl
set_option maxRecDepth 20000 in
theorem w_82 : (.methodLink "HullyardSurveys$Row" 13 ⟨"java/lang/Math", "max", "(II)I"⟩ : Cond) ∈ GW := gw1 44 rfl rfl
set_option maxRecDepth 20000 in
theorem w_83 : (.static ⟨"java/lang/Math", "max", "(II)I"⟩ : Cond) ∈ GW := gw1 45 rfl rfl
set_option maxRecDepth 20000 in
theorem w_84 : (.code ⟨"java/lang/Math", "max", "(II)I"⟩ Lib.Math.max.code 2 (some .int) : Cond) ∈ GW := gw1 46 rfl rfl
set_option maxRecDepth 20000 in
theorem w_85 : (.fieldLink "HullyardSurveys$Row" 19 "HullyardSurveys$Row" "xs" "[I" : Cond) ∈ GW := gw1 47 rfl rfl
set_option maxRecDepth 20000 in
theorem w_86 : (.fieldLink "HullyardSurveys$Row" 23 "HullyardSurveys$Row" "ys" "[I" : Cond) ∈ GW := gw1 48 rfl rfl
set_option maxRecDepth 20000 in
theorem w_87 : (.fieldLink "HullyardSurveys$Row" 26 "HullyardSurveys$Row" "marks" "[I" : Cond) ∈ GW := gw1 49 rfl rfl
set_option maxRecDepth 20000 in
theorem w_88 : (.fieldLink "HullyardSurveys$Row" 7 "HullyardSurveys$Row" "size" "I" : Cond) ∈ GW := gw1 50 rfl rfl
set_option maxRecDepth 20000 in
theorem w_89 : (.laysFinal "HullyardSurveys$Row" "HullyardSurveys$Row" "xs" "[I" : Cond) ∈ GW := gw1 51 rfl rfl
set_option maxRecDepth 20000 in
theorem w_91 : (.laysFinal "HullyardSurveys$Row" "HullyardSurveys$Row" "ys" "[I" : Cond) ∈ GW := gw1 53 rfl rfl
set_option maxRecDepth 20000 in
theorem w_93 : (.laysFinal "HullyardSurveys$Row" "HullyardSurveys$Row" "marks" "[I" : Cond) ∈ GW := gw1 55 rfl rfl
set_option maxRecDepth 20000 in
theorem w_95 : (.lays "HullyardSurveys$Row" "HullyardSurveys$Row" "size" "I" : Cond) ∈ GW := gw1 57 rfl rfl
set_option maxRecDepth 20000 in
theorem w_100 : (.fieldLink "HullyardSurveys$Yard" 14 "HullyardSurveys$Yard" "points" "LHullyardSurveys$Row;" : Cond) ∈ GW := gw1 62 rfl rfl
set_option maxRecDepth 20000 in
theorem w_102 : (.fieldLink "HullyardSurveys$Yard" 20 "HullyardSurveys$Yard" "ends" "LHullyardSurveys$Row;" : Cond) ∈ GW := gw1 64 rfl rfl
set_option maxRecDepth 20000 in
theorem w_104 : (.fieldLink "HullyardSurveys$Yard" 23 "HullyardSurveys$Yard" "polygons" "[LHullyardSurveys$Row;" : Cond) ∈ GW := gw1 66 rfl rfl
set_option maxRecDepth 20000 in
theorem w_105 : (.fieldLink "HullyardSurveys$Yard" 27 "HullyardSurveys$Yard" "blank" "LHullyardSurveys$Row;" : Cond) ∈ GW := gw1 67 rfl rfl
set_option maxRecDepth 20000 in
theorem w_106 : (.laysFinal "HullyardSurveys$Yard" "HullyardSurveys$Yard" "points" "LHullyardSurveys$Row;" : Cond) ∈ GW := gw1 68 rfl rfl
set_option maxRecDepth 20000 in
theorem w_108 : (.laysFinal "HullyardSurveys$Yard" "HullyardSurveys$Yard" "ends" "LHullyardSurveys$Row;" : Cond) ∈ GW := gw1 70 rfl rfl
set_option maxRecDepth 20000 in
theorem w_110 : (.laysFinal "HullyardSurveys$Yard" "HullyardSurveys$Yard" "polygons" "[LHullyardSurveys$Row;" : Cond) ∈ GW := gw1 72 rfl rfl
set_option maxRecDepth 20000 in
theorem w_112 : (.laysFinal "HullyardSurveys$Yard" "HullyardSurveys$Yard" "blank" "LHullyardSurveys$Row;" : Cond) ∈ GW := gw1 74 rfl rfl
set_option maxRecDepth 20000 in
theorem w_116 : (.methodLink "HullyardSurveys" 25 ⟨"HullyardSurveys$Row", "<init>", "(I)V"⟩ : Cond) ∈ GW := gw1 78 rfl rfl
set_option maxRecDepth 20000 in
theorem w_122 : (.methodLink "HullyardSurveys$Parting" 3 ⟨"java/lang/Object", "<init>", "()V"⟩ : Cond) ∈ GW := gw1 84 rfl rfl
set_option maxRecDepth 20000 in
theorem w_124 : (.methodLink "HullyardSurveys$Parting" 11 ⟨"HullyardSurveys$Row", "<init>", "(I)V"⟩ : Cond) ∈ GW := gw1 86 rfl rfl
set_option maxRecDepth 20000 in
theorem w_125 : (.fieldLink "HullyardSurveys$Parting" 14 "HullyardSurveys$Parting" "left" "LHullyardSurveys$Row;" : Cond) ∈ GW := gw1 87 rfl rfl
set_option maxRecDepth 20000 in
theorem w_126 : (.fieldLink "HullyardSurveys$Parting" 20 "HullyardSurveys$Parting" "told" "[I" : Cond) ∈ GW := gw1 88 rfl rfl
set_option maxRecDepth 20000 in
theorem w_127 : (.fieldLink "HullyardSurveys$Parting" 24 "HullyardSurveys$Parting" "made" "I" : Cond) ∈ GW := gw1 89 rfl rfl
set_option maxRecDepth 20000 in
theorem w_128 : (.fieldLink "HullyardSurveys$Parting" 28 "HullyardSurveys$Parting" "doubledAreas" "J" : Cond) ∈ GW := gw1 90 rfl rfl
set_option maxRecDepth 20000 in
theorem w_129 : (.laysFinal "HullyardSurveys$Parting" "HullyardSurveys$Parting" "left" "LHullyardSurveys$Row;" : Cond) ∈ GW := gw1 91 rfl rfl
set_option maxRecDepth 20000 in
theorem w_131 : (.laysFinal "HullyardSurveys$Parting" "HullyardSurveys$Parting" "told" "[I" : Cond) ∈ GW := gw1 93 rfl rfl
set_option maxRecDepth 20000 in
theorem w_133 : (.lays "HullyardSurveys$Parting" "HullyardSurveys$Parting" "made" "I" : Cond) ∈ GW := gw1 95 rfl rfl
set_option maxRecDepth 20000 in
theorem w_135 : (.lays "HullyardSurveys$Parting" "HullyardSurveys$Parting" "doubledAreas" "J" : Cond) ∈ GW := gw1 97 rfl rfl
set_option maxRecDepth 20000 in
theorem w_143 : (.methodLink "HullyardSurveys$Census" 3 ⟨"java/lang/Object", "<init>", "()V"⟩ : Cond) ∈ GW := gw1 105 rfl rfl
set_option maxRecDepth 20000 in
theorem w_145 : (.methodLink "HullyardSurveys$Census" 11 ⟨"HullyardSurveys$Row", "<init>", "(I)V"⟩ : Cond) ∈ GW := gw1 107 rfl rfl
set_option maxRecDepth 20000 in
theorem w_146 : (.fieldLink "HullyardSurveys$Census" 14 "HullyardSurveys$Census" "above" "LHullyardSurveys$Row;" : Cond) ∈ GW := gw1 108 rfl rfl
set_option maxRecDepth 20000 in
theorem w_147 : (.fieldLink "HullyardSurveys$Census" 20 "HullyardSurveys$Census" "below" "LHullyardSurveys$Row;" : Cond) ∈ GW := gw1 109 rfl rfl
set_option maxRecDepth 20000 in
theorem w_148 : (.laysFinal "HullyardSurveys$Census" "HullyardSurveys$Census" "above" "LHullyardSurveys$Row;" : Cond) ∈ GW := gw1 110 rfl rfl
set_option maxRecDepth 20000 in
theorem w_150 : (.laysFinal "HullyardSurveys$Census" "HullyardSurveys$Census" "below" "LHullyardSurveys$Row;" : Cond) ∈ GW := gw1 112 rfl rfl
set_option maxRecDepth 20000 in
theorem w_153 : (.fieldLink "HullyardSurveys" 12 "HullyardSurveys" "yard" "LHullyardSurveys$Yard;" : Cond) ∈ GW := gw1 115 rfl rfl
set_option maxRecDepth 20000 in
theorem w_154 : (.fieldLink "HullyardSurveys" 16 "HullyardSurveys" "imaged" "LHullyardSurveys$Yard;" : Cond) ∈ GW := gw1 116 rfl rfl
set_option maxRecDepth 20000 in
theorem w_155 : (.fieldLink "HullyardSurveys" 19 "HullyardSurveys" "hasImage" "Z" : Cond) ∈ GW := gw1 117 rfl rfl
set_option maxRecDepth 20000 in
theorem w_156 : (.fieldLink "HullyardSurveys" 28 "HullyardSurveys" "figure" "LHullyardSurveys$Row;" : Cond) ∈ GW := gw1 118 rfl rfl
set_option maxRecDepth 20000 in
theorem w_157 : (.fieldLink "HullyardSurveys" 32 "HullyardSurveys" "ordered" "LHullyardSurveys$Row;" : Cond) ∈ GW := gw1 119 rfl rfl
set_option maxRecDepth 20000 in
theorem w_158 : (.fieldLink "HullyardSurveys" 35 "HullyardSurveys" "heights" "LHullyardSurveys$Row;" : Cond) ∈ GW := gw1 120 rfl rfl
set_option maxRecDepth 20000 in
theorem w_159 : (.fieldLink "HullyardSurveys" 38 "HullyardSurveys" "firstHull" "LHullyardSurveys$Row;" : Cond) ∈ GW := gw1 121 rfl rfl
set_option maxRecDepth 20000 in
theorem w_160 : (.fieldLink "HullyardSurveys" 41 "HullyardSurveys" "secondHull" "LHullyardSurveys$Row;" : Cond) ∈ GW := gw1 122 rfl rfl
set_option maxRecDepth 20000 in
theorem w_161 : (.fieldLink "HullyardSurveys" 47 "HullyardSurveys" "parting" "LHullyardSurveys$Parting;" : Cond) ∈ GW := gw1 123 rfl rfl
set_option maxRecDepth 20000 in
theorem w_162 : (.fieldLink "HullyardSurveys" 54 "HullyardSurveys" "census" "LHullyardSurveys$Census;" : Cond) ∈ GW := gw1 124 rfl rfl
set_option maxRecDepth 20000 in
theorem w_163 : (.laysFinal "HullyardSurveys" "HullyardSurveys" "yard" "LHullyardSurveys$Yard;" : Cond) ∈ GW := gw1 125 rfl rfl
set_option maxRecDepth 20000 in
theorem w_165 : (.laysFinal "HullyardSurveys" "HullyardSurveys" "imaged" "LHullyardSurveys$Yard;" : Cond) ∈ GW := gw1 127 rfl rfl
set_option maxRecDepth 20000 in
theorem w_167 : (.lays "HullyardSurveys" "HullyardSurveys" "hasImage" "Z" : Cond) ∈ GW := gw1 129 rfl rfl
set_option maxRecDepth 20000 in
theorem w_169 : (.laysFinal "HullyardSurveys" "HullyardSurveys" "figure" "LHullyardSurveys$Row;" : Cond) ∈ GW := gw1 131 rfl rfl
set_option maxRecDepth 20000 in
theorem w_171 : (.laysFinal "HullyardSurveys" "HullyardSurveys" "ordered" "LHullyardSurveys$Row;" : Cond) ∈ GW := gw1 133 rfl rfl
set_option maxRecDepth 20000 in
theorem w_173 : (.laysFinal "HullyardSurveys" "HullyardSurveys" "heights" "LHullyardSurveys$Row;" : Cond) ∈ GW := gw1 135 rfl rfl
set_option maxRecDepth 20000 in
theorem w_175 : (.laysFinal "HullyardSurveys" "HullyardSurveys" "firstHull" "LHullyardSurveys$Row;" : Cond) ∈ GW := gw1 137 rfl rfl
set_option maxRecDepth 20000 in
theorem w_177 : (.laysFinal "HullyardSurveys" "HullyardSurveys" "secondHull" "LHullyardSurveys$Row;" : Cond) ∈ GW := gw1 139 rfl rfl
set_option maxRecDepth 20000 in
theorem w_179 : (.laysFinal "HullyardSurveys" "HullyardSurveys" "parting" "LHullyardSurveys$Parting;" : Cond) ∈ GW := gw1 141 rfl rfl
set_option maxRecDepth 20000 in
theorem w_181 : (.laysFinal "HullyardSurveys" "HullyardSurveys" "census" "LHullyardSurveys$Census;" : Cond) ∈ GW := gw1 143 rfl rfl
set_option maxRecDepth 20000 in
theorem w_184 : (.fieldLink "HullyardSurveysLaw" 38 "HullyardSurveysLaw" "x" "I" : Cond) ∈ GW := gw1 146 rfl rfl
set_option maxRecDepth 20000 in
theorem w_185 : (.fieldLink "HullyardSurveysLaw" 10 "HullyardSurveysLaw" "o" "LHullyardSurveys;" : Cond) ∈ GW := gw1 147 rfl rfl
set_option maxRecDepth 20000 in
theorem w_186 : (.fieldLink "HullyardSurveysLaw" 16 "HullyardSurveysLaw" "heap" "[I" : Cond) ∈ GW := gw1 148 rfl rfl
set_option maxRecDepth 20000 in
theorem w_187 : (.fieldLink "HullyardSurveysLaw" 20 "HullyardSurveysLaw" "xs" "[I" : Cond) ∈ GW := gw1 149 rfl rfl
set_option maxRecDepth 20000 in
theorem w_188 : (.fieldLink "HullyardSurveysLaw" 23 "HullyardSurveysLaw" "ys" "[I" : Cond) ∈ GW := gw1 150 rfl rfl
set_option maxRecDepth 20000 in
theorem w_189 : (.fieldLink "HullyardSurveysLaw" 26 "HullyardSurveysLaw" "gx" "[I" : Cond) ∈ GW := gw1 151 rfl rfl
set_option maxRecDepth 20000 in
theorem w_190 : (.fieldLink "HullyardSurveysLaw" 29 "HullyardSurveysLaw" "gy" "[I" : Cond) ∈ GW := gw1 152 rfl rfl
set_option maxRecDepth 20000 in
theorem w_191 : (.fieldLink "HullyardSurveysLaw" 32 "HullyardSurveysLaw" "fx" "[I" : Cond) ∈ GW := gw1 153 rfl rfl
set_option maxRecDepth 20000 in
theorem w_192 : (.fieldLink "HullyardSurveysLaw" 35 "HullyardSurveysLaw" "fy" "[I" : Cond) ∈ GW := gw1 154 rfl rfl
set_option maxRecDepth 20000 in
theorem w_193 : (.fieldLink "HullyardSurveysLaw" 57 "HullyardSurveysLaw" "points" "I" : Cond) ∈ GW := gw1 155 rfl rfl
set_option maxRecDepth 20000 in
theorem w_194 : (.fieldLink "HullyardSurveysLaw" 174 "HullyardSurveysLaw" "sides" "I" : Cond) ∈ GW := gw1 156 rfl rfl
set_option maxRecDepth 20000 in
theorem w_195 : (.fieldLink "HullyardSurveysLaw" 71 "HullyardSurveysLaw" "corners" "I" : Cond) ∈ GW := gw1 157 rfl rfl
set_option maxRecDepth 20000 in
theorem w_196 : (.lays "HullyardSurveysLaw" "HullyardSurveysLaw" "x" "I" : Cond) ∈ GW := gw1 158 rfl rfl
set_option maxRecDepth 20000 in
theorem w_198 : (.laysFinal "HullyardSurveysLaw" "HullyardSurveysLaw" "o" "LHullyardSurveys;" : Cond) ∈ GW := gw1 160 rfl rfl
set_option maxRecDepth 20000 in
theorem w_200 : (.laysFinal "HullyardSurveysLaw" "HullyardSurveysLaw" "heap" "[I" : Cond) ∈ GW := gw1 162 rfl rfl
set_option maxRecDepth 20000 in
theorem w_202 : (.laysFinal "HullyardSurveysLaw" "HullyardSurveysLaw" "xs" "[I" : Cond) ∈ GW := gw1 164 rfl rfl
set_option maxRecDepth 20000 in
theorem w_204 : (.laysFinal "HullyardSurveysLaw" "HullyardSurveysLaw" "ys" "[I" : Cond) ∈ GW := gw1 166 rfl rfl
set_option maxRecDepth 20000 in
theorem w_206 : (.laysFinal "HullyardSurveysLaw" "HullyardSurveysLaw" "gx" "[I" : Cond) ∈ GW := gw1 168 rfl rfl
set_option maxRecDepth 20000 in
theorem w_208 : (.laysFinal "HullyardSurveysLaw" "HullyardSurveysLaw" "gy" "[I" : Cond) ∈ GW := gw1 170 rfl rfl
set_option maxRecDepth 20000 in
theorem w_210 : (.laysFinal "HullyardSurveysLaw" "HullyardSurveysLaw" "fx" "[I" : Cond) ∈ GW := gw1 172 rfl rfl
set_option maxRecDepth 20000 in
theorem w_212 : (.laysFinal "HullyardSurveysLaw" "HullyardSurveysLaw" "fy" "[I" : Cond) ∈ GW := gw1 174 rfl rfl
set_option maxRecDepth 20000 in
theorem w_214 : (.lays "HullyardSurveysLaw" "HullyardSurveysLaw" "points" "I" : Cond) ∈ GW := gw1 176 rfl rfl
set_option maxRecDepth 20000 in
theorem w_216 : (.lays "HullyardSurveysLaw" "HullyardSurveysLaw" "sides" "I" : Cond) ∈ GW := gw1 178 rfl rfl
set_option maxRecDepth 20000 in
theorem w_218 : (.lays "HullyardSurveysLaw" "HullyardSurveysLaw" "corners" "I" : Cond) ∈ GW := gw1 180 rfl rfl
set_option maxRecDepth 20000 in
theorem w_221 : (.methodLink "HullyardSurveysLaw" 260 ⟨"HullyardSurveysLaw", "come", "()Z"⟩ : Cond) ∈ GW := gw1 183 rfl rfl
set_option maxRecDepth 20000 in
theorem w_223 : (.instanceMethod ⟨"HullyardSurveysLaw", "come", "()Z"⟩ : Cond) ∈ GW := gw1 185 rfl rfl
set_option maxRecDepth 20000 in
theorem w_224 : (.code ⟨"HullyardSurveysLaw", "come", "()Z"⟩ method_6_code 6 (some .boolean) : Cond) ∈ GW := gw1 186 rfl rfl
set_option maxRecDepth 20000 in
theorem w_225 : (.methodLink "HullyardSurveysLaw" 54 ⟨"HullyardSurveysLaw", "next", "(I)I"⟩ : Cond) ∈ GW := gw1 187 rfl rfl
set_option maxRecDepth 20000 in
theorem w_227 : (.instanceMethod ⟨"HullyardSurveysLaw", "next", "(I)I"⟩ : Cond) ∈ GW := gw1 189 rfl rfl
set_option maxRecDepth 20000 in
theorem w_228 : (.code ⟨"HullyardSurveysLaw", "next", "(I)I"⟩ method_2_code 2 (some .int) : Cond) ∈ GW := gw1 190 rfl rfl
set_option maxRecDepth 20000 in
theorem w_230 : (.methodLink "HullyardSurveysLaw" 60 ⟨"HullyardSurveysLaw", "spread", "()I"⟩ : Cond) ∈ GW := gw1 192 rfl rfl
set_option maxRecDepth 20000 in
theorem w_232 : (.instanceMethod ⟨"HullyardSurveysLaw", "spread", "()I"⟩ : Cond) ∈ GW := gw1 194 rfl rfl
set_option maxRecDepth 20000 in
theorem w_233 : (.code ⟨"HullyardSurveysLaw", "spread", "()I"⟩ method_5_code 2 (some .int) : Cond) ∈ GW := gw1 195 rfl rfl
set_option maxRecDepth 20000 in
theorem w_234 : (.methodLink "HullyardSurveysLaw" 64 ⟨"HullyardSurveys", "point", "(III)I"⟩ : Cond) ∈ GW := gw1 196 rfl rfl
set_option maxRecDepth 20000 in
theorem w_235 : (.instanceMethod ⟨"HullyardSurveys", "point", "(III)I"⟩ : Cond) ∈ GW := gw1 197 rfl rfl
set_option maxRecDepth 20000 in
theorem w_236 : (.selects "HullyardSurveys" ⟨"HullyardSurveys", "point", "(III)I"⟩ ⟨"HullyardSurveys", "point", "(III)I"⟩ : Cond) ∈ GW := gw1 198 rfl rfl
set_option maxRecDepth 20000 in
theorem w_237 : (.code ⟨"HullyardSurveys", "point", "(III)I"⟩ prog_1_method_2_code 4 (some .int) : Cond) ∈ GW := gw1 199 rfl rfl
set_option maxRecDepth 20000 in
theorem w_238 : (.methodLink "HullyardSurveys" 58 ⟨"HullyardSurveys", "requireHeap", "(I)V"⟩ : Cond) ∈ GW := gw1 200 rfl rfl
set_option maxRecDepth 20000 in
theorem w_239 : (.static ⟨"HullyardSurveys", "requireHeap", "(I)V"⟩ : Cond) ∈ GW := gw1 201 rfl rfl
set_option maxRecDepth 20000 in
theorem w_240 : (.code ⟨"HullyardSurveys", "requireHeap", "(I)V"⟩ prog_1_method_50_code 1 none : Cond) ∈ GW := gw1 202 rfl rfl
set_option maxRecDepth 20000 in
theorem w_241 : (.classLink "HullyardSurveys" 102 "java/lang/IllegalArgumentException" : Cond) ∈ GW := gw1 203 rfl rfl
set_option maxRecDepth 20000 in
theorem w_310 : (.methodLink "HullyardSurveys" 61 ⟨"HullyardSurveys", "requireNear", "(II)V"⟩ : Cond) ∈ GW := gw2 32 rfl rfl
set_option maxRecDepth 20000 in
theorem w_311 : (.static ⟨"HullyardSurveys", "requireNear", "(II)V"⟩ : Cond) ∈ GW := gw2 33 rfl rfl
set_option maxRecDepth 20000 in
theorem w_312 : (.code ⟨"HullyardSurveys", "requireNear", "(II)V"⟩ prog_1_method_51_code 2 none : Cond) ∈ GW := gw2 34 rfl rfl
set_option maxRecDepth 20000 in
theorem w_314 : (.methodLink "HullyardSurveys" 68 ⟨"HullyardSurveys$Row", "size", "()I"⟩ : Cond) ∈ GW := gw2 36 rfl rfl
set_option maxRecDepth 20000 in
theorem w_315 : (.instanceMethod ⟨"HullyardSurveys$Row", "size", "()I"⟩ : Cond) ∈ GW := gw2 37 rfl rfl
set_option maxRecDepth 20000 in
theorem w_316 : (.selects "HullyardSurveys$Row" ⟨"HullyardSurveys$Row", "size", "()I"⟩ ⟨"HullyardSurveys$Row", "size", "()I"⟩ : Cond) ∈ GW := gw2 38 rfl rfl
set_option maxRecDepth 20000 in
theorem w_317 : (.code ⟨"HullyardSurveys$Row", "size", "()I"⟩ prog_6_method_2_code 1 (some .int) : Cond) ∈ GW := gw2 39 rfl rfl
set_option maxRecDepth 20000 in
theorem w_318 : (.classLink "HullyardSurveys" 72 "java/lang/IllegalStateException" : Cond) ∈ GW := gw2 40 rfl rfl
set_option maxRecDepth 20000 in
theorem w_334 : (.methodLink "HullyardSurveys" 79 ⟨"HullyardSurveys$Row", "append", "(III)V"⟩ : Cond) ∈ GW := gw2 56 rfl rfl
set_option maxRecDepth 20000 in
theorem w_335 : (.instanceMethod ⟨"HullyardSurveys$Row", "append", "(III)V"⟩ : Cond) ∈ GW := gw2 57 rfl rfl
set_option maxRecDepth 20000 in
theorem w_336 : (.selects "HullyardSurveys$Row" ⟨"HullyardSurveys$Row", "append", "(III)V"⟩ ⟨"HullyardSurveys$Row", "append", "(III)V"⟩ : Cond) ∈ GW := gw2 58 rfl rfl
set_option maxRecDepth 20000 in
theorem w_337 : (.code ⟨"HullyardSurveys$Row", "append", "(III)V"⟩ prog_6_method_12_code 4 none : Cond) ∈ GW := gw2 59 rfl rfl
set_option maxRecDepth 20000 in
theorem w_338 : (.methodLink "HullyardSurveys$Row" 36 ⟨"HullyardSurveys$Row", "put", "(IIII)V"⟩ : Cond) ∈ GW := gw2 60 rfl rfl
set_option maxRecDepth 20000 in
theorem w_340 : (.instanceMethod ⟨"HullyardSurveys$Row", "put", "(IIII)V"⟩ : Cond) ∈ GW := gw2 62 rfl rfl
set_option maxRecDepth 20000 in
theorem w_341 : (.code ⟨"HullyardSurveys$Row", "put", "(IIII)V"⟩ prog_6_method_17_code 5 none : Cond) ∈ GW := gw2 63 rfl rfl
set_option maxRecDepth 20000 in
theorem w_342 : (.methodLink "HullyardSurveysLaw" 263 ⟨"HullyardSurveysLaw", "areHulls", "()Z"⟩ : Cond) ∈ GW := gw2 64 rfl rfl
set_option maxRecDepth 20000 in
theorem w_344 : (.instanceMethod ⟨"HullyardSurveysLaw", "areHulls", "()Z"⟩ : Cond) ∈ GW := gw2 66 rfl rfl
set_option maxRecDepth 20000 in
theorem w_345 : (.code ⟨"HullyardSurveysLaw", "areHulls", "()Z"⟩ method_12_code 8 (some .boolean) : Cond) ∈ GW := gw2 67 rfl rfl
set_option maxRecDepth 20000 in
theorem w_346 : (.methodLink "HullyardSurveysLaw" 116 ⟨"HullyardSurveys", "hull", "(I)I"⟩ : Cond) ∈ GW := gw2 68 rfl rfl
set_option maxRecDepth 20000 in
theorem w_347 : (.instanceMethod ⟨"HullyardSurveys", "hull", "(I)I"⟩ : Cond) ∈ GW := gw2 69 rfl rfl
set_option maxRecDepth 20000 in
theorem w_348 : (.selects "HullyardSurveys" ⟨"HullyardSurveys", "hull", "(I)I"⟩ ⟨"HullyardSurveys", "hull", "(I)I"⟩ : Cond) ∈ GW := gw2 70 rfl rfl
set_option maxRecDepth 20000 in
theorem w_349 : (.code ⟨"HullyardSurveys", "hull", "(I)I"⟩ prog_1_method_9_code 2 (some .int) : Cond) ∈ GW := gw2 71 rfl rfl
set_option maxRecDepth 20000 in
theorem w_350 : (.methodLink "HullyardSurveys" 125 ⟨"HullyardSurveys", "requireFilled", "(I)V"⟩ : Cond) ∈ GW := gw2 72 rfl rfl
set_option maxRecDepth 20000 in
theorem w_352 : (.instanceMethod ⟨"HullyardSurveys", "requireFilled", "(I)V"⟩ : Cond) ∈ GW := gw2 74 rfl rfl
set_option maxRecDepth 20000 in
theorem w_353 : (.code ⟨"HullyardSurveys", "requireFilled", "(I)V"⟩ prog_1_method_55_code 2 none : Cond) ∈ GW := gw2 75 rfl rfl
set_option maxRecDepth 20000 in
theorem w_354 : (.methodLink "HullyardSurveys" 93 ⟨"HullyardSurveys$Yard", "heapSize", "(I)I"⟩ : Cond) ∈ GW := gw2 76 rfl rfl
set_option maxRecDepth 20000 in
theorem w_355 : (.instanceMethod ⟨"HullyardSurveys$Yard", "heapSize", "(I)I"⟩ : Cond) ∈ GW := gw2 77 rfl rfl
set_option maxRecDepth 20000 in
theorem w_356 : (.selects "HullyardSurveys$Yard" ⟨"HullyardSurveys$Yard", "heapSize", "(I)I"⟩ ⟨"HullyardSurveys$Yard", "heapSize", "(I)I"⟩ : Cond) ∈ GW := gw2 78 rfl rfl
set_option maxRecDepth 20000 in
theorem w_357 : (.code ⟨"HullyardSurveys$Yard", "heapSize", "(I)I"⟩ prog_8_method_4_code 4 (some .int) : Cond) ∈ GW := gw2 79 rfl rfl
set_option maxRecDepth 20000 in
theorem w_358 : (.methodLink "HullyardSurveys$Yard" 30 ⟨"HullyardSurveys$Row", "size", "()I"⟩ : Cond) ∈ GW := gw2 80 rfl rfl
set_option maxRecDepth 20000 in
theorem w_359 : (.methodLink "HullyardSurveys$Yard" 34 ⟨"HullyardSurveys$Row", "markAt", "(I)I"⟩ : Cond) ∈ GW := gw2 81 rfl rfl
set_option maxRecDepth 20000 in
theorem w_360 : (.instanceMethod ⟨"HullyardSurveys$Row", "markAt", "(I)I"⟩ : Cond) ∈ GW := gw2 82 rfl rfl
set_option maxRecDepth 20000 in
theorem w_361 : (.selects "HullyardSurveys$Row" ⟨"HullyardSurveys$Row", "markAt", "(I)I"⟩ ⟨"HullyardSurveys$Row", "markAt", "(I)I"⟩ : Cond) ∈ GW := gw2 83 rfl rfl
set_option maxRecDepth 20000 in
theorem w_362 : (.code ⟨"HullyardSurveys$Row", "markAt", "(I)I"⟩ prog_6_method_5_code 2 (some .int) : Cond) ∈ GW := gw2 84 rfl rfl
set_option maxRecDepth 20000 in
theorem w_363 : (.classLink "HullyardSurveys" 163 "java/util/NoSuchElementException" : Cond) ∈ GW := gw2 85 rfl rfl
set_option maxRecDepth 20000 in
theorem w_379 : (.methodLink "HullyardSurveys" 107 ⟨"HullyardSurveys", "orderHeap", "(I)V"⟩ : Cond) ∈ GW := gw2 101 rfl rfl
set_option maxRecDepth 20000 in
theorem w_381 : (.instanceMethod ⟨"HullyardSurveys", "orderHeap", "(I)V"⟩ : Cond) ∈ GW := gw2 103 rfl rfl
set_option maxRecDepth 20000 in
theorem w_382 : (.code ⟨"HullyardSurveys", "orderHeap", "(I)V"⟩ prog_1_method_60_code 2 none : Cond) ∈ GW := gw2 104 rfl rfl
set_option maxRecDepth 20000 in
theorem w_383 : (.methodLink "HullyardSurveys" 168 ⟨"HullyardSurveys$Row", "reset", "()V"⟩ : Cond) ∈ GW := gw2 105 rfl rfl
set_option maxRecDepth 20000 in
theorem w_384 : (.instanceMethod ⟨"HullyardSurveys$Row", "reset", "()V"⟩ : Cond) ∈ GW := gw2 106 rfl rfl
set_option maxRecDepth 20000 in
theorem w_385 : (.selects "HullyardSurveys$Row" ⟨"HullyardSurveys$Row", "reset", "()V"⟩ ⟨"HullyardSurveys$Row", "reset", "()V"⟩ : Cond) ∈ GW := gw2 107 rfl rfl
set_option maxRecDepth 20000 in
theorem w_386 : (.code ⟨"HullyardSurveys$Row", "reset", "()V"⟩ prog_6_method_10_code 1 none : Cond) ∈ GW := gw2 108 rfl rfl
set_option maxRecDepth 20000 in
theorem w_387 : (.methodLink "HullyardSurveys" 137 ⟨"HullyardSurveys$Yard", "putInOrder", "(ILHullyardSurveys$Row;)V"⟩ : Cond) ∈ GW := gw2 109 rfl rfl
set_option maxRecDepth 20000 in
theorem w_388 : (.instanceMethod ⟨"HullyardSurveys$Yard", "putInOrder", "(ILHullyardSurveys$Row;)V"⟩ : Cond) ∈ GW := gw2 110 rfl rfl
set_option maxRecDepth 20000 in
theorem w_389 : (.selects "HullyardSurveys$Yard" ⟨"HullyardSurveys$Yard", "putInOrder", "(ILHullyardSurveys$Row;)V"⟩ ⟨"HullyardSurveys$Yard", "putInOrder", "(ILHullyardSurveys$Row;)V"⟩ : Cond) ∈ GW := gw2 111 rfl rfl
set_option maxRecDepth 20000 in
theorem w_390 : (.code ⟨"HullyardSurveys$Yard", "putInOrder", "(ILHullyardSurveys$Row;)V"⟩ prog_8_method_5_code 4 none : Cond) ∈ GW := gw2 112 rfl rfl
set_option maxRecDepth 20000 in
theorem w_391 : (.methodLink "HullyardSurveys$Yard" 38 ⟨"HullyardSurveys$Row", "xAt", "(I)I"⟩ : Cond) ∈ GW := gw2 113 rfl rfl
set_option maxRecDepth 20000 in
theorem w_392 : (.instanceMethod ⟨"HullyardSurveys$Row", "xAt", "(I)I"⟩ : Cond) ∈ GW := gw2 114 rfl rfl
set_option maxRecDepth 20000 in
theorem w_393 : (.selects "HullyardSurveys$Row" ⟨"HullyardSurveys$Row", "xAt", "(I)I"⟩ ⟨"HullyardSurveys$Row", "xAt", "(I)I"⟩ : Cond) ∈ GW := gw2 115 rfl rfl
set_option maxRecDepth 20000 in
theorem w_394 : (.code ⟨"HullyardSurveys$Row", "xAt", "(I)I"⟩ prog_6_method_3_code 2 (some .int) : Cond) ∈ GW := gw2 116 rfl rfl
set_option maxRecDepth 20000 in
theorem w_395 : (.methodLink "HullyardSurveys$Yard" 41 ⟨"HullyardSurveys$Row", "yAt", "(I)I"⟩ : Cond) ∈ GW := gw2 117 rfl rfl
set_option maxRecDepth 20000 in
theorem w_396 : (.instanceMethod ⟨"HullyardSurveys$Row", "yAt", "(I)I"⟩ : Cond) ∈ GW := gw2 118 rfl rfl
set_option maxRecDepth 20000 in
theorem w_397 : (.selects "HullyardSurveys$Row" ⟨"HullyardSurveys$Row", "yAt", "(I)I"⟩ ⟨"HullyardSurveys$Row", "yAt", "(I)I"⟩ : Cond) ∈ GW := gw2 119 rfl rfl
set_option maxRecDepth 20000 in
theorem w_398 : (.code ⟨"HullyardSurveys$Row", "yAt", "(I)I"⟩ prog_6_method_4_code 2 (some .int) : Cond) ∈ GW := gw2 120 rfl rfl
set_option maxRecDepth 20000 in
theorem w_399 : (.methodLink "HullyardSurveys$Yard" 44 ⟨"HullyardSurveys$Row", "insertInOrder", "(III)V"⟩ : Cond) ∈ GW := gw2 121 rfl rfl
set_option maxRecDepth 20000 in
theorem w_400 : (.instanceMethod ⟨"HullyardSurveys$Row", "insertInOrder", "(III)V"⟩ : Cond) ∈ GW := gw2 122 rfl rfl
set_option maxRecDepth 20000 in
theorem w_401 : (.selects "HullyardSurveys$Row" ⟨"HullyardSurveys$Row", "insertInOrder", "(III)V"⟩ ⟨"HullyardSurveys$Row", "insertInOrder", "(III)V"⟩ : Cond) ∈ GW := gw2 123 rfl rfl
set_option maxRecDepth 20000 in
theorem w_402 : (.code ⟨"HullyardSurveys$Row", "insertInOrder", "(III)V"⟩ prog_6_method_13_code 5 none : Cond) ∈ GW := gw2 124 rfl rfl
set_option maxRecDepth 20000 in
theorem w_403 : (.methodLink "HullyardSurveys$Row" 40 ⟨"HullyardSurveys$Row", "isBehind", "(III)Z"⟩ : Cond) ∈ GW := gw2 125 rfl rfl
set_option maxRecDepth 20000 in
theorem w_405 : (.instanceMethod ⟨"HullyardSurveys$Row", "isBehind", "(III)Z"⟩ : Cond) ∈ GW := gw2 127 rfl rfl
set_option maxRecDepth 20000 in
theorem w_406 : (.code ⟨"HullyardSurveys$Row", "isBehind", "(III)Z"⟩ prog_6_method_16_code 4 (some .boolean) : Cond) ∈ GW := gw2 128 rfl rfl
set_option maxRecDepth 20000 in
theorem w_407 : (.methodLink "HullyardSurveys$Row" 29 ⟨"HullyardSurveys$Row", "xAt", "(I)I"⟩ : Cond) ∈ GW := gw2 129 rfl rfl
set_option maxRecDepth 20000 in
theorem w_408 : (.methodLink "HullyardSurveys$Row" 33 ⟨"HullyardSurveys$Row", "yAt", "(I)I"⟩ : Cond) ∈ GW := gw2 130 rfl rfl
set_option maxRecDepth 20000 in
theorem w_409 : (.methodLink "HullyardSurveys$Row" 44 ⟨"HullyardSurveys$Row", "markAt", "(I)I"⟩ : Cond) ∈ GW := gw2 131 rfl rfl
set_option maxRecDepth 20000 in
theorem w_410 : (.methodLink "HullyardSurveys" 128 ⟨"HullyardSurveys$Hulls", "wrap", "(LHullyardSurveys$Row;LHullyardSurveys$Row;)V"⟩ : Cond) ∈ GW := gw2 132 rfl rfl
set_option maxRecDepth 20000 in
theorem w_411 : (.static ⟨"HullyardSurveys$Hulls", "wrap", "(LHullyardSurveys$Row;LHullyardSurveys$Row;)V"⟩ : Cond) ∈ GW := gw2 133 rfl rfl
set_option maxRecDepth 20000 in
theorem w_412 : (.code ⟨"HullyardSurveys$Hulls", "wrap", "(LHullyardSurveys$Row;LHullyardSurveys$Row;)V"⟩ prog_3_method_2_code 4 none : Cond) ∈ GW := gw2 134 rfl rfl
set_option maxRecDepth 20000 in
theorem w_413 : (.methodLink "HullyardSurveys$Hulls" 7 ⟨"HullyardSurveys$Row", "reset", "()V"⟩ : Cond) ∈ GW := gw2 135 rfl rfl
set_option maxRecDepth 20000 in
theorem w_414 : (.methodLink "HullyardSurveys$Hulls" 12 ⟨"HullyardSurveys$Row", "size", "()I"⟩ : Cond) ∈ GW := gw2 136 rfl rfl
set_option maxRecDepth 20000 in
theorem w_415 : (.methodLink "HullyardSurveys$Hulls" 16 ⟨"HullyardSurveys$Row", "xAt", "(I)I"⟩ : Cond) ∈ GW := gw2 137 rfl rfl
set_option maxRecDepth 20000 in
theorem w_416 : (.methodLink "HullyardSurveys$Hulls" 20 ⟨"HullyardSurveys$Row", "yAt", "(I)I"⟩ : Cond) ∈ GW := gw2 138 rfl rfl
set_option maxRecDepth 20000 in
theorem w_417 : (.methodLink "HullyardSurveys$Hulls" 23 ⟨"HullyardSurveys$Hulls", "bendTo", "(LHullyardSurveys$Row;III)V"⟩ : Cond) ∈ GW := gw2 139 rfl rfl
set_option maxRecDepth 20000 in
theorem w_418 : (.static ⟨"HullyardSurveys$Hulls", "bendTo", "(LHullyardSurveys$Row;III)V"⟩ : Cond) ∈ GW := gw2 140 rfl rfl
set_option maxRecDepth 20000 in
theorem w_419 : (.code ⟨"HullyardSurveys$Hulls", "bendTo", "(LHullyardSurveys$Row;III)V"⟩ prog_3_method_3_code 5 none : Cond) ∈ GW := gw2 141 rfl rfl
set_option maxRecDepth 20000 in
theorem w_420 : (.methodLink "HullyardSurveys$Hulls" 32 ⟨"HullyardSurveys$Row", "isAt", "(III)Z"⟩ : Cond) ∈ GW := gw2 142 rfl rfl
set_option maxRecDepth 20000 in
theorem w_421 : (.instanceMethod ⟨"HullyardSurveys$Row", "isAt", "(III)Z"⟩ : Cond) ∈ GW := gw2 143 rfl rfl
set_option maxRecDepth 20000 in
theorem w_422 : (.selects "HullyardSurveys$Row" ⟨"HullyardSurveys$Row", "isAt", "(III)Z"⟩ ⟨"HullyardSurveys$Row", "isAt", "(III)Z"⟩ : Cond) ∈ GW := gw2 144 rfl rfl
set_option maxRecDepth 20000 in
theorem w_423 : (.code ⟨"HullyardSurveys$Row", "isAt", "(III)Z"⟩ prog_6_method_6_code 4 (some .boolean) : Cond) ∈ GW := gw2 145 rfl rfl
set_option maxRecDepth 20000 in
theorem w_424 : (.methodLink "HullyardSurveys$Hulls" 36 ⟨"HullyardSurveys$Hulls", "turnsLeft", "(LHullyardSurveys$Row;III)Z"⟩ : Cond) ∈ GW := gw2 146 rfl rfl
set_option maxRecDepth 20000 in
theorem w_425 : (.static ⟨"HullyardSurveys$Hulls", "turnsLeft", "(LHullyardSurveys$Row;III)Z"⟩ : Cond) ∈ GW := gw2 147 rfl rfl
set_option maxRecDepth 20000 in
theorem w_426 : (.code ⟨"HullyardSurveys$Hulls", "turnsLeft", "(LHullyardSurveys$Row;III)Z"⟩ prog_3_method_4_code 4 (some .boolean) : Cond) ∈ GW := gw2 148 rfl rfl
set_option maxRecDepth 20000 in
theorem w_427 : (.methodLink "HullyardSurveys$Hulls" 44 ⟨"HullyardSurveys$Plane", "twist", "(JJJJJJ)J"⟩ : Cond) ∈ GW := gw2 149 rfl rfl
set_option maxRecDepth 20000 in
theorem w_428 : (.static ⟨"HullyardSurveys$Plane", "twist", "(JJJJJJ)J"⟩ : Cond) ∈ GW := gw2 150 rfl rfl
set_option maxRecDepth 20000 in
theorem w_429 : (.code ⟨"HullyardSurveys$Plane", "twist", "(JJJJJJ)J"⟩ prog_5_method_2_code 12 (some .long) : Cond) ∈ GW := gw2 151 rfl rfl
set_option maxRecDepth 20000 in
theorem w_430 : (.methodLink "HullyardSurveys$Hulls" 29 ⟨"HullyardSurveys$Row", "shorten", "()V"⟩ : Cond) ∈ GW := gw2 152 rfl rfl
set_option maxRecDepth 20000 in
theorem w_431 : (.instanceMethod ⟨"HullyardSurveys$Row", "shorten", "()V"⟩ : Cond) ∈ GW := gw2 153 rfl rfl
set_option maxRecDepth 20000 in
theorem w_432 : (.selects "HullyardSurveys$Row" ⟨"HullyardSurveys$Row", "shorten", "()V"⟩ ⟨"HullyardSurveys$Row", "shorten", "()V"⟩ : Cond) ∈ GW := gw2 154 rfl rfl
set_option maxRecDepth 20000 in
theorem w_433 : (.code ⟨"HullyardSurveys$Row", "shorten", "()V"⟩ prog_6_method_11_code 1 none : Cond) ∈ GW := gw2 155 rfl rfl
set_option maxRecDepth 20000 in
theorem w_434 : (.methodLink "HullyardSurveys$Hulls" 40 ⟨"HullyardSurveys$Row", "append", "(III)V"⟩ : Cond) ∈ GW := gw2 156 rfl rfl
set_option maxRecDepth 20000 in
theorem w_435 : (.methodLink "HullyardSurveysLaw" 68 ⟨"HullyardSurveys", "corners", "()I"⟩ : Cond) ∈ GW := gw2 157 rfl rfl
set_option maxRecDepth 20000 in
theorem w_436 : (.instanceMethod ⟨"HullyardSurveys", "corners", "()I"⟩ : Cond) ∈ GW := gw2 158 rfl rfl
set_option maxRecDepth 20000 in
theorem w_437 : (.selects "HullyardSurveys" ⟨"HullyardSurveys", "corners", "()I"⟩ ⟨"HullyardSurveys", "corners", "()I"⟩ : Cond) ∈ GW := gw2 159 rfl rfl
set_option maxRecDepth 20000 in
theorem w_438 : (.code ⟨"HullyardSurveys", "corners", "()I"⟩ prog_1_method_15_code 1 (some .int) : Cond) ∈ GW := gw2 160 rfl rfl
set_option maxRecDepth 20000 in
theorem w_439 : (.methodLink "HullyardSurveysLaw" 119 ⟨"HullyardSurveysLaw", "isFigure", "()Z"⟩ : Cond) ∈ GW := gw2 161 rfl rfl
set_option maxRecDepth 20000 in
theorem w_441 : (.instanceMethod ⟨"HullyardSurveysLaw", "isFigure", "()Z"⟩ : Cond) ∈ GW := gw2 163 rfl rfl
set_option maxRecDepth 20000 in
theorem w_442 : (.code ⟨"HullyardSurveysLaw", "isFigure", "()Z"⟩ method_8_code 7 (some .boolean) : Cond) ∈ GW := gw2 164 rfl rfl
set_option maxRecDepth 20000 in
theorem w_443 : (.methodLink "HullyardSurveysLaw" 73 ⟨"HullyardSurveys", "corner", "(IZ)I"⟩ : Cond) ∈ GW := gw2 165 rfl rfl
set_option maxRecDepth 20000 in
theorem w_444 : (.instanceMethod ⟨"HullyardSurveys", "corner", "(IZ)I"⟩ : Cond) ∈ GW := gw2 166 rfl rfl
set_option maxRecDepth 20000 in
theorem w_445 : (.selects "HullyardSurveys" ⟨"HullyardSurveys", "corner", "(IZ)I"⟩ ⟨"HullyardSurveys", "corner", "(IZ)I"⟩ : Cond) ∈ GW := gw2 167 rfl rfl
set_option maxRecDepth 20000 in
theorem w_446 : (.code ⟨"HullyardSurveys", "corner", "(IZ)I"⟩ prog_1_method_16_code 3 (some .int) : Cond) ∈ GW := gw2 168 rfl rfl
set_option maxRecDepth 20000 in
theorem w_447 : (.methodLink "HullyardSurveys" 174 ⟨"HullyardSurveys", "requireCorner", "(LHullyardSurveys$Row;I)V"⟩ : Cond) ∈ GW := gw2 169 rfl rfl
set_option maxRecDepth 20000 in
theorem w_448 : (.static ⟨"HullyardSurveys", "requireCorner", "(LHullyardSurveys$Row;I)V"⟩ : Cond) ∈ GW := gw2 170 rfl rfl
set_option maxRecDepth 20000 in
theorem w_449 : (.code ⟨"HullyardSurveys", "requireCorner", "(LHullyardSurveys$Row;I)V"⟩ prog_1_method_54_code 2 none : Cond) ∈ GW := gw2 171 rfl rfl
set_option maxRecDepth 20000 in
theorem w_450 : (.classLink "HullyardSurveys" 110 "java/lang/IndexOutOfBoundsException" : Cond) ∈ GW := gw2 172 rfl rfl
set_option maxRecDepth 20000 in
theorem w_466 : (.methodLink "HullyardSurveys" 99 ⟨"HullyardSurveys$Row", "yAt", "(I)I"⟩ : Cond) ∈ GW := gw2 188 rfl rfl
set_option maxRecDepth 20000 in
theorem w_467 : (.methodLink "HullyardSurveys" 96 ⟨"HullyardSurveys$Row", "xAt", "(I)I"⟩ : Cond) ∈ GW := gw2 189 rfl rfl
set_option maxRecDepth 20000 in
theorem w_468 : (.methodLink "HullyardSurveysLaw" 77 ⟨"HullyardSurveysLaw", "turn", "(IIIIII)I"⟩ : Cond) ∈ GW := gw2 190 rfl rfl
set_option maxRecDepth 20000 in
theorem w_469 : (.static ⟨"HullyardSurveysLaw", "turn", "(IIIIII)I"⟩ : Cond) ∈ GW := gw2 191 rfl rfl
set_option maxRecDepth 20000 in
theorem w_470 : (.code ⟨"HullyardSurveysLaw", "turn", "(IIIIII)I"⟩ method_4_code 6 (some .int) : Cond) ∈ GW := gw2 192 rfl rfl
set_option maxRecDepth 20000 in
theorem w_471 : (.methodLink "HullyardSurveysLaw" 49 ⟨"java/lang/Integer", "signum", "(I)I"⟩ : Cond) ∈ GW := gw2 193 rfl rfl
set_option maxRecDepth 20000 in
theorem w_472 : (.static ⟨"java/lang/Integer", "signum", "(I)I"⟩ : Cond) ∈ GW := gw2 194 rfl rfl
set_option maxRecDepth 20000 in
theorem w_473 : (.code ⟨"java/lang/Integer", "signum", "(I)I"⟩ prog_16_method_56_code 1 (some .int) : Cond) ∈ GW := gw2 195 rfl rfl
set_option maxRecDepth 20000 in
theorem w_474 : (.methodLink "HullyardSurveysLaw" 81 ⟨"HullyardSurveysLaw", "common", "(II)I"⟩ : Cond) ∈ GW := gw2 196 rfl rfl
set_option maxRecDepth 20000 in
theorem w_475 : (.static ⟨"HullyardSurveysLaw", "common", "(II)I"⟩ : Cond) ∈ GW := gw2 197 rfl rfl
set_option maxRecDepth 20000 in
theorem w_476 : (.code ⟨"HullyardSurveysLaw", "common", "(II)I"⟩ method_3_code 5 (some .int) : Cond) ∈ GW := gw2 198 rfl rfl
set_option maxRecDepth 20000 in
theorem w_477 : (.methodLink "HullyardSurveysLaw" 43 ⟨"java/lang/Math", "abs", "(I)I"⟩ : Cond) ∈ GW := gw2 199 rfl rfl
set_option maxRecDepth 20000 in
theorem w_478 : (.static ⟨"java/lang/Math", "abs", "(I)I"⟩ : Cond) ∈ GW := gw2 200 rfl rfl
set_option maxRecDepth 20000 in
theorem w_479 : (.code ⟨"java/lang/Math", "abs", "(I)I"⟩ Lib.Math.abs.code 1 (some .int) : Cond) ∈ GW := gw2 201 rfl rfl
set_option maxRecDepth 20000 in
theorem w_480 : (.methodLink "HullyardSurveysLaw" 85 ⟨"HullyardSurveys", "lies", "(II)I"⟩ : Cond) ∈ GW := gw2 202 rfl rfl
set_option maxRecDepth 20000 in
theorem w_481 : (.instanceMethod ⟨"HullyardSurveys", "lies", "(II)I"⟩ : Cond) ∈ GW := gw2 203 rfl rfl
set_option maxRecDepth 20000 in
theorem w_482 : (.selects "HullyardSurveys" ⟨"HullyardSurveys", "lies", "(II)I"⟩ ⟨"HullyardSurveys", "lies", "(II)I"⟩ : Cond) ∈ GW := gw2 204 rfl rfl
set_option maxRecDepth 20000 in
theorem w_483 : (.code ⟨"HullyardSurveys", "lies", "(II)I"⟩ prog_1_method_20_code 3 (some .int) : Cond) ∈ GW := gw2 205 rfl rfl
set_option maxRecDepth 20000 in
theorem w_484 : (.methodLink "HullyardSurveys" 194 ⟨"HullyardSurveys$Shapes", "whereIs", "(LHullyardSurveys$Row;IJJ)I"⟩ : Cond) ∈ GW := gw2 206 rfl rfl
set_option maxRecDepth 20000 in
theorem w_485 : (.static ⟨"HullyardSurveys$Shapes", "whereIs", "(LHullyardSurveys$Row;IJJ)I"⟩ : Cond) ∈ GW := gw2 207 rfl rfl
set_option maxRecDepth 20000 in
theorem w_486 : (.code ⟨"HullyardSurveys$Shapes", "whereIs", "(LHullyardSurveys$Row;IJJ)I"⟩ prog_7_method_9_code 18 (some .int) : Cond) ∈ GW := gw2 208 rfl rfl
set_option maxRecDepth 20000 in
theorem w_487 : (.methodLink "HullyardSurveys$Shapes" 25 ⟨"HullyardSurveys$Row", "size", "()I"⟩ : Cond) ∈ GW := gw2 209 rfl rfl
set_option maxRecDepth 20000 in
theorem w_488 : (.methodLink "HullyardSurveys$Shapes" 7 ⟨"HullyardSurveys$Row", "next", "(I)I"⟩ : Cond) ∈ GW := gw2 210 rfl rfl
set_option maxRecDepth 20000 in
theorem w_489 : (.instanceMethod ⟨"HullyardSurveys$Row", "next", "(I)I"⟩ : Cond) ∈ GW := gw2 211 rfl rfl
set_option maxRecDepth 20000 in
theorem w_490 : (.selects "HullyardSurveys$Row" ⟨"HullyardSurveys$Row", "next", "(I)I"⟩ ⟨"HullyardSurveys$Row", "next", "(I)I"⟩ : Cond) ∈ GW := gw2 212 rfl rfl
set_option maxRecDepth 20000 in
theorem w_491 : (.code ⟨"HullyardSurveys$Row", "next", "(I)I"⟩ prog_6_method_7_code 2 (some .int) : Cond) ∈ GW := gw2 213 rfl rfl
set_option maxRecDepth 20000 in
theorem w_492 : (.methodLink "HullyardSurveys$Shapes" 13 ⟨"HullyardSurveys$Row", "xAt", "(I)I"⟩ : Cond) ∈ GW := gw2 214 rfl rfl
set_option maxRecDepth 20000 in
theorem w_493 : (.methodLink "HullyardSurveys$Shapes" 16 ⟨"HullyardSurveys$Row", "yAt", "(I)I"⟩ : Cond) ∈ GW := gw2 215 rfl rfl
set_option maxRecDepth 20000 in
theorem w_494 : (.methodLink "HullyardSurveys$Shapes" 57 ⟨"HullyardSurveys$Plane", "isOn", "(JJJJJJ)Z"⟩ : Cond) ∈ GW := gw2 216 rfl rfl
set_option maxRecDepth 20000 in
theorem w_495 : (.static ⟨"HullyardSurveys$Plane", "isOn", "(JJJJJJ)Z"⟩ : Cond) ∈ GW := gw2 217 rfl rfl
set_option maxRecDepth 20000 in
theorem w_496 : (.code ⟨"HullyardSurveys$Plane", "isOn", "(JJJJJJ)Z"⟩ prog_5_method_4_code 12 (some .boolean) : Cond) ∈ GW := gw2 218 rfl rfl
set_option maxRecDepth 20000 in
theorem w_497 : (.methodLink "HullyardSurveys$Plane" 7 ⟨"java/lang/Math", "min", "(JJ)J"⟩ : Cond) ∈ GW := gw2 219 rfl rfl
set_option maxRecDepth 20000 in
theorem w_498 : (.static ⟨"java/lang/Math", "min", "(JJ)J"⟩ : Cond) ∈ GW := gw2 220 rfl rfl
set_option maxRecDepth 20000 in
theorem w_499 : (.code ⟨"java/lang/Math", "min", "(JJ)J"⟩ Lib.MathLoose.min_long.code 4 (some .long) : Cond) ∈ GW := gw2 221 rfl rfl
set_option maxRecDepth 20000 in
theorem w_500 : (.methodLink "HullyardSurveys$Plane" 13 ⟨"java/lang/Math", "max", "(JJ)J"⟩ : Cond) ∈ GW := gw2 222 rfl rfl
set_option maxRecDepth 20000 in
theorem w_501 : (.static ⟨"java/lang/Math", "max", "(JJ)J"⟩ : Cond) ∈ GW := gw2 223 rfl rfl
set_option maxRecDepth 20000 in
theorem w_502 : (.code ⟨"java/lang/Math", "max", "(JJ)J"⟩ Lib.MathLoose.max_long.code 4 (some .long) : Cond) ∈ GW := gw2 224 rfl rfl
set_option maxRecDepth 20000 in
theorem w_503 : (.methodLink "HullyardSurveys$Plane" 16 ⟨"HullyardSurveys$Plane", "twist", "(JJJJJJ)J"⟩ : Cond) ∈ GW := gw2 225 rfl rfl
set_option maxRecDepth 20000 in
theorem w_504 : (.methodLink "HullyardSurveys$Shapes" 19 ⟨"HullyardSurveys$Plane", "twist", "(JJJJJJ)J"⟩ : Cond) ∈ GW := gw2 226 rfl rfl
set_option maxRecDepth 20000 in
theorem w_505 : (.methodLink "HullyardSurveysLaw" 88 ⟨"HullyardSurveys", "area", "()I"⟩ : Cond) ∈ GW := gw2 227 rfl rfl
set_option maxRecDepth 20000 in
theorem w_506 : (.instanceMethod ⟨"HullyardSurveys", "area", "()I"⟩ : Cond) ∈ GW := gw2 228 rfl rfl
set_option maxRecDepth 20000 in
theorem w_507 : (.selects "HullyardSurveys" ⟨"HullyardSurveys", "area", "()I"⟩ ⟨"HullyardSurveys", "area", "()I"⟩ : Cond) ∈ GW := gw2 229 rfl rfl
set_option maxRecDepth 20000 in
theorem w_508 : (.code ⟨"HullyardSurveys", "area", "()I"⟩ prog_1_method_17_code 1 (some .int) : Cond) ∈ GW := gw2 230 rfl rfl
set_option maxRecDepth 20000 in
theorem w_509 : (.methodLink "HullyardSurveys" 178 ⟨"HullyardSurveys$Shapes", "doubledArea", "(LHullyardSurveys$Row;)I"⟩ : Cond) ∈ GW := gw2 231 rfl rfl
set_option maxRecDepth 20000 in
theorem w_510 : (.static ⟨"HullyardSurveys$Shapes", "doubledArea", "(LHullyardSurveys$Row;)I"⟩ : Cond) ∈ GW := gw2 232 rfl rfl
set_option maxRecDepth 20000 in
theorem w_511 : (.code ⟨"HullyardSurveys$Shapes", "doubledArea", "(LHullyardSurveys$Row;)I"⟩ prog_7_method_5_code 4 (some .int) : Cond) ∈ GW := gw2 233 rfl rfl
set_option maxRecDepth 20000 in
theorem w_512 : (.methodLink "HullyardSurveysLaw" 91 ⟨"HullyardSurveys", "edge", "()I"⟩ : Cond) ∈ GW := gw2 234 rfl rfl
set_option maxRecDepth 20000 in
theorem w_513 : (.instanceMethod ⟨"HullyardSurveys", "edge", "()I"⟩ : Cond) ∈ GW := gw2 235 rfl rfl
set_option maxRecDepth 20000 in
theorem w_514 : (.selects "HullyardSurveys" ⟨"HullyardSurveys", "edge", "()I"⟩ ⟨"HullyardSurveys", "edge", "()I"⟩ : Cond) ∈ GW := gw2 236 rfl rfl
set_option maxRecDepth 20000 in
theorem w_515 : (.code ⟨"HullyardSurveys", "edge", "()I"⟩ prog_1_method_18_code 1 (some .int) : Cond) ∈ GW := gw2 237 rfl rfl
set_option maxRecDepth 20000 in
theorem w_516 : (.methodLink "HullyardSurveys" 184 ⟨"HullyardSurveys$Shapes", "stepsAlong", "(LHullyardSurveys$Row;I)I"⟩ : Cond) ∈ GW := gw2 238 rfl rfl
set_option maxRecDepth 20000 in
theorem w_517 : (.static ⟨"HullyardSurveys$Shapes", "stepsAlong", "(LHullyardSurveys$Row;I)I"⟩ : Cond) ∈ GW := gw2 239 rfl rfl
set_option maxRecDepth 20000 in
theorem w_518 : (.code ⟨"HullyardSurveys$Shapes", "stepsAlong", "(LHullyardSurveys$Row;I)I"⟩ prog_7_method_6_code 2 (some .int) : Cond) ∈ GW := gw3 0 rfl rfl
set_option maxRecDepth 20000 in
theorem w_519 : (.methodLink "HullyardSurveys$Shapes" 29 ⟨"HullyardSurveys$Shapes", "runOf", "(LHullyardSurveys$Row;I)I"⟩ : Cond) ∈ GW := gw3 1 rfl rfl
set_option maxRecDepth 20000 in
theorem w_520 : (.static ⟨"HullyardSurveys$Shapes", "runOf", "(LHullyardSurveys$Row;I)I"⟩ : Cond) ∈ GW := gw3 2 rfl rfl
set_option maxRecDepth 20000 in
theorem w_521 : (.code ⟨"HullyardSurveys$Shapes", "runOf", "(LHullyardSurveys$Row;I)I"⟩ prog_7_method_2_code 2 (some .int) : Cond) ∈ GW := gw3 3 rfl rfl
set_option maxRecDepth 20000 in
theorem w_522 : (.methodLink "HullyardSurveys$Shapes" 35 ⟨"HullyardSurveys$Shapes", "riseOf", "(LHullyardSurveys$Row;I)I"⟩ : Cond) ∈ GW := gw3 4 rfl rfl
set_option maxRecDepth 20000 in
theorem w_523 : (.static ⟨"HullyardSurveys$Shapes", "riseOf", "(LHullyardSurveys$Row;I)I"⟩ : Cond) ∈ GW := gw3 5 rfl rfl
set_option maxRecDepth 20000 in
theorem w_524 : (.code ⟨"HullyardSurveys$Shapes", "riseOf", "(LHullyardSurveys$Row;I)I"⟩ prog_7_method_3_code 2 (some .int) : Cond) ∈ GW := gw3 6 rfl rfl
set_option maxRecDepth 20000 in
theorem w_525 : (.methodLink "HullyardSurveys$Shapes" 38 ⟨"HullyardSurveys$Plane", "commonDivisor", "(JJ)J"⟩ : Cond) ∈ GW := gw3 7 rfl rfl
set_option maxRecDepth 20000 in
theorem w_526 : (.static ⟨"HullyardSurveys$Plane", "commonDivisor", "(JJ)J"⟩ : Cond) ∈ GW := gw3 8 rfl rfl
set_option maxRecDepth 20000 in
theorem w_527 : (.code ⟨"HullyardSurveys$Plane", "commonDivisor", "(JJ)J"⟩ prog_5_method_9_code 11 (some .long) : Cond) ∈ GW := gw3 9 rfl rfl
set_option maxRecDepth 20000 in
theorem w_528 : (.methodLink "HullyardSurveys$Plane" 51 ⟨"java/lang/Math", "abs", "(J)J"⟩ : Cond) ∈ GW := gw3 10 rfl rfl
set_option maxRecDepth 20000 in
theorem w_529 : (.static ⟨"java/lang/Math", "abs", "(J)J"⟩ : Cond) ∈ GW := gw3 11 rfl rfl
set_option maxRecDepth 20000 in
theorem w_530 : (.code ⟨"java/lang/Math", "abs", "(J)J"⟩ Lib.MathLoose.abs_long.code 2 (some .long) : Cond) ∈ GW := gw3 12 rfl rfl
set_option maxRecDepth 20000 in
theorem w_531 : (.methodLink "HullyardSurveys" 188 ⟨"HullyardSurveys$Shapes", "stepsRound", "(LHullyardSurveys$Row;)I"⟩ : Cond) ∈ GW := gw3 13 rfl rfl
set_option maxRecDepth 20000 in
theorem w_532 : (.static ⟨"HullyardSurveys$Shapes", "stepsRound", "(LHullyardSurveys$Row;)I"⟩ : Cond) ∈ GW := gw3 14 rfl rfl
set_option maxRecDepth 20000 in
theorem w_533 : (.code ⟨"HullyardSurveys$Shapes", "stepsRound", "(LHullyardSurveys$Row;)I"⟩ prog_7_method_7_code 3 (some .int) : Cond) ∈ GW := gw3 15 rfl rfl
set_option maxRecDepth 20000 in
theorem w_534 : (.methodLink "HullyardSurveys$Shapes" 42 ⟨"HullyardSurveys$Shapes", "stepsAlong", "(LHullyardSurveys$Row;I)I"⟩ : Cond) ∈ GW := gw3 16 rfl rfl
set_option maxRecDepth 20000 in
theorem w_535 : (.methodLink "HullyardSurveysLaw" 94 ⟨"HullyardSurveys", "checksum", "()I"⟩ : Cond) ∈ GW := gw3 17 rfl rfl
set_option maxRecDepth 20000 in
theorem w_536 : (.instanceMethod ⟨"HullyardSurveys", "checksum", "()I"⟩ : Cond) ∈ GW := gw3 18 rfl rfl
set_option maxRecDepth 20000 in
theorem w_537 : (.selects "HullyardSurveys" ⟨"HullyardSurveys", "checksum", "()I"⟩ ⟨"HullyardSurveys", "checksum", "()I"⟩ : Cond) ∈ GW := gw3 19 rfl rfl
set_option maxRecDepth 20000 in
theorem w_538 : (.code ⟨"HullyardSurveys", "checksum", "()I"⟩ prog_1_method_46_code 3 (some .int) : Cond) ∈ GW := gw3 20 rfl rfl
set_option maxRecDepth 20000 in
theorem w_539 : (.methodLink "HullyardSurveysLaw" 97 ⟨"HullyardSurveys", "inner", "()I"⟩ : Cond) ∈ GW := gw3 21 rfl rfl
set_option maxRecDepth 20000 in
theorem w_540 : (.instanceMethod ⟨"HullyardSurveys", "inner", "()I"⟩ : Cond) ∈ GW := gw3 22 rfl rfl
set_option maxRecDepth 20000 in
theorem w_541 : (.selects "HullyardSurveys" ⟨"HullyardSurveys", "inner", "()I"⟩ ⟨"HullyardSurveys", "inner", "()I"⟩ : Cond) ∈ GW := gw3 23 rfl rfl
set_option maxRecDepth 20000 in
theorem w_542 : (.code ⟨"HullyardSurveys", "inner", "()I"⟩ prog_1_method_19_code 1 (some .int) : Cond) ∈ GW := gw3 24 rfl rfl
set_option maxRecDepth 20000 in
theorem w_543 : (.methodLink "HullyardSurveys" 191 ⟨"HullyardSurveys$Shapes", "placesInside", "(LHullyardSurveys$Row;)I"⟩ : Cond) ∈ GW := gw3 25 rfl rfl
set_option maxRecDepth 20000 in
theorem w_544 : (.static ⟨"HullyardSurveys$Shapes", "placesInside", "(LHullyardSurveys$Row;)I"⟩ : Cond) ∈ GW := gw3 26 rfl rfl
set_option maxRecDepth 20000 in
theorem w_545 : (.code ⟨"HullyardSurveys$Shapes", "placesInside", "(LHullyardSurveys$Row;)I"⟩ prog_7_method_8_code 1 (some .int) : Cond) ∈ GW := gw3 27 rfl rfl
set_option maxRecDepth 20000 in
theorem w_546 : (.methodLink "HullyardSurveys$Shapes" 45 ⟨"HullyardSurveys$Shapes", "doubledArea", "(LHullyardSurveys$Row;)I"⟩ : Cond) ∈ GW := gw3 28 rfl rfl
set_option maxRecDepth 20000 in
theorem w_547 : (.methodLink "HullyardSurveys$Shapes" 49 ⟨"java/lang/Math", "abs", "(I)I"⟩ : Cond) ∈ GW := gw3 29 rfl rfl
set_option maxRecDepth 20000 in
theorem w_548 : (.methodLink "HullyardSurveys$Shapes" 54 ⟨"HullyardSurveys$Shapes", "stepsRound", "(LHullyardSurveys$Row;)I"⟩ : Cond) ∈ GW := gw3 30 rfl rfl
set_option maxRecDepth 20000 in
theorem w_549 : (.methodLink "HullyardSurveysLaw" 100 ⟨"HullyardSurveysLaw", "isWide", "(I)Z"⟩ : Cond) ∈ GW := gw3 31 rfl rfl
set_option maxRecDepth 20000 in
theorem w_551 : (.instanceMethod ⟨"HullyardSurveysLaw", "isWide", "(I)Z"⟩ : Cond) ∈ GW := gw3 33 rfl rfl
set_option maxRecDepth 20000 in
theorem w_552 : (.code ⟨"HullyardSurveysLaw", "isWide", "(I)Z"⟩ method_9_code 12 (some .boolean) : Cond) ∈ GW := gw3 34 rfl rfl
set_option maxRecDepth 20000 in
theorem w_553 : (.methodLink "HullyardSurveysLaw" 104 ⟨"java/lang/Math", "max", "(JJ)J"⟩ : Cond) ∈ GW := gw3 35 rfl rfl
set_option maxRecDepth 20000 in
theorem w_554 : (.methodLink "HullyardSurveysLaw" 108 ⟨"HullyardSurveys", "width", "(Z)J"⟩ : Cond) ∈ GW := gw3 36 rfl rfl
set_option maxRecDepth 20000 in
theorem w_555 : (.instanceMethod ⟨"HullyardSurveys", "width", "(Z)J"⟩ : Cond) ∈ GW := gw3 37 rfl rfl
set_option maxRecDepth 20000 in
theorem w_556 : (.selects "HullyardSurveys" ⟨"HullyardSurveys", "width", "(Z)J"⟩ ⟨"HullyardSurveys", "width", "(Z)J"⟩ : Cond) ∈ GW := gw3 38 rfl rfl
set_option maxRecDepth 20000 in
theorem w_557 : (.code ⟨"HullyardSurveys", "width", "(Z)J"⟩ prog_1_method_21_code 2 (some .long) : Cond) ∈ GW := gw3 39 rfl rfl
set_option maxRecDepth 20000 in
theorem w_559 : (.methodLink "HullyardSurveys" 200 ⟨"HullyardSurveys$Shapes", "squaredWidth", "(LHullyardSurveys$Row;Z)J"⟩ : Cond) ∈ GW := gw3 41 rfl rfl
set_option maxRecDepth 20000 in
theorem w_560 : (.static ⟨"HullyardSurveys$Shapes", "squaredWidth", "(LHullyardSurveys$Row;Z)J"⟩ : Cond) ∈ GW := gw3 42 rfl rfl
set_option maxRecDepth 20000 in
theorem w_561 : (.code ⟨"HullyardSurveys$Shapes", "squaredWidth", "(LHullyardSurveys$Row;Z)J"⟩ prog_7_method_11_code 15 (some .long) : Cond) ∈ GW := gw3 43 rfl rfl
set_option maxRecDepth 20000 in
theorem w_562 : (.methodLink "HullyardSurveys$Shapes" 61 ⟨"HullyardSurveys$Shapes", "reachFrom", "(LHullyardSurveys$Row;I)J"⟩ : Cond) ∈ GW := gw3 44 rfl rfl
set_option maxRecDepth 20000 in
theorem w_563 : (.static ⟨"HullyardSurveys$Shapes", "reachFrom", "(LHullyardSurveys$Row;I)J"⟩ : Cond) ∈ GW := gw3 45 rfl rfl
set_option maxRecDepth 20000 in
theorem w_564 : (.code ⟨"HullyardSurveys$Shapes", "reachFrom", "(LHullyardSurveys$Row;I)J"⟩ prog_7_method_12_code 5 (some .long) : Cond) ∈ GW := gw3 46 rfl rfl
set_option maxRecDepth 20000 in
theorem w_565 : (.methodLink "HullyardSurveys$Shapes" 65 ⟨"HullyardSurveys$Shapes", "twistOf", "(LHullyardSurveys$Row;III)J"⟩ : Cond) ∈ GW := gw3 47 rfl rfl
set_option maxRecDepth 20000 in
theorem w_566 : (.static ⟨"HullyardSurveys$Shapes", "twistOf", "(LHullyardSurveys$Row;III)J"⟩ : Cond) ∈ GW := gw3 48 rfl rfl
set_option maxRecDepth 20000 in
theorem w_567 : (.code ⟨"HullyardSurveys$Shapes", "twistOf", "(LHullyardSurveys$Row;III)J"⟩ prog_7_method_4_code 4 (some .long) : Cond) ∈ GW := gw3 49 rfl rfl
set_option maxRecDepth 20000 in
theorem w_568 : (.methodLink "HullyardSurveys$Shapes" 69 ⟨"java/lang/Math", "max", "(JJ)J"⟩ : Cond) ∈ GW := gw3 50 rfl rfl
set_option maxRecDepth 20000 in
theorem w_569 : (.methodLink "HullyardSurveysLaw" 112 ⟨"HullyardSurveys", "fills", "()F"⟩ : Cond) ∈ GW := gw3 51 rfl rfl
set_option maxRecDepth 20000 in
theorem w_570 : (.instanceMethod ⟨"HullyardSurveys", "fills", "()F"⟩ : Cond) ∈ GW := gw3 52 rfl rfl
set_option maxRecDepth 20000 in
theorem w_571 : (.selects "HullyardSurveys" ⟨"HullyardSurveys", "fills", "()F"⟩ ⟨"HullyardSurveys", "fills", "()F"⟩ : Cond) ∈ GW := gw3 53 rfl rfl
set_option maxRecDepth 20000 in
theorem w_572 : (.code ⟨"HullyardSurveys", "fills", "()F"⟩ prog_1_method_48_code 4 (some .float) : Cond) ∈ GW := gw3 54 rfl rfl
set_option maxRecDepth 20000 in
theorem w_573 : (.methodLink "HullyardSurveys" 256 ⟨"HullyardSurveys$Shapes", "bound", "(LHullyardSurveys$Row;I)I"⟩ : Cond) ∈ GW := gw3 55 rfl rfl
set_option maxRecDepth 20000 in
theorem w_574 : (.static ⟨"HullyardSurveys$Shapes", "bound", "(LHullyardSurveys$Row;I)I"⟩ : Cond) ∈ GW := gw3 56 rfl rfl
set_option maxRecDepth 20000 in
theorem w_575 : (.code ⟨"HullyardSurveys$Shapes", "bound", "(LHullyardSurveys$Row;I)I"⟩ prog_7_method_10_code 6 (some .int) : Cond) ∈ GW := gw3 57 rfl rfl
set_option maxRecDepth 20000 in
theorem w_576 : (.methodLink "HullyardSurveysLaw" 123 ⟨"HullyardSurveysLaw", "holdsAll", "(I)Z"⟩ : Cond) ∈ GW := gw3 58 rfl rfl
set_option maxRecDepth 20000 in
theorem w_578 : (.instanceMethod ⟨"HullyardSurveysLaw", "holdsAll", "(I)Z"⟩ : Cond) ∈ GW := gw3 60 rfl rfl
set_option maxRecDepth 20000 in
theorem w_579 : (.code ⟨"HullyardSurveysLaw", "holdsAll", "(I)Z"⟩ method_10_code 3 (some .boolean) : Cond) ∈ GW := gw3 61 rfl rfl
set_option maxRecDepth 20000 in
theorem w_580 : (.methodLink "HullyardSurveysLaw" 126 ⟨"HullyardSurveysLaw", "isOfPoints", "(II)Z"⟩ : Cond) ∈ GW := gw3 62 rfl rfl
set_option maxRecDepth 20000 in
theorem w_582 : (.instanceMethod ⟨"HullyardSurveysLaw", "isOfPoints", "(II)Z"⟩ : Cond) ∈ GW := gw3 64 rfl rfl
set_option maxRecDepth 20000 in
theorem w_583 : (.code ⟨"HullyardSurveysLaw", "isOfPoints", "(II)Z"⟩ method_11_code 6 (some .boolean) : Cond) ∈ GW := gw3 65 rfl rfl
set_option maxRecDepth 20000 in
theorem w_584 : (.methodLink "HullyardSurveysLaw" 130 ⟨"HullyardSurveys", "join", "(II)I"⟩ : Cond) ∈ GW := gw3 66 rfl rfl
set_option maxRecDepth 20000 in
theorem w_585 : (.instanceMethod ⟨"HullyardSurveys", "join", "(II)I"⟩ : Cond) ∈ GW := gw3 67 rfl rfl
set_option maxRecDepth 20000 in
theorem w_586 : (.selects "HullyardSurveys" ⟨"HullyardSurveys", "join", "(II)I"⟩ ⟨"HullyardSurveys", "join", "(II)I"⟩ : Cond) ∈ GW := gw3 68 rfl rfl
set_option maxRecDepth 20000 in
theorem w_587 : (.code ⟨"HullyardSurveys", "join", "(II)I"⟩ prog_1_method_10_code 3 (some .int) : Cond) ∈ GW := gw3 69 rfl rfl
set_option maxRecDepth 20000 in
theorem w_588 : (.methodLink "HullyardSurveys" 134 ⟨"HullyardSurveys", "requireTwoFilled", "(II)V"⟩ : Cond) ∈ GW := gw3 70 rfl rfl
set_option maxRecDepth 20000 in
theorem w_590 : (.instanceMethod ⟨"HullyardSurveys", "requireTwoFilled", "(II)V"⟩ : Cond) ∈ GW := gw3 72 rfl rfl
set_option maxRecDepth 20000 in
theorem w_591 : (.code ⟨"HullyardSurveys", "requireTwoFilled", "(II)V"⟩ prog_1_method_56_code 3 none : Cond) ∈ GW := gw3 73 rfl rfl
set_option maxRecDepth 20000 in
theorem w_592 : (.methodLink "HullyardSurveysLaw" 133 ⟨"HullyardSurveys", "layer", "(II)I"⟩ : Cond) ∈ GW := gw3 74 rfl rfl
set_option maxRecDepth 20000 in
theorem w_593 : (.instanceMethod ⟨"HullyardSurveys", "layer", "(II)I"⟩ : Cond) ∈ GW := gw3 75 rfl rfl
set_option maxRecDepth 20000 in
theorem w_594 : (.selects "HullyardSurveys" ⟨"HullyardSurveys", "layer", "(II)I"⟩ ⟨"HullyardSurveys", "layer", "(II)I"⟩ : Cond) ∈ GW := gw3 76 rfl rfl
set_option maxRecDepth 20000 in
theorem w_595 : (.code ⟨"HullyardSurveys", "layer", "(II)I"⟩ prog_1_method_13_code 5 (some .int) : Cond) ∈ GW := gw3 77 rfl rfl
set_option maxRecDepth 20000 in
theorem w_596 : (.methodLink "HullyardSurveys" 151 ⟨"java/lang/Math", "min", "(II)I"⟩ : Cond) ∈ GW := gw3 78 rfl rfl
set_option maxRecDepth 20000 in
theorem w_597 : (.static ⟨"java/lang/Math", "min", "(II)I"⟩ : Cond) ∈ GW := gw3 79 rfl rfl
set_option maxRecDepth 20000 in
theorem w_598 : (.code ⟨"java/lang/Math", "min", "(II)I"⟩ Lib.Math.min.code 2 (some .int) : Cond) ∈ GW := gw3 80 rfl rfl
set_option maxRecDepth 20000 in
theorem w_599 : (.methodLink "HullyardSurveys" 148 ⟨"HullyardSurveys$Hulls", "peel", "(LHullyardSurveys$Row;LHullyardSurveys$Row;)V"⟩ : Cond) ∈ GW := gw3 81 rfl rfl
set_option maxRecDepth 20000 in
theorem w_600 : (.static ⟨"HullyardSurveys$Hulls", "peel", "(LHullyardSurveys$Row;LHullyardSurveys$Row;)V"⟩ : Cond) ∈ GW := gw3 82 rfl rfl
set_option maxRecDepth 20000 in
theorem w_601 : (.code ⟨"HullyardSurveys$Hulls", "peel", "(LHullyardSurveys$Row;LHullyardSurveys$Row;)V"⟩ prog_3_method_5_code 3 none : Cond) ∈ GW := gw3 83 rfl rfl
set_option maxRecDepth 20000 in
theorem w_602 : (.methodLink "HullyardSurveys$Hulls" 50 ⟨"HullyardSurveys$Hulls", "wrap", "(LHullyardSurveys$Row;LHullyardSurveys$Row;)V"⟩ : Cond) ∈ GW := gw3 84 rfl rfl
set_option maxRecDepth 20000 in
theorem w_603 : (.methodLink "HullyardSurveys$Hulls" 54 ⟨"HullyardSurveys$Shapes", "whereIs", "(LHullyardSurveys$Row;IJJ)I"⟩ : Cond) ∈ GW := gw3 85 rfl rfl
set_option maxRecDepth 20000 in
theorem w_604 : (.methodLink "HullyardSurveys$Hulls" 60 ⟨"HullyardSurveys$Row", "remove", "(I)V"⟩ : Cond) ∈ GW := gw3 86 rfl rfl
set_option maxRecDepth 20000 in
theorem w_605 : (.instanceMethod ⟨"HullyardSurveys$Row", "remove", "(I)V"⟩ : Cond) ∈ GW := gw3 87 rfl rfl
set_option maxRecDepth 20000 in
theorem w_606 : (.selects "HullyardSurveys$Row" ⟨"HullyardSurveys$Row", "remove", "(I)V"⟩ ⟨"HullyardSurveys$Row", "remove", "(I)V"⟩ : Cond) ∈ GW := gw3 88 rfl rfl
set_option maxRecDepth 20000 in
theorem w_607 : (.code ⟨"HullyardSurveys$Row", "remove", "(I)V"⟩ prog_6_method_14_code 3 none : Cond) ∈ GW := gw3 89 rfl rfl
set_option maxRecDepth 20000 in
theorem w_609 : (.methodLink "HullyardSurveysLaw" 136 ⟨"HullyardSurveys", "sum", "(II)I"⟩ : Cond) ∈ GW := gw3 91 rfl rfl
set_option maxRecDepth 20000 in
theorem w_610 : (.instanceMethod ⟨"HullyardSurveys", "sum", "(II)I"⟩ : Cond) ∈ GW := gw3 92 rfl rfl
set_option maxRecDepth 20000 in
theorem w_611 : (.selects "HullyardSurveys" ⟨"HullyardSurveys", "sum", "(II)I"⟩ ⟨"HullyardSurveys", "sum", "(II)I"⟩ : Cond) ∈ GW := gw3 93 rfl rfl
set_option maxRecDepth 20000 in
theorem w_612 : (.code ⟨"HullyardSurveys", "sum", "(II)I"⟩ prog_1_method_11_code 3 (some .int) : Cond) ∈ GW := gw3 94 rfl rfl
set_option maxRecDepth 20000 in
theorem w_613 : (.methodLink "HullyardSurveys" 141 ⟨"HullyardSurveys", "wrapTwo", "(II)V"⟩ : Cond) ∈ GW := gw3 95 rfl rfl
set_option maxRecDepth 20000 in
theorem w_615 : (.instanceMethod ⟨"HullyardSurveys", "wrapTwo", "(II)V"⟩ : Cond) ∈ GW := gw3 97 rfl rfl
set_option maxRecDepth 20000 in
theorem w_616 : (.code ⟨"HullyardSurveys", "wrapTwo", "(II)V"⟩ prog_1_method_61_code 3 none : Cond) ∈ GW := gw3 98 rfl rfl
set_option maxRecDepth 20000 in
theorem w_617 : (.methodLink "HullyardSurveys" 144 ⟨"HullyardSurveys$Hulls", "addUp", "(LHullyardSurveys$Row;LHullyardSurveys$Row;LHullyardSurveys$Row;)V"⟩ : Cond) ∈ GW := gw3 99 rfl rfl
set_option maxRecDepth 20000 in
theorem w_618 : (.static ⟨"HullyardSurveys$Hulls", "addUp", "(LHullyardSurveys$Row;LHullyardSurveys$Row;LHullyardSurveys$Row;)V"⟩ : Cond) ∈ GW := gw3 100 rfl rfl
set_option maxRecDepth 20000 in
theorem w_619 : (.code ⟨"HullyardSurveys$Hulls", "addUp", "(LHullyardSurveys$Row;LHullyardSurveys$Row;LHullyardSurveys$Row;)V"⟩ prog_3_method_6_code 11 none : Cond) ∈ GW := gw3 101 rfl rfl
set_option maxRecDepth 20000 in
theorem w_620 : (.methodLink "HullyardSurveys$Hulls" 64 ⟨"HullyardSurveys$Hulls", "compareEdges", "(LHullyardSurveys$Row;ILHullyardSurveys$Row;I)I"⟩ : Cond) ∈ GW := gw3 102 rfl rfl
set_option maxRecDepth 20000 in
theorem w_621 : (.static ⟨"HullyardSurveys$Hulls", "compareEdges", "(LHullyardSurveys$Row;ILHullyardSurveys$Row;I)I"⟩ : Cond) ∈ GW := gw3 103 rfl rfl
set_option maxRecDepth 20000 in
theorem w_622 : (.code ⟨"HullyardSurveys$Hulls", "compareEdges", "(LHullyardSurveys$Row;ILHullyardSurveys$Row;I)I"⟩ prog_3_method_7_code 10 (some .int) : Cond) ∈ GW := gw3 104 rfl rfl
set_option maxRecDepth 20000 in
theorem w_623 : (.methodLink "HullyardSurveys$Hulls" 68 ⟨"HullyardSurveys$Shapes", "runOf", "(LHullyardSurveys$Row;I)I"⟩ : Cond) ∈ GW := gw3 105 rfl rfl
set_option maxRecDepth 20000 in
theorem w_624 : (.methodLink "HullyardSurveys$Hulls" 72 ⟨"HullyardSurveys$Shapes", "riseOf", "(LHullyardSurveys$Row;I)I"⟩ : Cond) ∈ GW := gw3 106 rfl rfl
set_option maxRecDepth 20000 in
theorem w_625 : (.methodLink "HullyardSurveys$Hulls" 75 ⟨"HullyardSurveys$Hulls", "goesOut", "(II)Z"⟩ : Cond) ∈ GW := gw3 107 rfl rfl
set_option maxRecDepth 20000 in
theorem w_626 : (.static ⟨"HullyardSurveys$Hulls", "goesOut", "(II)Z"⟩ : Cond) ∈ GW := gw3 108 rfl rfl
set_option maxRecDepth 20000 in
theorem w_627 : (.code ⟨"HullyardSurveys$Hulls", "goesOut", "(II)Z"⟩ prog_3_method_8_code 2 (some .boolean) : Cond) ∈ GW := gw3 109 rfl rfl
set_option maxRecDepth 20000 in
theorem w_628 : (.methodLink "HullyardSurveys$Hulls" 79 ⟨"HullyardSurveys$Plane", "signOf", "(J)I"⟩ : Cond) ∈ GW := gw3 110 rfl rfl
set_option maxRecDepth 20000 in
theorem w_629 : (.static ⟨"HullyardSurveys$Plane", "signOf", "(J)I"⟩ : Cond) ∈ GW := gw3 111 rfl rfl
set_option maxRecDepth 20000 in
theorem w_630 : (.code ⟨"HullyardSurveys$Plane", "signOf", "(J)I"⟩ prog_5_method_3_code 2 (some .int) : Cond) ∈ GW := gw3 112 rfl rfl
set_option maxRecDepth 20000 in
theorem w_631 : (.methodLink "HullyardSurveysLaw" 266 ⟨"HullyardSurveysLaw", "areLayers", "()Z"⟩ : Cond) ∈ GW := gw3 113 rfl rfl
set_option maxRecDepth 20000 in
theorem w_633 : (.instanceMethod ⟨"HullyardSurveysLaw", "areLayers", "()Z"⟩ : Cond) ∈ GW := gw3 115 rfl rfl
set_option maxRecDepth 20000 in
theorem w_634 : (.code ⟨"HullyardSurveysLaw", "areLayers", "()Z"⟩ method_13_code 6 (some .boolean) : Cond) ∈ GW := gw3 116 rfl rfl
set_option maxRecDepth 20000 in
theorem w_635 : (.methodLink "HullyardSurveysLaw" 139 ⟨"HullyardSurveys", "layers", "(I)I"⟩ : Cond) ∈ GW := gw3 117 rfl rfl
set_option maxRecDepth 20000 in
theorem w_636 : (.instanceMethod ⟨"HullyardSurveys", "layers", "(I)I"⟩ : Cond) ∈ GW := gw3 118 rfl rfl
set_option maxRecDepth 20000 in
theorem w_637 : (.selects "HullyardSurveys" ⟨"HullyardSurveys", "layers", "(I)I"⟩ ⟨"HullyardSurveys", "layers", "(I)I"⟩ : Cond) ∈ GW := gw3 119 rfl rfl
set_option maxRecDepth 20000 in
theorem w_638 : (.code ⟨"HullyardSurveys", "layers", "(I)I"⟩ prog_1_method_12_code 4 (some .int) : Cond) ∈ GW := gw3 120 rfl rfl
set_option maxRecDepth 20000 in
theorem w_639 : (.methodLink "HullyardSurveysLaw" 142 ⟨"HullyardSurveysLaw", "many", "(I)I"⟩ : Cond) ∈ GW := gw3 121 rfl rfl
set_option maxRecDepth 20000 in
theorem w_641 : (.instanceMethod ⟨"HullyardSurveysLaw", "many", "(I)I"⟩ : Cond) ∈ GW := gw3 123 rfl rfl
set_option maxRecDepth 20000 in
theorem w_642 : (.code ⟨"HullyardSurveysLaw", "many", "(I)I"⟩ method_7_code 4 (some .int) : Cond) ∈ GW := gw3 124 rfl rfl
set_option maxRecDepth 20000 in
theorem w_643 : (.methodLink "HullyardSurveysLaw" 269 ⟨"HullyardSurveysLaw", "arePairs", "()Z"⟩ : Cond) ∈ GW := gw3 125 rfl rfl
set_option maxRecDepth 20000 in
theorem w_645 : (.instanceMethod ⟨"HullyardSurveysLaw", "arePairs", "()Z"⟩ : Cond) ∈ GW := gw3 127 rfl rfl
set_option maxRecDepth 20000 in
theorem w_646 : (.code ⟨"HullyardSurveysLaw", "arePairs", "()Z"⟩ method_14_code 11 (some .boolean) : Cond) ∈ GW := gw3 128 rfl rfl
set_option maxRecDepth 20000 in
theorem w_647 : (.methodLink "HullyardSurveysLaw" 145 ⟨"HullyardSurveys", "pair", "(IZ)I"⟩ : Cond) ∈ GW := gw3 129 rfl rfl
set_option maxRecDepth 20000 in
theorem w_648 : (.instanceMethod ⟨"HullyardSurveys", "pair", "(IZ)I"⟩ : Cond) ∈ GW := gw3 130 rfl rfl
set_option maxRecDepth 20000 in
theorem w_649 : (.selects "HullyardSurveys" ⟨"HullyardSurveys", "pair", "(IZ)I"⟩ ⟨"HullyardSurveys", "pair", "(IZ)I"⟩ : Cond) ∈ GW := gw3 131 rfl rfl
set_option maxRecDepth 20000 in
theorem w_650 : (.code ⟨"HullyardSurveys", "pair", "(IZ)I"⟩ prog_1_method_39_code 3 (some .int) : Cond) ∈ GW := gw3 132 rfl rfl
set_option maxRecDepth 20000 in
theorem w_651 : (.methodLink "HullyardSurveys" 246 ⟨"HullyardSurveys", "requireTwoPoints", "(I)V"⟩ : Cond) ∈ GW := gw3 133 rfl rfl
set_option maxRecDepth 20000 in
theorem w_653 : (.instanceMethod ⟨"HullyardSurveys", "requireTwoPoints", "(I)V"⟩ : Cond) ∈ GW := gw3 135 rfl rfl
set_option maxRecDepth 20000 in
theorem w_654 : (.code ⟨"HullyardSurveys", "requireTwoPoints", "(I)V"⟩ prog_1_method_57_code 2 none : Cond) ∈ GW := gw3 136 rfl rfl
set_option maxRecDepth 20000 in
theorem w_656 : (.methodLink "HullyardSurveys" 249 ⟨"HullyardSurveys$Yard", "extremePair", "(IZ)I"⟩ : Cond) ∈ GW := gw3 138 rfl rfl
set_option maxRecDepth 20000 in
theorem w_657 : (.instanceMethod ⟨"HullyardSurveys$Yard", "extremePair", "(IZ)I"⟩ : Cond) ∈ GW := gw3 139 rfl rfl
set_option maxRecDepth 20000 in
theorem w_658 : (.selects "HullyardSurveys$Yard" ⟨"HullyardSurveys$Yard", "extremePair", "(IZ)I"⟩ ⟨"HullyardSurveys$Yard", "extremePair", "(IZ)I"⟩ : Cond) ∈ GW := gw3 140 rfl rfl
set_option maxRecDepth 20000 in
theorem w_659 : (.code ⟨"HullyardSurveys$Yard", "extremePair", "(IZ)I"⟩ prog_8_method_7_code 9 (some .int) : Cond) ∈ GW := gw3 141 rfl rfl
set_option maxRecDepth 20000 in
theorem w_660 : (.methodLink "HullyardSurveys$Yard" 48 ⟨"HullyardSurveys$Yard", "squaredDistance", "(II)I"⟩ : Cond) ∈ GW := gw3 142 rfl rfl
set_option maxRecDepth 20000 in
theorem w_661 : (.instanceMethod ⟨"HullyardSurveys$Yard", "squaredDistance", "(II)I"⟩ : Cond) ∈ GW := gw3 143 rfl rfl
set_option maxRecDepth 20000 in
theorem w_662 : (.selects "HullyardSurveys$Yard" ⟨"HullyardSurveys$Yard", "squaredDistance", "(II)I"⟩ ⟨"HullyardSurveys$Yard", "squaredDistance", "(II)I"⟩ : Cond) ∈ GW := gw3 144 rfl rfl
set_option maxRecDepth 20000 in
theorem w_663 : (.code ⟨"HullyardSurveys$Yard", "squaredDistance", "(II)I"⟩ prog_8_method_6_code 5 (some .int) : Cond) ∈ GW := gw3 145 rfl rfl
set_option maxRecDepth 20000 in
theorem w_664 : (.methodLink "HullyardSurveysLaw" 148 ⟨"HullyardSurveys", "distance", "(IZ)I"⟩ : Cond) ∈ GW := gw3 146 rfl rfl
set_option maxRecDepth 20000 in
theorem w_665 : (.instanceMethod ⟨"HullyardSurveys", "distance", "(IZ)I"⟩ : Cond) ∈ GW := gw3 147 rfl rfl
set_option maxRecDepth 20000 in
theorem w_666 : (.selects "HullyardSurveys" ⟨"HullyardSurveys", "distance", "(IZ)I"⟩ ⟨"HullyardSurveys", "distance", "(IZ)I"⟩ : Cond) ∈ GW := gw3 148 rfl rfl
set_option maxRecDepth 20000 in
theorem w_667 : (.code ⟨"HullyardSurveys", "distance", "(IZ)I"⟩ prog_1_method_40_code 4 (some .int) : Cond) ∈ GW := gw3 149 rfl rfl
set_option maxRecDepth 20000 in
theorem w_668 : (.methodLink "HullyardSurveys" 253 ⟨"HullyardSurveys$Yard", "squaredDistance", "(II)I"⟩ : Cond) ∈ GW := gw3 150 rfl rfl
set_option maxRecDepth 20000 in
theorem w_669 : (.methodLink "HullyardSurveysLaw" 151 ⟨"HullyardSurveys", "box", "(II)I"⟩ : Cond) ∈ GW := gw3 151 rfl rfl
set_option maxRecDepth 20000 in
theorem w_670 : (.instanceMethod ⟨"HullyardSurveys", "box", "(II)I"⟩ : Cond) ∈ GW := gw3 152 rfl rfl
set_option maxRecDepth 20000 in
theorem w_671 : (.selects "HullyardSurveys" ⟨"HullyardSurveys", "box", "(II)I"⟩ ⟨"HullyardSurveys", "box", "(II)I"⟩ : Cond) ∈ GW := gw3 153 rfl rfl
set_option maxRecDepth 20000 in
theorem w_672 : (.code ⟨"HullyardSurveys", "box", "(II)I"⟩ prog_1_method_41_code 3 (some .int) : Cond) ∈ GW := gw3 154 rfl rfl
set_option maxRecDepth 20000 in
theorem w_674 : (.methodLink "HullyardSurveysLaw" 154 ⟨"HullyardSurveys", "count", "(I)I"⟩ : Cond) ∈ GW := gw3 156 rfl rfl
set_option maxRecDepth 20000 in
theorem w_675 : (.instanceMethod ⟨"HullyardSurveys", "count", "(I)I"⟩ : Cond) ∈ GW := gw3 157 rfl rfl
set_option maxRecDepth 20000 in
theorem w_676 : (.selects "HullyardSurveys" ⟨"HullyardSurveys", "count", "(I)I"⟩ ⟨"HullyardSurveys", "count", "(I)I"⟩ : Cond) ∈ GW := gw3 158 rfl rfl
set_option maxRecDepth 20000 in
theorem w_677 : (.code ⟨"HullyardSurveys", "count", "(I)I"⟩ prog_1_method_5_code 2 (some .int) : Cond) ∈ GW := gw3 159 rfl rfl
set_option maxRecDepth 20000 in
theorem w_678 : (.methodLink "HullyardSurveysLaw" 157 ⟨"HullyardSurveys", "fence", "(II)I"⟩ : Cond) ∈ GW := gw3 160 rfl rfl
set_option maxRecDepth 20000 in
theorem w_679 : (.instanceMethod ⟨"HullyardSurveys", "fence", "(II)I"⟩ : Cond) ∈ GW := gw3 161 rfl rfl
set_option maxRecDepth 20000 in
theorem w_680 : (.selects "HullyardSurveys" ⟨"HullyardSurveys", "fence", "(II)I"⟩ ⟨"HullyardSurveys", "fence", "(II)I"⟩ : Cond) ∈ GW := gw3 162 rfl rfl
set_option maxRecDepth 20000 in
theorem w_681 : (.code ⟨"HullyardSurveys", "fence", "(II)I"⟩ prog_1_method_42_code 5 (some .int) : Cond) ∈ GW := gw3 163 rfl rfl
set_option maxRecDepth 20000 in
theorem w_684 : (.methodLink "HullyardSurveys" 263 ⟨"HullyardSurveys", "leastFenceFrom", "(II)I"⟩ : Cond) ∈ GW := gw3 166 rfl rfl
set_option maxRecDepth 20000 in
theorem w_686 : (.instanceMethod ⟨"HullyardSurveys", "leastFenceFrom", "(II)I"⟩ : Cond) ∈ GW := gw3 168 rfl rfl
set_option maxRecDepth 20000 in
theorem w_687 : (.code ⟨"HullyardSurveys", "leastFenceFrom", "(II)I"⟩ prog_1_method_62_code 8 (some .int) : Cond) ∈ GW := gw3 169 rfl rfl
set_option maxRecDepth 20000 in
theorem w_688 : (.methodLink "HullyardSurveys" 171 ⟨"HullyardSurveys$Row", "insertInOrder", "(III)V"⟩ : Cond) ∈ GW := gw3 170 rfl rfl
set_option maxRecDepth 20000 in
theorem w_689 : (.methodLink "HullyardSurveysLaw" 160 ⟨"HullyardSurveys", "places", "(I)I"⟩ : Cond) ∈ GW := gw3 171 rfl rfl
set_option maxRecDepth 20000 in
theorem w_690 : (.instanceMethod ⟨"HullyardSurveys", "places", "(I)I"⟩ : Cond) ∈ GW := gw3 172 rfl rfl
set_option maxRecDepth 20000 in
theorem w_691 : (.selects "HullyardSurveys" ⟨"HullyardSurveys", "places", "(I)I"⟩ ⟨"HullyardSurveys", "places", "(I)I"⟩ : Cond) ∈ GW := gw3 173 rfl rfl
set_option maxRecDepth 20000 in
theorem w_692 : (.code ⟨"HullyardSurveys", "places", "(I)I"⟩ prog_1_method_7_code 4 (some .int) : Cond) ∈ GW := gw3 174 rfl rfl
set_option maxRecDepth 20000 in
theorem w_693 : (.methodLink "HullyardSurveys" 115 ⟨"HullyardSurveys$Row", "isAt", "(III)Z"⟩ : Cond) ∈ GW := gw3 175 rfl rfl
set_option maxRecDepth 20000 in
theorem w_694 : (.methodLink "HullyardSurveysLaw" 163 ⟨"HullyardSurveys", "sorted", "(II)I"⟩ : Cond) ∈ GW := gw3 176 rfl rfl
set_option maxRecDepth 20000 in
theorem w_695 : (.instanceMethod ⟨"HullyardSurveys", "sorted", "(II)I"⟩ : Cond) ∈ GW := gw3 177 rfl rfl
set_option maxRecDepth 20000 in
theorem w_696 : (.selects "HullyardSurveys" ⟨"HullyardSurveys", "sorted", "(II)I"⟩ ⟨"HullyardSurveys", "sorted", "(II)I"⟩ : Cond) ∈ GW := gw3 178 rfl rfl
set_option maxRecDepth 20000 in
theorem w_697 : (.code ⟨"HullyardSurveys", "sorted", "(II)I"⟩ prog_1_method_6_code 3 (some .int) : Cond) ∈ GW := gw3 179 rfl rfl
set_option maxRecDepth 20000 in
theorem w_699 : (.methodLink "HullyardSurveys" 86 ⟨"HullyardSurveys$Row", "markAt", "(I)I"⟩ : Cond) ∈ GW := gw3 181 rfl rfl
set_option maxRecDepth 20000 in
theorem w_700 : (.methodLink "HullyardSurveysLaw" 166 ⟨"HullyardSurveys", "turn", "(III)I"⟩ : Cond) ∈ GW := gw3 182 rfl rfl
set_option maxRecDepth 20000 in
theorem w_701 : (.instanceMethod ⟨"HullyardSurveys", "turn", "(III)I"⟩ : Cond) ∈ GW := gw3 183 rfl rfl
set_option maxRecDepth 20000 in
theorem w_702 : (.selects "HullyardSurveys" ⟨"HullyardSurveys", "turn", "(III)I"⟩ ⟨"HullyardSurveys", "turn", "(III)I"⟩ : Cond) ∈ GW := gw3 184 rfl rfl
set_option maxRecDepth 20000 in
theorem w_703 : (.code ⟨"HullyardSurveys", "turn", "(III)I"⟩ prog_1_method_8_code 4 (some .int) : Cond) ∈ GW := gw3 185 rfl rfl
set_option maxRecDepth 20000 in
theorem w_704 : (.methodLink "HullyardSurveys" 83 ⟨"HullyardSurveys", "requirePoint", "(I)V"⟩ : Cond) ∈ GW := gw3 186 rfl rfl
set_option maxRecDepth 20000 in
theorem w_706 : (.instanceMethod ⟨"HullyardSurveys", "requirePoint", "(I)V"⟩ : Cond) ∈ GW := gw3 188 rfl rfl
set_option maxRecDepth 20000 in
theorem w_707 : (.code ⟨"HullyardSurveys", "requirePoint", "(I)V"⟩ prog_1_method_52_code 2 none : Cond) ∈ GW := gw3 189 rfl rfl
set_option maxRecDepth 20000 in
theorem w_708 : (.methodLink "HullyardSurveys" 293 ⟨"HullyardSurveys$Yard", "hasPoint", "(I)Z"⟩ : Cond) ∈ GW := gw3 190 rfl rfl
set_option maxRecDepth 20000 in
theorem w_709 : (.instanceMethod ⟨"HullyardSurveys$Yard", "hasPoint", "(I)Z"⟩ : Cond) ∈ GW := gw3 191 rfl rfl
set_option maxRecDepth 20000 in
theorem w_710 : (.selects "HullyardSurveys$Yard" ⟨"HullyardSurveys$Yard", "hasPoint", "(I)Z"⟩ ⟨"HullyardSurveys$Yard", "hasPoint", "(I)Z"⟩ : Cond) ∈ GW := gw3 192 rfl rfl
set_option maxRecDepth 20000 in
theorem w_711 : (.code ⟨"HullyardSurveys$Yard", "hasPoint", "(I)Z"⟩ prog_8_method_3_code 2 (some .boolean) : Cond) ∈ GW := gw3 193 rfl rfl
set_option maxRecDepth 20000 in
theorem w_713 : (.methodLink "HullyardSurveys" 119 ⟨"HullyardSurveys$Plane", "side", "(LHullyardSurveys$Row;IILHullyardSurveys$Row;I)I"⟩ : Cond) ∈ GW := gw3 195 rfl rfl
set_option maxRecDepth 20000 in
theorem w_714 : (.static ⟨"HullyardSurveys$Plane", "side", "(LHullyardSurveys$Row;IILHullyardSurveys$Row;I)I"⟩ : Cond) ∈ GW := gw3 196 rfl rfl
set_option maxRecDepth 20000 in
theorem w_715 : (.code ⟨"HullyardSurveys$Plane", "side", "(LHullyardSurveys$Row;IILHullyardSurveys$Row;I)I"⟩ prog_5_method_6_code 7 (some .int) : Cond) ∈ GW := gw3 197 rfl rfl
set_option maxRecDepth 20000 in
theorem w_716 : (.methodLink "HullyardSurveys$Plane" 22 ⟨"HullyardSurveys$Row", "xAt", "(I)I"⟩ : Cond) ∈ GW := gw3 198 rfl rfl
set_option maxRecDepth 20000 in
theorem w_717 : (.methodLink "HullyardSurveys$Plane" 28 ⟨"HullyardSurveys$Row", "yAt", "(I)I"⟩ : Cond) ∈ GW := gw3 199 rfl rfl
set_option maxRecDepth 20000 in
theorem w_718 : (.methodLink "HullyardSurveys$Plane" 35 ⟨"HullyardSurveys$Plane", "signOf", "(J)I"⟩ : Cond) ∈ GW := gw3 200 rfl rfl
set_option maxRecDepth 20000 in
theorem w_719 : (.methodLink "HullyardSurveysLaw" 168 ⟨"HullyardSurveys", "pointOf", "(II)I"⟩ : Cond) ∈ GW := gw3 201 rfl rfl
set_option maxRecDepth 20000 in
theorem w_720 : (.instanceMethod ⟨"HullyardSurveys", "pointOf", "(II)I"⟩ : Cond) ∈ GW := gw3 202 rfl rfl
set_option maxRecDepth 20000 in
theorem w_721 : (.selects "HullyardSurveys" ⟨"HullyardSurveys", "pointOf", "(II)I"⟩ ⟨"HullyardSurveys", "pointOf", "(II)I"⟩ : Cond) ∈ GW := gw3 203 rfl rfl
set_option maxRecDepth 20000 in
theorem w_722 : (.code ⟨"HullyardSurveys", "pointOf", "(II)I"⟩ prog_1_method_4_code 3 (some .int) : Cond) ∈ GW := gw3 204 rfl rfl
set_option maxRecDepth 20000 in
theorem w_723 : (.methodLink "HullyardSurveysLaw" 272 ⟨"HullyardSurveysLaw", "areApart", "()Z"⟩ : Cond) ∈ GW := gw3 205 rfl rfl
set_option maxRecDepth 20000 in
theorem w_725 : (.instanceMethod ⟨"HullyardSurveysLaw", "areApart", "()Z"⟩ : Cond) ∈ GW := gw3 207 rfl rfl
set_option maxRecDepth 20000 in
theorem w_726 : (.code ⟨"HullyardSurveysLaw", "areApart", "()Z"⟩ method_15_code 5 (some .boolean) : Cond) ∈ GW := gw3 208 rfl rfl
set_option maxRecDepth 20000 in
theorem w_727 : (.methodLink "HullyardSurveysLaw" 171 ⟨"HullyardSurveys", "apart", "(II)Z"⟩ : Cond) ∈ GW := gw3 209 rfl rfl
set_option maxRecDepth 20000 in
theorem w_728 : (.instanceMethod ⟨"HullyardSurveys", "apart", "(II)Z"⟩ : Cond) ∈ GW := gw3 210 rfl rfl
set_option maxRecDepth 20000 in
theorem w_729 : (.selects "HullyardSurveys" ⟨"HullyardSurveys", "apart", "(II)Z"⟩ ⟨"HullyardSurveys", "apart", "(II)Z"⟩ : Cond) ∈ GW := gw3 211 rfl rfl
set_option maxRecDepth 20000 in
theorem w_730 : (.code ⟨"HullyardSurveys", "apart", "(II)Z"⟩ prog_1_method_43_code 3 (some .boolean) : Cond) ∈ GW := gw3 212 rfl rfl
set_option maxRecDepth 20000 in
theorem w_731 : (.methodLink "HullyardSurveys" 266 ⟨"HullyardSurveys$Hulls", "touch", "(LHullyardSurveys$Row;LHullyardSurveys$Row;)Z"⟩ : Cond) ∈ GW := gw3 213 rfl rfl
set_option maxRecDepth 20000 in
theorem w_732 : (.static ⟨"HullyardSurveys$Hulls", "touch", "(LHullyardSurveys$Row;LHullyardSurveys$Row;)Z"⟩ : Cond) ∈ GW := gw3 214 rfl rfl
set_option maxRecDepth 20000 in
theorem w_733 : (.code ⟨"HullyardSurveys$Hulls", "touch", "(LHullyardSurveys$Row;LHullyardSurveys$Row;)Z"⟩ prog_3_method_9_code 4 (some .boolean) : Cond) ∈ GW := gw3 215 rfl rfl
set_option maxRecDepth 20000 in
theorem w_734 : (.methodLink "HullyardSurveys$Hulls" 83 ⟨"HullyardSurveys$Hulls", "hasCornerIn", "(LHullyardSurveys$Row;LHullyardSurveys$Row;)Z"⟩ : Cond) ∈ GW := gw3 216 rfl rfl
set_option maxRecDepth 20000 in
theorem w_735 : (.static ⟨"HullyardSurveys$Hulls", "hasCornerIn", "(LHullyardSurveys$Row;LHullyardSurveys$Row;)Z"⟩ : Cond) ∈ GW := gw3 217 rfl rfl
set_option maxRecDepth 20000 in
theorem w_736 : (.code ⟨"HullyardSurveys$Hulls", "hasCornerIn", "(LHullyardSurveys$Row;LHullyardSurveys$Row;)Z"⟩ prog_3_method_10_code 3 (some .boolean) : Cond) ∈ GW := gw3 218 rfl rfl
set_option maxRecDepth 20000 in
theorem w_737 : (.methodLink "HullyardSurveys$Hulls" 87 ⟨"HullyardSurveys$Row", "next", "(I)I"⟩ : Cond) ∈ GW := gw3 219 rfl rfl
set_option maxRecDepth 20000 in
theorem w_738 : (.methodLink "HullyardSurveys$Hulls" 90 ⟨"HullyardSurveys$Plane", "meet", "(LHullyardSurveys$Row;IILHullyardSurveys$Row;II)Z"⟩ : Cond) ∈ GW := gw3 220 rfl rfl
set_option maxRecDepth 20000 in
theorem w_739 : (.static ⟨"HullyardSurveys$Plane", "meet", "(LHullyardSurveys$Row;IILHullyardSurveys$Row;II)Z"⟩ : Cond) ∈ GW := gw3 221 rfl rfl
set_option maxRecDepth 20000 in
theorem w_740 : (.code ⟨"HullyardSurveys$Plane", "meet", "(LHullyardSurveys$Row;IILHullyardSurveys$Row;II)Z"⟩ prog_5_method_8_code 6 (some .boolean) : Cond) ∈ GW := gw3 222 rfl rfl
set_option maxRecDepth 20000 in
theorem w_741 : (.methodLink "HullyardSurveys$Plane" 43 ⟨"HullyardSurveys$Plane", "passThrough", "(LHullyardSurveys$Row;IILHullyardSurveys$Row;II)Z"⟩ : Cond) ∈ GW := gw3 223 rfl rfl
set_option maxRecDepth 20000 in
theorem w_742 : (.static ⟨"HullyardSurveys$Plane", "passThrough", "(LHullyardSurveys$Row;IILHullyardSurveys$Row;II)Z"⟩ : Cond) ∈ GW := gw3 224 rfl rfl
set_option maxRecDepth 20000 in
theorem w_743 : (.code ⟨"HullyardSurveys$Plane", "passThrough", "(LHullyardSurveys$Row;IILHullyardSurveys$Row;II)Z"⟩ prog_5_method_7_code 6 (some .boolean) : Cond) ∈ GW := gw3 225 rfl rfl
set_option maxRecDepth 20000 in
theorem w_744 : (.methodLink "HullyardSurveys$Plane" 39 ⟨"HullyardSurveys$Plane", "side", "(LHullyardSurveys$Row;IILHullyardSurveys$Row;I)I"⟩ : Cond) ∈ GW := gw3 226 rfl rfl
set_option maxRecDepth 20000 in
theorem w_745 : (.methodLink "HullyardSurveys$Plane" 47 ⟨"HullyardSurveys$Plane", "isBetween", "(LHullyardSurveys$Row;IILHullyardSurveys$Row;I)Z"⟩ : Cond) ∈ GW := gw3 227 rfl rfl
set_option maxRecDepth 20000 in
theorem w_746 : (.static ⟨"HullyardSurveys$Plane", "isBetween", "(LHullyardSurveys$Row;IILHullyardSurveys$Row;I)Z"⟩ : Cond) ∈ GW := gw3 228 rfl rfl
set_option maxRecDepth 20000 in
theorem w_747 : (.code ⟨"HullyardSurveys$Plane", "isBetween", "(LHullyardSurveys$Row;IILHullyardSurveys$Row;I)Z"⟩ prog_5_method_5_code 5 (some .boolean) : Cond) ∈ GW := gw3 229 rfl rfl
set_option maxRecDepth 20000 in
theorem w_748 : (.methodLink "HullyardSurveys$Plane" 31 ⟨"HullyardSurveys$Plane", "isOn", "(JJJJJJ)Z"⟩ : Cond) ∈ GW := gw3 230 rfl rfl
set_option maxRecDepth 20000 in
theorem w_749 : (.methodLink "HullyardSurveysLaw" 275 ⟨"HullyardSurveysLaw", "isDrawn", "(I)Z"⟩ : Cond) ∈ GW := gw3 231 rfl rfl
set_option maxRecDepth 20000 in
theorem w_751 : (.instanceMethod ⟨"HullyardSurveysLaw", "isDrawn", "(I)Z"⟩ : Cond) ∈ GW := gw3 233 rfl rfl
set_option maxRecDepth 20000 in
theorem w_752 : (.code ⟨"HullyardSurveysLaw", "isDrawn", "(I)Z"⟩ method_16_code 10 (some .boolean) : Cond) ∈ GW := gw3 234 rfl rfl
set_option maxRecDepth 20000 in
theorem w_753 : (.methodLink "HullyardSurveysLaw" 177 ⟨"HullyardSurveys", "clear", "(I)I"⟩ : Cond) ∈ GW := gw3 235 rfl rfl
set_option maxRecDepth 20000 in
theorem w_754 : (.instanceMethod ⟨"HullyardSurveys", "clear", "(I)I"⟩ : Cond) ∈ GW := gw3 236 rfl rfl
set_option maxRecDepth 20000 in
theorem w_755 : (.selects "HullyardSurveys" ⟨"HullyardSurveys", "clear", "(I)I"⟩ ⟨"HullyardSurveys", "clear", "(I)I"⟩ : Cond) ∈ GW := gw3 237 rfl rfl
set_option maxRecDepth 20000 in
theorem w_756 : (.code ⟨"HullyardSurveys", "clear", "(I)I"⟩ prog_1_method_23_code 4 (some .int) : Cond) ∈ GW := gw3 238 rfl rfl
set_option maxRecDepth 20000 in
theorem w_757 : (.methodLink "HullyardSurveys" 159 ⟨"HullyardSurveys", "requirePolygon", "(I)LHullyardSurveys$Row;"⟩ : Cond) ∈ GW := gw3 239 rfl rfl
set_option maxRecDepth 20000 in
theorem w_759 : (.instanceMethod ⟨"HullyardSurveys", "requirePolygon", "(I)LHullyardSurveys$Row;"⟩ : Cond) ∈ GW := gw4 1 rfl rfl
set_option maxRecDepth 20000 in
theorem w_760 : (.code ⟨"HullyardSurveys", "requirePolygon", "(I)LHullyardSurveys$Row;"⟩ prog_1_method_58_code 2 (some (.object "HullyardSurveys$Row")) : Cond) ∈ GW := gw4 2 rfl rfl
set_option maxRecDepth 20000 in
theorem w_762 : (.methodLink "HullyardSurveys" 283 ⟨"HullyardSurveys$Yard", "polygonAt", "(I)LHullyardSurveys$Row;"⟩ : Cond) ∈ GW := gw4 4 rfl rfl
set_option maxRecDepth 20000 in
theorem w_763 : (.instanceMethod ⟨"HullyardSurveys$Yard", "polygonAt", "(I)LHullyardSurveys$Row;"⟩ : Cond) ∈ GW := gw4 5 rfl rfl
set_option maxRecDepth 20000 in
theorem w_764 : (.selects "HullyardSurveys$Yard" ⟨"HullyardSurveys$Yard", "polygonAt", "(I)LHullyardSurveys$Row;"⟩ ⟨"HullyardSurveys$Yard", "polygonAt", "(I)LHullyardSurveys$Row;"⟩ : Cond) ∈ GW := gw4 6 rfl rfl
set_option maxRecDepth 20000 in
theorem w_765 : (.code ⟨"HullyardSurveys$Yard", "polygonAt", "(I)LHullyardSurveys$Row;"⟩ prog_8_method_2_code 3 (some (.object "HullyardSurveys$Row")) : Cond) ∈ GW := gw4 7 rfl rfl
set_option maxRecDepth 20000 in
theorem w_766 : (.methodLink "HullyardSurveysLaw" 180 ⟨"HullyardSurveys", "add", "(III)I"⟩ : Cond) ∈ GW := gw4 8 rfl rfl
set_option maxRecDepth 20000 in
theorem w_767 : (.instanceMethod ⟨"HullyardSurveys", "add", "(III)I"⟩ : Cond) ∈ GW := gw4 9 rfl rfl
set_option maxRecDepth 20000 in
theorem w_768 : (.selects "HullyardSurveys" ⟨"HullyardSurveys", "add", "(III)I"⟩ ⟨"HullyardSurveys", "add", "(III)I"⟩ : Cond) ∈ GW := gw4 10 rfl rfl
set_option maxRecDepth 20000 in
theorem w_769 : (.code ⟨"HullyardSurveys", "add", "(III)I"⟩ prog_1_method_22_code 5 (some .int) : Cond) ∈ GW := gw4 11 rfl rfl
set_option maxRecDepth 20000 in
theorem w_771 : (.methodLink "HullyardSurveysLaw" 278 ⟨"HullyardSurveysLaw", "isPolygon", "(I)Z"⟩ : Cond) ∈ GW := gw4 13 rfl rfl
set_option maxRecDepth 20000 in
theorem w_773 : (.instanceMethod ⟨"HullyardSurveysLaw", "isPolygon", "(I)Z"⟩ : Cond) ∈ GW := gw4 15 rfl rfl
set_option maxRecDepth 20000 in
theorem w_774 : (.code ⟨"HullyardSurveysLaw", "isPolygon", "(I)Z"⟩ method_17_code 7 (some .boolean) : Cond) ∈ GW := gw4 16 rfl rfl
set_option maxRecDepth 20000 in
theorem w_775 : (.methodLink "HullyardSurveysLaw" 183 ⟨"HullyardSurveys", "polygonArea", "(I)I"⟩ : Cond) ∈ GW := gw4 17 rfl rfl
set_option maxRecDepth 20000 in
theorem w_776 : (.instanceMethod ⟨"HullyardSurveys", "polygonArea", "(I)I"⟩ : Cond) ∈ GW := gw4 18 rfl rfl
set_option maxRecDepth 20000 in
theorem w_777 : (.selects "HullyardSurveys" ⟨"HullyardSurveys", "polygonArea", "(I)I"⟩ ⟨"HullyardSurveys", "polygonArea", "(I)I"⟩ : Cond) ∈ GW := gw4 19 rfl rfl
set_option maxRecDepth 20000 in
theorem w_778 : (.code ⟨"HullyardSurveys", "polygonArea", "(I)I"⟩ prog_1_method_25_code 2 (some .int) : Cond) ∈ GW := gw4 20 rfl rfl
set_option maxRecDepth 20000 in
theorem w_779 : (.methodLink "HullyardSurveysLaw" 186 ⟨"HullyardSurveys", "hullOf", "(I)I"⟩ : Cond) ∈ GW := gw4 21 rfl rfl
set_option maxRecDepth 20000 in
theorem w_780 : (.instanceMethod ⟨"HullyardSurveys", "hullOf", "(I)I"⟩ : Cond) ∈ GW := gw4 22 rfl rfl
set_option maxRecDepth 20000 in
theorem w_781 : (.selects "HullyardSurveys" ⟨"HullyardSurveys", "hullOf", "(I)I"⟩ ⟨"HullyardSurveys", "hullOf", "(I)I"⟩ : Cond) ∈ GW := gw4 23 rfl rfl
set_option maxRecDepth 20000 in
theorem w_782 : (.code ⟨"HullyardSurveys", "hullOf", "(I)I"⟩ prog_1_method_14_code 4 (some .int) : Cond) ∈ GW := gw4 24 rfl rfl
set_option maxRecDepth 20000 in
theorem w_784 : (.methodLink "HullyardSurveysLaw" 189 ⟨"HullyardSurveys", "isSimple", "(I)Z"⟩ : Cond) ∈ GW := gw4 26 rfl rfl
set_option maxRecDepth 20000 in
theorem w_785 : (.instanceMethod ⟨"HullyardSurveys", "isSimple", "(I)Z"⟩ : Cond) ∈ GW := gw4 27 rfl rfl
set_option maxRecDepth 20000 in
theorem w_786 : (.selects "HullyardSurveys" ⟨"HullyardSurveys", "isSimple", "(I)Z"⟩ ⟨"HullyardSurveys", "isSimple", "(I)Z"⟩ : Cond) ∈ GW := gw4 28 rfl rfl
set_option maxRecDepth 20000 in
theorem w_787 : (.code ⟨"HullyardSurveys", "isSimple", "(I)Z"⟩ prog_1_method_24_code 2 (some .boolean) : Cond) ∈ GW := gw4 29 rfl rfl
set_option maxRecDepth 20000 in
theorem w_788 : (.methodLink "HullyardSurveys" 206 ⟨"HullyardSurveys$Shapes", "closesSimply", "(LHullyardSurveys$Row;)Z"⟩ : Cond) ∈ GW := gw4 30 rfl rfl
set_option maxRecDepth 20000 in
theorem w_789 : (.static ⟨"HullyardSurveys$Shapes", "closesSimply", "(LHullyardSurveys$Row;)Z"⟩ : Cond) ∈ GW := gw4 31 rfl rfl
set_option maxRecDepth 20000 in
theorem w_790 : (.code ⟨"HullyardSurveys$Shapes", "closesSimply", "(LHullyardSurveys$Row;)Z"⟩ prog_7_method_13_code 4 (some .boolean) : Cond) ∈ GW := gw4 32 rfl rfl
set_option maxRecDepth 20000 in
theorem w_791 : (.methodLink "HullyardSurveys$Shapes" 72 ⟨"HullyardSurveys$Shapes", "foldsBack", "(LHullyardSurveys$Row;I)Z"⟩ : Cond) ∈ GW := gw4 33 rfl rfl
set_option maxRecDepth 20000 in
theorem w_792 : (.static ⟨"HullyardSurveys$Shapes", "foldsBack", "(LHullyardSurveys$Row;I)Z"⟩ : Cond) ∈ GW := gw4 34 rfl rfl
set_option maxRecDepth 20000 in
theorem w_793 : (.code ⟨"HullyardSurveys$Shapes", "foldsBack", "(LHullyardSurveys$Row;I)Z"⟩ prog_7_method_14_code 4 (some .boolean) : Cond) ∈ GW := gw4 35 rfl rfl
set_option maxRecDepth 20000 in
theorem w_794 : (.methodLink "HullyardSurveys$Shapes" 80 ⟨"HullyardSurveys$Row", "previous", "(I)I"⟩ : Cond) ∈ GW := gw4 36 rfl rfl
set_option maxRecDepth 20000 in
theorem w_795 : (.instanceMethod ⟨"HullyardSurveys$Row", "previous", "(I)I"⟩ : Cond) ∈ GW := gw4 37 rfl rfl
set_option maxRecDepth 20000 in
theorem w_796 : (.selects "HullyardSurveys$Row" ⟨"HullyardSurveys$Row", "previous", "(I)I"⟩ ⟨"HullyardSurveys$Row", "previous", "(I)I"⟩ : Cond) ∈ GW := gw4 38 rfl rfl
set_option maxRecDepth 20000 in
theorem w_797 : (.code ⟨"HullyardSurveys$Row", "previous", "(I)I"⟩ prog_6_method_8_code 2 (some .int) : Cond) ∈ GW := gw4 39 rfl rfl
set_option maxRecDepth 20000 in
theorem w_798 : (.methodLink "HullyardSurveys$Shapes" 83 ⟨"HullyardSurveys$Plane", "isBetween", "(LHullyardSurveys$Row;IILHullyardSurveys$Row;I)Z"⟩ : Cond) ∈ GW := gw4 40 rfl rfl
set_option maxRecDepth 20000 in
theorem w_799 : (.methodLink "HullyardSurveys$Shapes" 76 ⟨"HullyardSurveys$Plane", "meet", "(LHullyardSurveys$Row;IILHullyardSurveys$Row;II)Z"⟩ : Cond) ∈ GW := gw4 41 rfl rfl
set_option maxRecDepth 20000 in
theorem w_800 : (.methodLink "HullyardSurveysLaw" 192 ⟨"HullyardSurveysLaw", "isTouched", "()Z"⟩ : Cond) ∈ GW := gw4 42 rfl rfl
set_option maxRecDepth 20000 in
theorem w_802 : (.instanceMethod ⟨"HullyardSurveysLaw", "isTouched", "()Z"⟩ : Cond) ∈ GW := gw4 44 rfl rfl
set_option maxRecDepth 20000 in
theorem w_803 : (.code ⟨"HullyardSurveysLaw", "isTouched", "()Z"⟩ method_18_code 9 (some .boolean) : Cond) ∈ GW := gw4 45 rfl rfl
set_option maxRecDepth 20000 in
theorem w_804 : (.methodLink "HullyardSurveysLaw" 213 ⟨"HullyardSurveys", "clearLines", "()I"⟩ : Cond) ∈ GW := gw4 46 rfl rfl
set_option maxRecDepth 20000 in
theorem w_805 : (.instanceMethod ⟨"HullyardSurveys", "clearLines", "()I"⟩ : Cond) ∈ GW := gw4 47 rfl rfl
set_option maxRecDepth 20000 in
theorem w_806 : (.selects "HullyardSurveys" ⟨"HullyardSurveys", "clearLines", "()I"⟩ ⟨"HullyardSurveys", "clearLines", "()I"⟩ : Cond) ∈ GW := gw4 48 rfl rfl
set_option maxRecDepth 20000 in
theorem w_807 : (.code ⟨"HullyardSurveys", "clearLines", "()I"⟩ prog_1_method_35_code 2 (some .int) : Cond) ∈ GW := gw4 49 rfl rfl
set_option maxRecDepth 20000 in
theorem w_808 : (.methodLink "HullyardSurveys" 229 ⟨"HullyardSurveys$Yard", "lineCount", "()I"⟩ : Cond) ∈ GW := gw4 50 rfl rfl
set_option maxRecDepth 20000 in
theorem w_809 : (.instanceMethod ⟨"HullyardSurveys$Yard", "lineCount", "()I"⟩ : Cond) ∈ GW := gw4 51 rfl rfl
set_option maxRecDepth 20000 in
theorem w_810 : (.selects "HullyardSurveys$Yard" ⟨"HullyardSurveys$Yard", "lineCount", "()I"⟩ ⟨"HullyardSurveys$Yard", "lineCount", "()I"⟩ : Cond) ∈ GW := gw4 52 rfl rfl
set_option maxRecDepth 20000 in
theorem w_811 : (.code ⟨"HullyardSurveys$Yard", "lineCount", "()I"⟩ prog_8_method_8_code 1 (some .int) : Cond) ∈ GW := gw4 53 rfl rfl
set_option maxRecDepth 20000 in
theorem w_812 : (.methodLink "HullyardSurveysLaw" 216 ⟨"HullyardSurveys", "line", "(IIII)I"⟩ : Cond) ∈ GW := gw4 54 rfl rfl
set_option maxRecDepth 20000 in
theorem w_813 : (.instanceMethod ⟨"HullyardSurveys", "line", "(IIII)I"⟩ : Cond) ∈ GW := gw4 55 rfl rfl
set_option maxRecDepth 20000 in
theorem w_814 : (.selects "HullyardSurveys" ⟨"HullyardSurveys", "line", "(IIII)I"⟩ ⟨"HullyardSurveys", "line", "(IIII)I"⟩ : Cond) ∈ GW := gw4 56 rfl rfl
set_option maxRecDepth 20000 in
theorem w_815 : (.code ⟨"HullyardSurveys", "line", "(IIII)I"⟩ prog_1_method_34_code 5 (some .int) : Cond) ∈ GW := gw4 57 rfl rfl
set_option maxRecDepth 20000 in
theorem w_817 : (.methodLink "HullyardSurveysLaw" 220 ⟨"HullyardSurveys", "cross", "(II)Z"⟩ : Cond) ∈ GW := gw4 59 rfl rfl
set_option maxRecDepth 20000 in
theorem w_818 : (.instanceMethod ⟨"HullyardSurveys", "cross", "(II)Z"⟩ : Cond) ∈ GW := gw4 60 rfl rfl
set_option maxRecDepth 20000 in
theorem w_819 : (.selects "HullyardSurveys" ⟨"HullyardSurveys", "cross", "(II)Z"⟩ ⟨"HullyardSurveys", "cross", "(II)Z"⟩ : Cond) ∈ GW := gw4 61 rfl rfl
set_option maxRecDepth 20000 in
theorem w_820 : (.code ⟨"HullyardSurveys", "cross", "(II)Z"⟩ prog_1_method_36_code 3 (some .boolean) : Cond) ∈ GW := gw4 62 rfl rfl
set_option maxRecDepth 20000 in
theorem w_821 : (.methodLink "HullyardSurveys" 237 ⟨"HullyardSurveys", "requireLine", "(I)V"⟩ : Cond) ∈ GW := gw4 63 rfl rfl
set_option maxRecDepth 20000 in
theorem w_823 : (.instanceMethod ⟨"HullyardSurveys", "requireLine", "(I)V"⟩ : Cond) ∈ GW := gw4 65 rfl rfl
set_option maxRecDepth 20000 in
theorem w_824 : (.code ⟨"HullyardSurveys", "requireLine", "(I)V"⟩ prog_1_method_53_code 2 none : Cond) ∈ GW := gw4 66 rfl rfl
set_option maxRecDepth 20000 in
theorem w_826 : (.methodLink "HullyardSurveys" 240 ⟨"HullyardSurveys$Yard", "linesMeet", "(II)Z"⟩ : Cond) ∈ GW := gw4 68 rfl rfl
set_option maxRecDepth 20000 in
theorem w_827 : (.instanceMethod ⟨"HullyardSurveys$Yard", "linesMeet", "(II)Z"⟩ : Cond) ∈ GW := gw4 69 rfl rfl
set_option maxRecDepth 20000 in
theorem w_828 : (.selects "HullyardSurveys$Yard" ⟨"HullyardSurveys$Yard", "linesMeet", "(II)Z"⟩ ⟨"HullyardSurveys$Yard", "linesMeet", "(II)Z"⟩ : Cond) ∈ GW := gw4 70 rfl rfl
set_option maxRecDepth 20000 in
theorem w_829 : (.code ⟨"HullyardSurveys$Yard", "linesMeet", "(II)Z"⟩ prog_8_method_9_code 3 (some .boolean) : Cond) ∈ GW := gw4 71 rfl rfl
set_option maxRecDepth 20000 in
theorem w_830 : (.methodLink "HullyardSurveys$Yard" 52 ⟨"HullyardSurveys$Plane", "meet", "(LHullyardSurveys$Row;IILHullyardSurveys$Row;II)Z"⟩ : Cond) ∈ GW := gw4 72 rfl rfl
set_option maxRecDepth 20000 in
theorem w_831 : (.methodLink "HullyardSurveysLaw" 195 ⟨"HullyardSurveys", "polygonInner", "(I)I"⟩ : Cond) ∈ GW := gw4 73 rfl rfl
set_option maxRecDepth 20000 in
theorem w_832 : (.instanceMethod ⟨"HullyardSurveys", "polygonInner", "(I)I"⟩ : Cond) ∈ GW := gw4 74 rfl rfl
set_option maxRecDepth 20000 in
theorem w_833 : (.selects "HullyardSurveys" ⟨"HullyardSurveys", "polygonInner", "(I)I"⟩ ⟨"HullyardSurveys", "polygonInner", "(I)I"⟩ : Cond) ∈ GW := gw4 75 rfl rfl
set_option maxRecDepth 20000 in
theorem w_834 : (.code ⟨"HullyardSurveys", "polygonInner", "(I)I"⟩ prog_1_method_27_code 2 (some .int) : Cond) ∈ GW := gw4 76 rfl rfl
set_option maxRecDepth 20000 in
theorem w_835 : (.methodLink "HullyardSurveys" 210 ⟨"HullyardSurveys", "requireSimple", "(I)LHullyardSurveys$Row;"⟩ : Cond) ∈ GW := gw4 77 rfl rfl
set_option maxRecDepth 20000 in
theorem w_837 : (.instanceMethod ⟨"HullyardSurveys", "requireSimple", "(I)LHullyardSurveys$Row;"⟩ : Cond) ∈ GW := gw4 79 rfl rfl
set_option maxRecDepth 20000 in
theorem w_838 : (.code ⟨"HullyardSurveys", "requireSimple", "(I)LHullyardSurveys$Row;"⟩ prog_1_method_59_code 3 (some (.object "HullyardSurveys$Row")) : Cond) ∈ GW := gw4 80 rfl rfl
set_option maxRecDepth 20000 in
theorem w_840 : (.methodLink "HullyardSurveysLaw" 198 ⟨"HullyardSurveys", "polygonEdge", "(I)I"⟩ : Cond) ∈ GW := gw4 82 rfl rfl
set_option maxRecDepth 20000 in
theorem w_841 : (.instanceMethod ⟨"HullyardSurveys", "polygonEdge", "(I)I"⟩ : Cond) ∈ GW := gw4 83 rfl rfl
set_option maxRecDepth 20000 in
theorem w_842 : (.selects "HullyardSurveys" ⟨"HullyardSurveys", "polygonEdge", "(I)I"⟩ ⟨"HullyardSurveys", "polygonEdge", "(I)I"⟩ : Cond) ∈ GW := gw4 84 rfl rfl
set_option maxRecDepth 20000 in
theorem w_843 : (.code ⟨"HullyardSurveys", "polygonEdge", "(I)I"⟩ prog_1_method_26_code 2 (some .int) : Cond) ∈ GW := gw4 85 rfl rfl
set_option maxRecDepth 20000 in
theorem w_844 : (.methodLink "HullyardSurveysLaw" 201 ⟨"HullyardSurveys", "polygonLies", "(III)I"⟩ : Cond) ∈ GW := gw4 86 rfl rfl
set_option maxRecDepth 20000 in
theorem w_845 : (.instanceMethod ⟨"HullyardSurveys", "polygonLies", "(III)I"⟩ : Cond) ∈ GW := gw4 87 rfl rfl
set_option maxRecDepth 20000 in
theorem w_846 : (.selects "HullyardSurveys" ⟨"HullyardSurveys", "polygonLies", "(III)I"⟩ ⟨"HullyardSurveys", "polygonLies", "(III)I"⟩ : Cond) ∈ GW := gw4 88 rfl rfl
set_option maxRecDepth 20000 in
theorem w_847 : (.code ⟨"HullyardSurveys", "polygonLies", "(III)I"⟩ prog_1_method_28_code 4 (some .int) : Cond) ∈ GW := gw4 89 rfl rfl
set_option maxRecDepth 20000 in
theorem w_848 : (.methodLink "HullyardSurveysLaw" 204 ⟨"HullyardSurveys", "holds", "(II)I"⟩ : Cond) ∈ GW := gw4 90 rfl rfl
set_option maxRecDepth 20000 in
theorem w_849 : (.instanceMethod ⟨"HullyardSurveys", "holds", "(II)I"⟩ : Cond) ∈ GW := gw4 91 rfl rfl
set_option maxRecDepth 20000 in
theorem w_850 : (.selects "HullyardSurveys" ⟨"HullyardSurveys", "holds", "(II)I"⟩ ⟨"HullyardSurveys", "holds", "(II)I"⟩ : Cond) ∈ GW := gw4 92 rfl rfl
set_option maxRecDepth 20000 in
theorem w_851 : (.code ⟨"HullyardSurveys", "holds", "(II)I"⟩ prog_1_method_29_code 6 (some .int) : Cond) ∈ GW := gw4 93 rfl rfl
set_option maxRecDepth 20000 in
theorem w_852 : (.methodLink "HullyardSurveysLaw" 207 ⟨"HullyardSurveysLaw", "isParted", "(II)Z"⟩ : Cond) ∈ GW := gw4 94 rfl rfl
set_option maxRecDepth 20000 in
theorem w_854 : (.instanceMethod ⟨"HullyardSurveysLaw", "isParted", "(II)Z"⟩ : Cond) ∈ GW := gw4 96 rfl rfl
set_option maxRecDepth 20000 in
theorem w_855 : (.code ⟨"HullyardSurveysLaw", "isParted", "(II)Z"⟩ method_19_code 10 (some .boolean) : Cond) ∈ GW := gw4 97 rfl rfl
set_option maxRecDepth 20000 in
theorem w_856 : (.methodLink "HullyardSurveysLaw" 223 ⟨"HullyardSurveys", "triangles", "(I)I"⟩ : Cond) ∈ GW := gw4 98 rfl rfl
set_option maxRecDepth 20000 in
theorem w_857 : (.instanceMethod ⟨"HullyardSurveys", "triangles", "(I)I"⟩ : Cond) ∈ GW := gw4 99 rfl rfl
set_option maxRecDepth 20000 in
theorem w_858 : (.selects "HullyardSurveys" ⟨"HullyardSurveys", "triangles", "(I)I"⟩ ⟨"HullyardSurveys", "triangles", "(I)I"⟩ : Cond) ∈ GW := gw4 100 rfl rfl
set_option maxRecDepth 20000 in
theorem w_859 : (.code ⟨"HullyardSurveys", "triangles", "(I)I"⟩ prog_1_method_30_code 2 (some .int) : Cond) ∈ GW := gw4 101 rfl rfl
set_option maxRecDepth 20000 in
theorem w_860 : (.methodLink "HullyardSurveys" 213 ⟨"HullyardSurveys$Parting", "part", "(LHullyardSurveys$Row;)V"⟩ : Cond) ∈ GW := gw4 102 rfl rfl
set_option maxRecDepth 20000 in
theorem w_861 : (.instanceMethod ⟨"HullyardSurveys$Parting", "part", "(LHullyardSurveys$Row;)V"⟩ : Cond) ∈ GW := gw4 103 rfl rfl
set_option maxRecDepth 20000 in
theorem w_862 : (.selects "HullyardSurveys$Parting" ⟨"HullyardSurveys$Parting", "part", "(LHullyardSurveys$Row;)V"⟩ ⟨"HullyardSurveys$Parting", "part", "(LHullyardSurveys$Row;)V"⟩ : Cond) ∈ GW := gw4 104 rfl rfl
set_option maxRecDepth 20000 in
theorem w_863 : (.code ⟨"HullyardSurveys$Parting", "part", "(LHullyardSurveys$Row;)V"⟩ prog_4_method_2_code 5 none : Cond) ∈ GW := gw4 105 rfl rfl
set_option maxRecDepth 20000 in
theorem w_864 : (.methodLink "HullyardSurveys$Parting" 32 ⟨"HullyardSurveys$Row", "copyFrom", "(LHullyardSurveys$Row;)V"⟩ : Cond) ∈ GW := gw4 106 rfl rfl
set_option maxRecDepth 20000 in
theorem w_865 : (.instanceMethod ⟨"HullyardSurveys$Row", "copyFrom", "(LHullyardSurveys$Row;)V"⟩ : Cond) ∈ GW := gw4 107 rfl rfl
set_option maxRecDepth 20000 in
theorem w_866 : (.selects "HullyardSurveys$Row" ⟨"HullyardSurveys$Row", "copyFrom", "(LHullyardSurveys$Row;)V"⟩ ⟨"HullyardSurveys$Row", "copyFrom", "(LHullyardSurveys$Row;)V"⟩ : Cond) ∈ GW := gw4 108 rfl rfl
set_option maxRecDepth 20000 in
theorem w_867 : (.code ⟨"HullyardSurveys$Row", "copyFrom", "(LHullyardSurveys$Row;)V"⟩ prog_6_method_15_code 3 none : Cond) ∈ GW := gw4 109 rfl rfl
set_option maxRecDepth 20000 in
theorem w_868 : (.methodLink "HullyardSurveys$Row" 47 ⟨"HullyardSurveys$Row", "reset", "()V"⟩ : Cond) ∈ GW := gw4 110 rfl rfl
set_option maxRecDepth 20000 in
theorem w_869 : (.methodLink "HullyardSurveys$Row" 50 ⟨"HullyardSurveys$Row", "append", "(III)V"⟩ : Cond) ∈ GW := gw4 111 rfl rfl
set_option maxRecDepth 20000 in
theorem w_870 : (.methodLink "HullyardSurveys$Parting" 36 ⟨"HullyardSurveys$Shapes", "doubledArea", "(LHullyardSurveys$Row;)I"⟩ : Cond) ∈ GW := gw4 112 rfl rfl
set_option maxRecDepth 20000 in
theorem w_871 : (.methodLink "HullyardSurveys$Parting" 42 ⟨"HullyardSurveys$Plane", "signOf", "(J)I"⟩ : Cond) ∈ GW := gw4 113 rfl rfl
set_option maxRecDepth 20000 in
theorem w_872 : (.methodLink "HullyardSurveys$Parting" 48 ⟨"HullyardSurveys$Row", "size", "()I"⟩ : Cond) ∈ GW := gw4 114 rfl rfl
set_option maxRecDepth 20000 in
theorem w_873 : (.methodLink "HullyardSurveys$Parting" 52 ⟨"HullyardSurveys$Parting", "firstEar", "(I)I"⟩ : Cond) ∈ GW := gw4 115 rfl rfl
set_option maxRecDepth 20000 in
theorem w_875 : (.instanceMethod ⟨"HullyardSurveys$Parting", "firstEar", "(I)I"⟩ : Cond) ∈ GW := gw4 117 rfl rfl
set_option maxRecDepth 20000 in
theorem w_876 : (.code ⟨"HullyardSurveys$Parting", "firstEar", "(I)I"⟩ prog_4_method_7_code 3 (some .int) : Cond) ∈ GW := gw4 118 rfl rfl
set_option maxRecDepth 20000 in
theorem w_877 : (.methodLink "HullyardSurveys$Parting" 82 ⟨"HullyardSurveys$Parting", "isEar", "(II)Z"⟩ : Cond) ∈ GW := gw4 119 rfl rfl
set_option maxRecDepth 20000 in
theorem w_879 : (.instanceMethod ⟨"HullyardSurveys$Parting", "isEar", "(II)Z"⟩ : Cond) ∈ GW := gw4 121 rfl rfl
set_option maxRecDepth 20000 in
theorem w_880 : (.code ⟨"HullyardSurveys$Parting", "isEar", "(II)Z"⟩ prog_4_method_8_code 7 (some .boolean) : Cond) ∈ GW := gw4 122 rfl rfl
set_option maxRecDepth 20000 in
theorem w_881 : (.methodLink "HullyardSurveys$Parting" 56 ⟨"HullyardSurveys$Row", "previous", "(I)I"⟩ : Cond) ∈ GW := gw4 123 rfl rfl
set_option maxRecDepth 20000 in
theorem w_882 : (.methodLink "HullyardSurveys$Parting" 59 ⟨"HullyardSurveys$Row", "next", "(I)I"⟩ : Cond) ∈ GW := gw4 124 rfl rfl
set_option maxRecDepth 20000 in
theorem w_883 : (.methodLink "HullyardSurveys$Parting" 86 ⟨"HullyardSurveys$Plane", "side", "(LHullyardSurveys$Row;IILHullyardSurveys$Row;I)I"⟩ : Cond) ∈ GW := gw4 125 rfl rfl
set_option maxRecDepth 20000 in
theorem w_884 : (.methodLink "HullyardSurveys$Parting" 62 ⟨"HullyardSurveys$Parting", "keepTriangle", "(III)V"⟩ : Cond) ∈ GW := gw4 126 rfl rfl
set_option maxRecDepth 20000 in
theorem w_886 : (.instanceMethod ⟨"HullyardSurveys$Parting", "keepTriangle", "(III)V"⟩ : Cond) ∈ GW := gw4 128 rfl rfl
set_option maxRecDepth 20000 in
theorem w_887 : (.code ⟨"HullyardSurveys$Parting", "keepTriangle", "(III)V"⟩ prog_4_method_6_code 4 none : Cond) ∈ GW := gw4 129 rfl rfl
set_option maxRecDepth 20000 in
theorem w_888 : (.methodLink "HullyardSurveys$Parting" 69 ⟨"HullyardSurveys$Row", "markAt", "(I)I"⟩ : Cond) ∈ GW := gw4 130 rfl rfl
set_option maxRecDepth 20000 in
theorem w_889 : (.methodLink "HullyardSurveys$Parting" 72 ⟨"HullyardSurveys$Shapes", "twistOf", "(LHullyardSurveys$Row;III)J"⟩ : Cond) ∈ GW := gw4 131 rfl rfl
set_option maxRecDepth 20000 in
theorem w_890 : (.methodLink "HullyardSurveys$Parting" 76 ⟨"java/lang/Math", "abs", "(J)J"⟩ : Cond) ∈ GW := gw4 132 rfl rfl
set_option maxRecDepth 20000 in
theorem w_891 : (.methodLink "HullyardSurveys$Parting" 66 ⟨"HullyardSurveys$Row", "remove", "(I)V"⟩ : Cond) ∈ GW := gw4 133 rfl rfl
set_option maxRecDepth 20000 in
theorem w_892 : (.methodLink "HullyardSurveys" 217 ⟨"HullyardSurveys$Parting", "made", "()I"⟩ : Cond) ∈ GW := gw4 134 rfl rfl
set_option maxRecDepth 20000 in
theorem w_893 : (.instanceMethod ⟨"HullyardSurveys$Parting", "made", "()I"⟩ : Cond) ∈ GW := gw4 135 rfl rfl
set_option maxRecDepth 20000 in
theorem w_894 : (.selects "HullyardSurveys$Parting" ⟨"HullyardSurveys$Parting", "made", "()I"⟩ ⟨"HullyardSurveys$Parting", "made", "()I"⟩ : Cond) ∈ GW := gw4 136 rfl rfl
set_option maxRecDepth 20000 in
theorem w_895 : (.code ⟨"HullyardSurveys$Parting", "made", "()I"⟩ prog_4_method_3_code 1 (some .int) : Cond) ∈ GW := gw4 137 rfl rfl
set_option maxRecDepth 20000 in
theorem w_896 : (.methodLink "HullyardSurveysLaw" 226 ⟨"HullyardSurveys", "triangleAt", "(II)I"⟩ : Cond) ∈ GW := gw4 138 rfl rfl
set_option maxRecDepth 20000 in
theorem w_897 : (.instanceMethod ⟨"HullyardSurveys", "triangleAt", "(II)I"⟩ : Cond) ∈ GW := gw4 139 rfl rfl
set_option maxRecDepth 20000 in
theorem w_898 : (.selects "HullyardSurveys" ⟨"HullyardSurveys", "triangleAt", "(II)I"⟩ ⟨"HullyardSurveys", "triangleAt", "(II)I"⟩ : Cond) ∈ GW := gw4 140 rfl rfl
set_option maxRecDepth 20000 in
theorem w_899 : (.code ⟨"HullyardSurveys", "triangleAt", "(II)I"⟩ prog_1_method_31_code 3 (some .int) : Cond) ∈ GW := gw4 141 rfl rfl
set_option maxRecDepth 20000 in
theorem w_901 : (.methodLink "HullyardSurveys" 222 ⟨"HullyardSurveys$Parting", "tellTriangle", "(I)I"⟩ : Cond) ∈ GW := gw4 143 rfl rfl
set_option maxRecDepth 20000 in
theorem w_902 : (.instanceMethod ⟨"HullyardSurveys$Parting", "tellTriangle", "(I)I"⟩ : Cond) ∈ GW := gw4 144 rfl rfl
set_option maxRecDepth 20000 in
theorem w_903 : (.selects "HullyardSurveys$Parting" ⟨"HullyardSurveys$Parting", "tellTriangle", "(I)I"⟩ ⟨"HullyardSurveys$Parting", "tellTriangle", "(I)I"⟩ : Cond) ∈ GW := gw4 145 rfl rfl
set_option maxRecDepth 20000 in
theorem w_904 : (.code ⟨"HullyardSurveys$Parting", "tellTriangle", "(I)I"⟩ prog_4_method_5_code 2 (some .int) : Cond) ∈ GW := gw4 146 rfl rfl
set_option maxRecDepth 20000 in
theorem w_905 : (.methodLink "HullyardSurveysLaw" 229 ⟨"HullyardSurveys", "sees", "(III)Z"⟩ : Cond) ∈ GW := gw4 147 rfl rfl
set_option maxRecDepth 20000 in
theorem w_906 : (.instanceMethod ⟨"HullyardSurveys", "sees", "(III)Z"⟩ : Cond) ∈ GW := gw4 148 rfl rfl
set_option maxRecDepth 20000 in
theorem w_907 : (.selects "HullyardSurveys" ⟨"HullyardSurveys", "sees", "(III)Z"⟩ ⟨"HullyardSurveys", "sees", "(III)Z"⟩ : Cond) ∈ GW := gw4 149 rfl rfl
set_option maxRecDepth 20000 in
theorem w_908 : (.code ⟨"HullyardSurveys", "sees", "(III)Z"⟩ prog_1_method_32_code 5 (some .boolean) : Cond) ∈ GW := gw4 150 rfl rfl
set_option maxRecDepth 20000 in
theorem w_909 : (.methodLink "HullyardSurveys" 225 ⟨"HullyardSurveys$Shapes", "isOpenBetween", "(LHullyardSurveys$Row;II)Z"⟩ : Cond) ∈ GW := gw4 151 rfl rfl
set_option maxRecDepth 20000 in
theorem w_910 : (.static ⟨"HullyardSurveys$Shapes", "isOpenBetween", "(LHullyardSurveys$Row;II)Z"⟩ : Cond) ∈ GW := gw4 152 rfl rfl
set_option maxRecDepth 20000 in
theorem w_911 : (.code ⟨"HullyardSurveys$Shapes", "isOpenBetween", "(LHullyardSurveys$Row;II)Z"⟩ prog_7_method_15_code 5 (some .boolean) : Cond) ∈ GW := gw4 153 rfl rfl
set_option maxRecDepth 20000 in
theorem w_912 : (.methodLink "HullyardSurveys$Shapes" 87 ⟨"HullyardSurveys$Plane", "passThrough", "(LHullyardSurveys$Row;IILHullyardSurveys$Row;II)Z"⟩ : Cond) ∈ GW := gw4 154 rfl rfl
set_option maxRecDepth 20000 in
theorem w_913 : (.methodLink "HullyardSurveys$Shapes" 90 ⟨"HullyardSurveys$Shapes", "whereIsMiddle", "(LHullyardSurveys$Row;II)I"⟩ : Cond) ∈ GW := gw4 155 rfl rfl
set_option maxRecDepth 20000 in
theorem w_914 : (.static ⟨"HullyardSurveys$Shapes", "whereIsMiddle", "(LHullyardSurveys$Row;II)I"⟩ : Cond) ∈ GW := gw4 156 rfl rfl
set_option maxRecDepth 20000 in
theorem w_915 : (.code ⟨"HullyardSurveys$Shapes", "whereIsMiddle", "(LHullyardSurveys$Row;II)I"⟩ prog_7_method_16_code 7 (some .int) : Cond) ∈ GW := gw4 157 rfl rfl
set_option maxRecDepth 20000 in
theorem w_916 : (.methodLink "HullyardSurveys$Shapes" 94 ⟨"HullyardSurveys$Shapes", "whereIs", "(LHullyardSurveys$Row;IJJ)I"⟩ : Cond) ∈ GW := gw4 158 rfl rfl
set_option maxRecDepth 20000 in
theorem w_917 : (.methodLink "HullyardSurveysLaw" 210 ⟨"HullyardSurveysLaw", "isSeen", "(I)Z"⟩ : Cond) ∈ GW := gw4 159 rfl rfl
set_option maxRecDepth 20000 in
theorem w_919 : (.instanceMethod ⟨"HullyardSurveysLaw", "isSeen", "(I)Z"⟩ : Cond) ∈ GW := gw4 161 rfl rfl
set_option maxRecDepth 20000 in
theorem w_920 : (.code ⟨"HullyardSurveysLaw", "isSeen", "(I)Z"⟩ method_20_code 6 (some .boolean) : Cond) ∈ GW := gw4 162 rfl rfl
set_option maxRecDepth 20000 in
theorem w_921 : (.methodLink "HullyardSurveysLaw" 233 ⟨"HullyardSurveys", "view", "(II)I"⟩ : Cond) ∈ GW := gw4 163 rfl rfl
set_option maxRecDepth 20000 in
theorem w_922 : (.instanceMethod ⟨"HullyardSurveys", "view", "(II)I"⟩ : Cond) ∈ GW := gw4 164 rfl rfl
set_option maxRecDepth 20000 in
theorem w_923 : (.selects "HullyardSurveys" ⟨"HullyardSurveys", "view", "(II)I"⟩ ⟨"HullyardSurveys", "view", "(II)I"⟩ : Cond) ∈ GW := gw4 165 rfl rfl
set_option maxRecDepth 20000 in
theorem w_924 : (.code ⟨"HullyardSurveys", "view", "(II)I"⟩ prog_1_method_33_code 6 (some .int) : Cond) ∈ GW := gw4 166 rfl rfl
set_option maxRecDepth 20000 in
theorem w_925 : (.methodLink "HullyardSurveysLaw" 281 ⟨"HullyardSurveysLaw", "areLines", "()Z"⟩ : Cond) ∈ GW := gw4 167 rfl rfl
set_option maxRecDepth 20000 in
theorem w_927 : (.instanceMethod ⟨"HullyardSurveysLaw", "areLines", "()Z"⟩ : Cond) ∈ GW := gw4 169 rfl rfl
set_option maxRecDepth 20000 in
theorem w_928 : (.code ⟨"HullyardSurveysLaw", "areLines", "()Z"⟩ method_21_code 7 (some .boolean) : Cond) ∈ GW := gw4 170 rfl rfl
set_option maxRecDepth 20000 in
theorem w_929 : (.methodLink "HullyardSurveysLaw" 236 ⟨"HullyardSurveys", "crossingAt", "(I)I"⟩ : Cond) ∈ GW := gw4 171 rfl rfl
set_option maxRecDepth 20000 in
theorem w_930 : (.instanceMethod ⟨"HullyardSurveys", "crossingAt", "(I)I"⟩ : Cond) ∈ GW := gw4 172 rfl rfl
set_option maxRecDepth 20000 in
theorem w_931 : (.selects "HullyardSurveys" ⟨"HullyardSurveys", "crossingAt", "(I)I"⟩ ⟨"HullyardSurveys", "crossingAt", "(I)I"⟩ : Cond) ∈ GW := gw4 173 rfl rfl
set_option maxRecDepth 20000 in
theorem w_932 : (.code ⟨"HullyardSurveys", "crossingAt", "(I)I"⟩ prog_1_method_38_code 5 (some .int) : Cond) ∈ GW := gw4 174 rfl rfl
set_option maxRecDepth 20000 in
theorem w_934 : (.methodLink "HullyardSurveysLaw" 239 ⟨"HullyardSurveys", "crossings", "()I"⟩ : Cond) ∈ GW := gw4 176 rfl rfl
set_option maxRecDepth 20000 in
theorem w_935 : (.instanceMethod ⟨"HullyardSurveys", "crossings", "()I"⟩ : Cond) ∈ GW := gw4 177 rfl rfl
set_option maxRecDepth 20000 in
theorem w_936 : (.selects "HullyardSurveys" ⟨"HullyardSurveys", "crossings", "()I"⟩ ⟨"HullyardSurveys", "crossings", "()I"⟩ : Cond) ∈ GW := gw4 178 rfl rfl
set_option maxRecDepth 20000 in
theorem w_937 : (.code ⟨"HullyardSurveys", "crossings", "()I"⟩ prog_1_method_37_code 4 (some .int) : Cond) ∈ GW := gw4 179 rfl rfl
set_option maxRecDepth 20000 in
theorem w_938 : (.methodLink "HullyardSurveysLaw" 284 ⟨"HullyardSurveysLaw", "isRestored", "()Z"⟩ : Cond) ∈ GW := gw4 180 rfl rfl
set_option maxRecDepth 20000 in
theorem w_940 : (.instanceMethod ⟨"HullyardSurveysLaw", "isRestored", "()Z"⟩ : Cond) ∈ GW := gw4 182 rfl rfl
set_option maxRecDepth 20000 in
theorem w_941 : (.code ⟨"HullyardSurveysLaw", "isRestored", "()Z"⟩ method_22_code 3 (some .boolean) : Cond) ∈ GW := gw4 183 rfl rfl
set_option maxRecDepth 20000 in
theorem w_942 : (.methodLink "HullyardSurveysLaw" 242 ⟨"HullyardSurveys", "image", "()I"⟩ : Cond) ∈ GW := gw4 184 rfl rfl
set_option maxRecDepth 20000 in
theorem w_943 : (.instanceMethod ⟨"HullyardSurveys", "image", "()I"⟩ : Cond) ∈ GW := gw4 185 rfl rfl
set_option maxRecDepth 20000 in
theorem w_944 : (.selects "HullyardSurveys" ⟨"HullyardSurveys", "image", "()I"⟩ ⟨"HullyardSurveys", "image", "()I"⟩ : Cond) ∈ GW := gw4 186 rfl rfl
set_option maxRecDepth 20000 in
theorem w_945 : (.code ⟨"HullyardSurveys", "image", "()I"⟩ prog_1_method_44_code 1 (some .int) : Cond) ∈ GW := gw4 187 rfl rfl
set_option maxRecDepth 20000 in
theorem w_946 : (.methodLink "HullyardSurveys" 270 ⟨"HullyardSurveys$Yard", "copyFrom", "(LHullyardSurveys$Yard;)V"⟩ : Cond) ∈ GW := gw4 188 rfl rfl
set_option maxRecDepth 20000 in
theorem w_947 : (.instanceMethod ⟨"HullyardSurveys$Yard", "copyFrom", "(LHullyardSurveys$Yard;)V"⟩ : Cond) ∈ GW := gw4 189 rfl rfl
set_option maxRecDepth 20000 in
theorem w_948 : (.selects "HullyardSurveys$Yard" ⟨"HullyardSurveys$Yard", "copyFrom", "(LHullyardSurveys$Yard;)V"⟩ ⟨"HullyardSurveys$Yard", "copyFrom", "(LHullyardSurveys$Yard;)V"⟩ : Cond) ∈ GW := gw4 190 rfl rfl
set_option maxRecDepth 20000 in
theorem w_949 : (.code ⟨"HullyardSurveys$Yard", "copyFrom", "(LHullyardSurveys$Yard;)V"⟩ prog_8_method_10_code 3 none : Cond) ∈ GW := gw4 191 rfl rfl
set_option maxRecDepth 20000 in
theorem w_950 : (.methodLink "HullyardSurveys$Yard" 58 ⟨"HullyardSurveys$Row", "copyFrom", "(LHullyardSurveys$Row;)V"⟩ : Cond) ∈ GW := gw4 192 rfl rfl
set_option maxRecDepth 20000 in
theorem w_951 : (.methodLink "HullyardSurveys$Yard" 62 ⟨"HullyardSurveys$Yard", "polygonAt", "(I)LHullyardSurveys$Row;"⟩ : Cond) ∈ GW := gw4 193 rfl rfl
set_option maxRecDepth 20000 in
theorem w_952 : (.methodLink "HullyardSurveysLaw" 245 ⟨"HullyardSurveys", "drop", "(I)I"⟩ : Cond) ∈ GW := gw4 194 rfl rfl
set_option maxRecDepth 20000 in
theorem w_953 : (.instanceMethod ⟨"HullyardSurveys", "drop", "(I)I"⟩ : Cond) ∈ GW := gw4 195 rfl rfl
set_option maxRecDepth 20000 in
theorem w_954 : (.selects "HullyardSurveys" ⟨"HullyardSurveys", "drop", "(I)I"⟩ ⟨"HullyardSurveys", "drop", "(I)I"⟩ : Cond) ∈ GW := gw4 196 rfl rfl
set_option maxRecDepth 20000 in
theorem w_955 : (.code ⟨"HullyardSurveys", "drop", "(I)I"⟩ prog_1_method_3_code 3 (some .int) : Cond) ∈ GW := gw4 197 rfl rfl
set_option maxRecDepth 20000 in
theorem w_956 : (.methodLink "HullyardSurveys" 90 ⟨"HullyardSurveys$Row", "mark", "(II)V"⟩ : Cond) ∈ GW := gw4 198 rfl rfl
set_option maxRecDepth 20000 in
theorem w_957 : (.instanceMethod ⟨"HullyardSurveys$Row", "mark", "(II)V"⟩ : Cond) ∈ GW := gw4 199 rfl rfl
set_option maxRecDepth 20000 in
theorem w_958 : (.selects "HullyardSurveys$Row" ⟨"HullyardSurveys$Row", "mark", "(II)V"⟩ ⟨"HullyardSurveys$Row", "mark", "(II)V"⟩ : Cond) ∈ GW := gw4 200 rfl rfl
set_option maxRecDepth 20000 in
theorem w_959 : (.code ⟨"HullyardSurveys$Row", "mark", "(II)V"⟩ prog_6_method_9_code 3 none : Cond) ∈ GW := gw4 201 rfl rfl
set_option maxRecDepth 20000 in
theorem w_960 : (.methodLink "HullyardSurveysLaw" 248 ⟨"HullyardSurveys", "restore", "()I"⟩ : Cond) ∈ GW := gw4 202 rfl rfl
set_option maxRecDepth 20000 in
theorem w_961 : (.instanceMethod ⟨"HullyardSurveys", "restore", "()I"⟩ : Cond) ∈ GW := gw4 203 rfl rfl
set_option maxRecDepth 20000 in
theorem w_962 : (.selects "HullyardSurveys" ⟨"HullyardSurveys", "restore", "()I"⟩ ⟨"HullyardSurveys", "restore", "()I"⟩ : Cond) ∈ GW := gw4 204 rfl rfl
set_option maxRecDepth 20000 in
theorem w_963 : (.code ⟨"HullyardSurveys", "restore", "()I"⟩ prog_1_method_45_code 1 (some .int) : Cond) ∈ GW := gw4 205 rfl rfl
set_option maxRecDepth 20000 in
theorem w_965 : (.methodLink "HullyardSurveysLaw" 251 ⟨"HullyardSurveys", "errors", "()I"⟩ : Cond) ∈ GW := gw4 207 rfl rfl
set_option maxRecDepth 20000 in
theorem w_966 : (.instanceMethod ⟨"HullyardSurveys", "errors", "()I"⟩ : Cond) ∈ GW := gw4 208 rfl rfl
set_option maxRecDepth 20000 in
theorem w_967 : (.selects "HullyardSurveys" ⟨"HullyardSurveys", "errors", "()I"⟩ ⟨"HullyardSurveys", "errors", "()I"⟩ : Cond) ∈ GW := gw4 209 rfl rfl
set_option maxRecDepth 20000 in
theorem w_968 : (.code ⟨"HullyardSurveys", "errors", "()I"⟩ prog_1_method_49_code 4 (some .int) : Cond) ∈ GW := gw4 210 rfl rfl
set_option maxRecDepth 20000 in
theorem w_969 : (.methodLink "HullyardSurveys" 279 ⟨"HullyardSurveys", "hasStray", "(I)Z"⟩ : Cond) ∈ GW := gw4 211 rfl rfl
set_option maxRecDepth 20000 in
theorem w_971 : (.instanceMethod ⟨"HullyardSurveys", "hasStray", "(I)Z"⟩ : Cond) ∈ GW := gw4 213 rfl rfl
set_option maxRecDepth 20000 in
theorem w_972 : (.code ⟨"HullyardSurveys", "hasStray", "(I)Z"⟩ prog_1_method_63_code 3 (some .boolean) : Cond) ∈ GW := gw4 214 rfl rfl
set_option maxRecDepth 20000 in
theorem w_973 : (.methodLink "HullyardSurveys" 286 ⟨"HullyardSurveys", "faultsOf", "(LHullyardSurveys$Row;)I"⟩ : Cond) ∈ GW := gw4 215 rfl rfl
set_option maxRecDepth 20000 in
theorem w_975 : (.instanceMethod ⟨"HullyardSurveys", "faultsOf", "(LHullyardSurveys$Row;)I"⟩ : Cond) ∈ GW := gw4 217 rfl rfl
set_option maxRecDepth 20000 in
theorem w_976 : (.code ⟨"HullyardSurveys", "faultsOf", "(LHullyardSurveys$Row;)I"⟩ prog_1_method_64_code 4 (some .int) : Cond) ∈ GW := gw4 218 rfl rfl
set_option maxRecDepth 20000 in
theorem w_977 : (.methodLink "HullyardSurveys" 276 ⟨"java/lang/Math", "abs", "(I)I"⟩ : Cond) ∈ GW := gw4 219 rfl rfl
set_option maxRecDepth 20000 in
theorem w_978 : (.methodLink "HullyardSurveys" 310 ⟨"HullyardSurveys$Census", "countInside", "(LHullyardSurveys$Row;)I"⟩ : Cond) ∈ GW := gw4 220 rfl rfl
set_option maxRecDepth 20000 in
theorem w_979 : (.instanceMethod ⟨"HullyardSurveys$Census", "countInside", "(LHullyardSurveys$Row;)I"⟩ : Cond) ∈ GW := gw4 221 rfl rfl
set_option maxRecDepth 20000 in
theorem w_980 : (.selects "HullyardSurveys$Census" ⟨"HullyardSurveys$Census", "countInside", "(LHullyardSurveys$Row;)I"⟩ ⟨"HullyardSurveys$Census", "countInside", "(LHullyardSurveys$Row;)I"⟩ : Cond) ∈ GW := gw4 222 rfl rfl
set_option maxRecDepth 20000 in
theorem w_981 : (.code ⟨"HullyardSurveys$Census", "countInside", "(LHullyardSurveys$Row;)I"⟩ prog_2_method_2_code 5 (some .int) : Cond) ∈ GW := gw4 223 rfl rfl
set_option maxRecDepth 20000 in
theorem w_982 : (.methodLink "HullyardSurveys$Census" 23 ⟨"HullyardSurveys$Shapes", "bound", "(LHullyardSurveys$Row;I)I"⟩ : Cond) ∈ GW := gw4 224 rfl rfl
set_option maxRecDepth 20000 in
theorem w_983 : (.methodLink "HullyardSurveys$Census" 29 ⟨"HullyardSurveys$Census", "cut", "(LHullyardSurveys$Row;IZLHullyardSurveys$Row;)V"⟩ : Cond) ∈ GW := gw4 225 rfl rfl
set_option maxRecDepth 20000 in
theorem w_984 : (.static ⟨"HullyardSurveys$Census", "cut", "(LHullyardSurveys$Row;IZLHullyardSurveys$Row;)V"⟩ : Cond) ∈ GW := gw4 226 rfl rfl
set_option maxRecDepth 20000 in
theorem w_985 : (.code ⟨"HullyardSurveys$Census", "cut", "(LHullyardSurveys$Row;IZLHullyardSurveys$Row;)V"⟩ prog_2_method_3_code 13 none : Cond) ∈ GW := gw4 227 rfl rfl
set_option maxRecDepth 20000 in
theorem w_986 : (.methodLink "HullyardSurveys$Census" 37 ⟨"HullyardSurveys$Row", "reset", "()V"⟩ : Cond) ∈ GW := gw4 228 rfl rfl
set_option maxRecDepth 20000 in
theorem w_987 : (.methodLink "HullyardSurveys$Census" 40 ⟨"HullyardSurveys$Row", "size", "()I"⟩ : Cond) ∈ GW := gw4 229 rfl rfl
set_option maxRecDepth 20000 in
theorem w_988 : (.methodLink "HullyardSurveys$Census" 43 ⟨"HullyardSurveys$Shapes", "riseOf", "(LHullyardSurveys$Row;I)I"⟩ : Cond) ∈ GW := gw4 230 rfl rfl
set_option maxRecDepth 20000 in
theorem w_989 : (.methodLink "HullyardSurveys$Census" 46 ⟨"HullyardSurveys$Row", "next", "(I)I"⟩ : Cond) ∈ GW := gw4 231 rfl rfl
set_option maxRecDepth 20000 in
theorem w_990 : (.methodLink "HullyardSurveys$Census" 50 ⟨"HullyardSurveys$Row", "yAt", "(I)I"⟩ : Cond) ∈ GW := gw4 232 rfl rfl
set_option maxRecDepth 20000 in
theorem w_991 : (.methodLink "HullyardSurveys$Census" 53 ⟨"HullyardSurveys$Row", "xAt", "(I)I"⟩ : Cond) ∈ GW := gw4 233 rfl rfl
set_option maxRecDepth 20000 in
theorem w_992 : (.methodLink "HullyardSurveys$Census" 56 ⟨"java/lang/Math", "floorDiv", "(II)I"⟩ : Cond) ∈ GW := gw4 234 rfl rfl
set_option maxRecDepth 20000 in
theorem w_993 : (.static ⟨"java/lang/Math", "floorDiv", "(II)I"⟩ : Cond) ∈ GW := gw4 235 rfl rfl
set_option maxRecDepth 20000 in
theorem w_994 : (.code ⟨"java/lang/Math", "floorDiv", "(II)I"⟩ prog_17_method_47_code 3 (some .int) : Cond) ∈ GW := gw4 236 rfl rfl
set_option maxRecDepth 20000 in
theorem w_995 : (.methodLink "HullyardSurveys$Census" 62 ⟨"HullyardSurveys$Row", "insertInOrder", "(III)V"⟩ : Cond) ∈ GW := gw4 237 rfl rfl
set_option maxRecDepth 20000 in
theorem w_996 : (.methodLink "HullyardSurveys$Census" 33 ⟨"HullyardSurveys$Census", "countCommon", "()I"⟩ : Cond) ∈ GW := gw4 238 rfl rfl
set_option maxRecDepth 20000 in
theorem w_998 : (.instanceMethod ⟨"HullyardSurveys$Census", "countCommon", "()I"⟩ : Cond) ∈ GW := gw5 0 rfl rfl
set_option maxRecDepth 20000 in
theorem w_999 : (.code ⟨"HullyardSurveys$Census", "countCommon", "()I"⟩ prog_2_method_4_code 6 (some .int) : Cond) ∈ GW := gw5 1 rfl rfl
set_option maxRecDepth 20000 in
theorem w_1000 : (.methodLink "HullyardSurveys$Census" 66 ⟨"HullyardSurveys$Census", "firstInside", "(LHullyardSurveys$Row;I)I"⟩ : Cond) ∈ GW := gw5 2 rfl rfl
set_option maxRecDepth 20000 in
theorem w_1001 : (.static ⟨"HullyardSurveys$Census", "firstInside", "(LHullyardSurveys$Row;I)I"⟩ : Cond) ∈ GW := gw5 3 rfl rfl
set_option maxRecDepth 20000 in
theorem w_1002 : (.code ⟨"HullyardSurveys$Census", "firstInside", "(LHullyardSurveys$Row;I)I"⟩ prog_2_method_5_code 2 (some .int) : Cond) ∈ GW := gw5 4 rfl rfl
set_option maxRecDepth 20000 in
theorem w_1003 : (.methodLink "HullyardSurveys$Census" 69 ⟨"java/lang/Math", "max", "(II)I"⟩ : Cond) ∈ GW := gw5 5 rfl rfl
set_option maxRecDepth 20000 in
theorem w_1004 : (.methodLink "HullyardSurveys$Census" 72 ⟨"HullyardSurveys$Census", "lastInside", "(LHullyardSurveys$Row;I)I"⟩ : Cond) ∈ GW := gw5 6 rfl rfl
set_option maxRecDepth 20000 in
theorem w_1005 : (.static ⟨"HullyardSurveys$Census", "lastInside", "(LHullyardSurveys$Row;I)I"⟩ : Cond) ∈ GW := gw5 7 rfl rfl
set_option maxRecDepth 20000 in
theorem w_1006 : (.code ⟨"HullyardSurveys$Census", "lastInside", "(LHullyardSurveys$Row;I)I"⟩ prog_2_method_6_code 2 (some .int) : Cond) ∈ GW := gw5 8 rfl rfl
set_option maxRecDepth 20000 in
theorem w_1007 : (.methodLink "HullyardSurveys$Census" 75 ⟨"java/lang/Math", "min", "(II)I"⟩ : Cond) ∈ GW := gw5 9 rfl rfl
set_option maxRecDepth 20000 in
theorem w_1008 : (.methodLink "HullyardSurveys" 313 ⟨"HullyardSurveys$Parting", "doubledAreas", "()J"⟩ : Cond) ∈ GW := gw5 10 rfl rfl
set_option maxRecDepth 20000 in
theorem w_1009 : (.instanceMethod ⟨"HullyardSurveys$Parting", "doubledAreas", "()J"⟩ : Cond) ∈ GW := gw5 11 rfl rfl
set_option maxRecDepth 20000 in
theorem w_1010 : (.selects "HullyardSurveys$Parting" ⟨"HullyardSurveys$Parting", "doubledAreas", "()J"⟩ ⟨"HullyardSurveys$Parting", "doubledAreas", "()J"⟩ : Cond) ∈ GW := gw5 12 rfl rfl
set_option maxRecDepth 20000 in
theorem w_1011 : (.code ⟨"HullyardSurveys$Parting", "doubledAreas", "()J"⟩ prog_4_method_4_code 1 (some .long) : Cond) ∈ GW := gw5 13 rfl rfl
set_option maxRecDepth 20000 in
theorem w_1012 : (.methodLink "HullyardSurveysLaw" 256 ⟨"HullyardSurveysLaw", "stirred", "([I)I"⟩ : Cond) ∈ GW := gw5 14 rfl rfl
set_option maxRecDepth 20000 in
theorem w_1013 : (.static ⟨"HullyardSurveysLaw", "stirred", "([I)I"⟩ : Cond) ∈ GW := gw5 15 rfl rfl
set_option maxRecDepth 20000 in
theorem w_1014 : (.code ⟨"HullyardSurveysLaw", "stirred", "([I)I"⟩ method_23_code 6 (some .int) : Cond) ∈ GW := gw5 16 rfl rfl
