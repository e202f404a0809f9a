/-! TABLES: each method as the layer has it; what its instructions need of the words; by program out of the listing -/
theorem gwl {p : Cond → Prop} {a : Cond} {l : List Cond} (h1 : p a) (h2 : ∀ w ∈ l, p w) : ∀ w ∈ a :: l, p w := List.forall_mem_cons.mpr ⟨h1, h2⟩
set_option maxRecDepth 100000 in
theorem kX0 : g_K 0 RX0 TX0 2 tyX0 := ⟨rfl, show ∀ w ∈ ([.laysFinal RX0 "HullyardSurveys$Census" "above" "LHullyardSurveys$Row;", .laysFinal RX0 "HullyardSurveys$Census" "below" "LHullyardSurveys$Row;"] : List Cond), w ∈ GW from gwl w_166 (gwl w_168 (fun _ h => absurd h List.not_mem_nil)), tyX0_ok, nmX0⟩
set_option maxRecDepth 100000 in
theorem kX2 : g_K 1 RX2 TX2 4 tyX2 := ⟨rfl, show ∀ w ∈ ([.laysFinal RX2 "HullyardSurveys$Parting" "left" "LHullyardSurveys$Row;", .laysFinal RX2 "HullyardSurveys$Parting" "told" "[I", .lays RX2 "HullyardSurveys$Parting" "made" "I", .lays RX2 "HullyardSurveys$Parting" "doubledAreas" "J"] : List Cond), w ∈ GW from gwl w_147 (gwl w_149 (gwl w_151 (gwl w_153 (fun _ h => absurd h List.not_mem_nil)))), tyX2_ok, nmX2⟩
set_option maxRecDepth 100000 in
theorem kX4 : g_K 2 RX4 TX4 4 tyX4 := ⟨rfl, show ∀ w ∈ ([.laysFinal RX4 "HullyardSurveys$Row" "xs" "[I", .laysFinal RX4 "HullyardSurveys$Row" "ys" "[I", .laysFinal RX4 "HullyardSurveys$Row" "marks" "[I", .lays RX4 "HullyardSurveys$Row" "size" "I"] : List Cond), w ∈ GW from gwl w_107 (gwl w_109 (gwl w_111 (gwl w_113 (fun _ h => absurd h List.not_mem_nil)))), tyX4_ok, nmX4⟩
set_option maxRecDepth 100000 in
theorem kX6 : g_K 3 RX6 TX6 4 tyX6 := ⟨rfl, show ∀ w ∈ ([.laysFinal RX6 "HullyardSurveys$Yard" "points" "LHullyardSurveys$Row;", .laysFinal RX6 "HullyardSurveys$Yard" "ends" "LHullyardSurveys$Row;", .laysFinal RX6 "HullyardSurveys$Yard" "polygons" "[LHullyardSurveys$Row;", .laysFinal RX6 "HullyardSurveys$Yard" "blank" "LHullyardSurveys$Row;"] : List Cond), w ∈ GW from gwl w_124 (gwl w_126 (gwl w_128 (gwl w_130 (fun _ h => absurd h List.not_mem_nil)))), tyX6_ok, nmX6⟩
set_option maxRecDepth 100000 in
theorem kX7 : g_K 4 RX7 TX7 10 tyX7 := ⟨rfl, show ∀ w ∈ ([.laysFinal RX7 "HullyardSurveys" "yard" "LHullyardSurveys$Yard;", .laysFinal RX7 "HullyardSurveys" "imaged" "LHullyardSurveys$Yard;", .lays RX7 "HullyardSurveys" "hasImage" "Z", .laysFinal RX7 "HullyardSurveys" "figure" "LHullyardSurveys$Row;", .laysFinal RX7 "HullyardSurveys" "ordered" "LHullyardSurveys$Row;", .laysFinal RX7 "HullyardSurveys" "heights" "LHullyardSurveys$Row;", .laysFinal RX7 "HullyardSurveys" "firstHull" "LHullyardSurveys$Row;", .laysFinal RX7 "HullyardSurveys" "secondHull" "LHullyardSurveys$Row;", .laysFinal RX7 "HullyardSurveys" "parting" "LHullyardSurveys$Parting;", .laysFinal RX7 "HullyardSurveys" "census" "LHullyardSurveys$Census;"] : List Cond), w ∈ GW from gwl w_181 (gwl w_183 (gwl w_185 (gwl w_187 (gwl w_189 (gwl w_191 (gwl w_193 (gwl w_195 (gwl w_197 (gwl w_199 (fun _ h => absurd h List.not_mem_nil)))))))))), tyX7_ok, nmX7⟩
set_option maxRecDepth 100000 in
theorem kX8 : g_K 5 RX8 TX8 45 tyX8 := ⟨rfl, show ∀ w ∈ ([.lays RX8 "HullyardSurveysModel" "thrown" "I", .laysFinal RX8 "HullyardSurveysModel" "heapOf" "[I", .laysFinal RX8 "HullyardSurveysModel" "xs" "[I", .laysFinal RX8 "HullyardSurveysModel" "ys" "[I", .lays RX8 "HullyardSurveysModel" "came" "I", .laysFinal RX8 "HullyardSurveysModel" "px" "[I", .laysFinal RX8 "HullyardSurveysModel" "py" "[I", .lays RX8 "HullyardSurveysModel" "placed" "I", .laysFinal RX8 "HullyardSurveysModel" "hx" "[I", .laysFinal RX8 "HullyardSurveysModel" "hy" "[I", .laysFinal RX8 "HullyardSurveysModel" "corners" "[I", .laysFinal RX8 "HullyardSurveysModel" "isLeft" "[Z", .lays RX8 "HullyardSurveysModel" "widthUp" "J", .lays RX8 "HullyardSurveysModel" "widthDown" "J", .laysFinal RX8 "HullyardSurveysModel" "gx" "[I", .laysFinal RX8 "HullyardSurveysModel" "gy" "[I", .laysFinal RX8 "HullyardSurveysModel" "sides" "[I", .lays RX8 "HullyardSurveysModel" "ax" "I", .lays RX8 "HullyardSurveysModel" "ay" "I", .lays RX8 "HullyardSurveysModel" "bx" "I", .lays RX8 "HullyardSurveysModel" "by" "I", .lays RX8 "HullyardSurveysModel" "cx" "I", .lays RX8 "HullyardSurveysModel" "cy" "I", .lays RX8 "HullyardSurveysModel" "dx" "I", .lays RX8 "HullyardSurveysModel" "dy" "I", .laysFinal RX8 "HullyardSurveysModel" "left" "[I", .laysFinal RX8 "HullyardSurveysModel" "triangle" "[I", .lays RX8 "HullyardSurveysModel" "leftMany" "I", .lays RX8 "HullyardSurveysModel" "triangles" "I", .laysFinal RX8 "HullyardSurveysModel" "lx1" "[I", .laysFinal RX8 "HullyardSurveysModel" "ly1" "[I", .laysFinal RX8 "HullyardSurveysModel" "lx2" "[I", .laysFinal RX8 "HullyardSurveysModel" "ly2" "[I", .lays RX8 "HullyardSurveysModel" "lines" "I", .lays RX8 "HullyardSurveysModel" "found" "I", .laysFinal RX8 "HullyardSurveysModel" "byY" "[I", .laysFinal RX8 "HullyardSurveysModel" "keptHeap" "[I", .laysFinal RX8 "HullyardSurveysModel" "keptX" "[I", .laysFinal RX8 "HullyardSurveysModel" "keptY" "[I", .laysFinal RX8 "HullyardSurveysModel" "keptGx" "[I", .laysFinal RX8 "HullyardSurveysModel" "keptGy" "[I", .laysFinal RX8 "HullyardSurveysModel" "keptSides" "[I", .laysFinal RX8 "HullyardSurveysModel" "keptLines" "[I", .lays RX8 "HullyardSurveysModel" "keptCame" "I", .lays RX8 "HullyardSurveysModel" "keptLineMany" "I"] : List Cond), w ∈ GW from gwl w_1079 (gwl w_1081 (gwl w_1083 (gwl w_1085 (gwl w_1087 (gwl w_1089 (gwl w_1091 (gwl w_1093 (gwl w_1095 (gwl w_1097 (gwl w_1099 (gwl w_1101 (gwl w_1103 (gwl w_1105 (gwl w_1107 (gwl w_1109 (gwl w_1111 (gwl w_1113 (gwl w_1115 (gwl w_1117 (gwl w_1119 (gwl w_1121 (gwl w_1123 (gwl w_1125 (gwl w_1127 (gwl w_1129 (gwl w_1131 (gwl w_1133 (gwl w_1135 (gwl w_1137 (gwl w_1139 (gwl w_1141 (gwl w_1143 (gwl w_1145 (gwl w_1147 (gwl w_1149 (gwl w_1151 (gwl w_1153 (gwl w_1155 (gwl w_1157 (gwl w_1159 (gwl w_1161 (gwl w_1163 (gwl w_1165 (gwl w_1167 (fun _ h => absurd h List.not_mem_nil))))))))))))))))))))))))))))))))))))))))))))), tyX8_ok, nmX8⟩
abbrev mX4_init : g_M := (yX4_init, cX4_init, 3, none, (1, 24), none)
abbrev mX4_size : g_M := (yX4_size, cX4_size, 1, (some .int), (0, 0), none)
abbrev mX4_xAt : g_M := (yX4_xAt, cX4_xAt, 2, (some .int), (0, 0), none)
abbrev mX4_yAt : g_M := (yX4_yAt, cX4_yAt, 2, (some .int), (0, 0), none)
abbrev mX4_markAt : g_M := (yX4_markAt, cX4_markAt, 2, (some .int), (0, 0), none)
abbrev mX4_isAt : g_M := (yX4_isAt, cX4_isAt, 4, (some .boolean), (1, 27), none)
abbrev mX4_next : g_M := (yX4_next, cX4_next, 2, (some .int), (0, 0), none)
abbrev mX4_previous : g_M := (yX4_previous, cX4_previous, 2, (some .int), (0, 0), none)
abbrev mX4_mark : g_M := (yX4_mark, cX4_mark, 3, none, (0, 0), none)
abbrev mX4_reset : g_M := (yX4_reset, cX4_reset, 1, none, (0, 0), none)
abbrev mX4_shorten : g_M := (yX4_shorten, cX4_shorten, 1, none, (0, 0), none)
abbrev mX4_put : g_M := (yX4_put, cX4_put, 5, none, (0, 0), none)
abbrev mX4_append : g_M := (yX4_append, cX4_append, 4, none, (1, 30), none)
abbrev mX4_isBehind : g_M := (yX4_isBehind, cX4_isBehind, 4, (some .boolean), (1, 27), none)
abbrev mX4_insertInOrder : g_M := (yX4_insertInOrder, cX4_insertInOrder, 5, none, (2, 56), none)
abbrev mX4_remove : g_M := (yX4_remove, cX4_remove, 3, none, (1, 30), none)
abbrev mX4_copyFrom : g_M := (yX4_copyFrom, cX4_copyFrom, 3, none, (2, 59), none)
abbrev mX3_twist : g_M := (yX3_twist, cX3_twist, 12, (some .long), (0, 0), none)
abbrev mX3_signOf : g_M := (yX3_signOf, cX3_signOf, 2, (some .int), (0, 0), none)
abbrev mX3_isOn : g_M := (yX3_isOn, cX3_isOn, 12, (some .boolean), (1, 37), none)
abbrev mX3_isBetween : g_M := (yX3_isBetween, cX3_isBetween, 5, (some .boolean), (2, 74), none)
abbrev mX3_side : g_M := (yX3_side, cX3_side, 7, (some .int), (1, 37), none)
abbrev mX3_passThrough : g_M := (yX3_passThrough, cX3_passThrough, 6, (some .boolean), (2, 69), none)
abbrev mX3_meet : g_M := (yX3_meet, cX3_meet, 6, (some .boolean), (3, 104), none)
abbrev mX3_commonDivisor : g_M := (yX3_commonDivisor, cX3_commonDivisor, 11, (some .long), (1, 24), none)
abbrev mX5_runOf : g_M := (yX5_runOf, cX5_runOf, 2, (some .int), (1, 27), none)
abbrev mX5_riseOf : g_M := (yX5_riseOf, cX5_riseOf, 2, (some .int), (1, 27), none)
abbrev mX5_twistOf : g_M := (yX5_twistOf, cX5_twistOf, 4, (some .long), (1, 37), none)
abbrev mX5_doubledArea : g_M := (yX5_doubledArea, cX5_doubledArea, 4, (some .int), (1, 27), none)
abbrev mX5_stepsAlong : g_M := (yX5_stepsAlong, cX5_stepsAlong, 2, (some .int), (2, 60), none)
abbrev mX5_stepsRound : g_M := (yX5_stepsRound, cX5_stepsRound, 3, (some .int), (3, 87), none)
abbrev mX5_placesInside : g_M := (yX5_placesInside, cX5_placesInside, 1, (some .int), (4, 115), none)
abbrev mX5_whereIs : g_M := (yX5_whereIs, cX5_whereIs, 18, (some .int), (2, 74), none)
abbrev mX5_bound : g_M := (yX5_bound, cX5_bound, 6, (some .int), (1, 27), none)
abbrev mX5_reachFrom : g_M := (yX5_reachFrom, cX5_reachFrom, 5, (some .long), (2, 66), none)
abbrev mX5_squaredWidth : g_M := (yX5_squaredWidth, cX5_squaredWidth, 15, (some .long), (3, 96), none)
abbrev mX5_foldsBack : g_M := (yX5_foldsBack, cX5_foldsBack, 4, (some .boolean), (3, 104), none)
abbrev mX5_closesSimply : g_M := (yX5_closesSimply, cX5_closesSimply, 4, (some .boolean), (4, 135), none)
abbrev mX5_whereIsMiddle : g_M := (yX5_whereIsMiddle, cX5_whereIsMiddle, 7, (some .int), (3, 117), none)
abbrev mX5_isOpenBetween : g_M := (yX5_isOpenBetween, cX5_isOpenBetween, 5, (some .boolean), (4, 149), none)
abbrev mX1_turnsLeft : g_M := (yX1_turnsLeft, cX1_turnsLeft, 4, (some .boolean), (1, 37), none)
abbrev mX1_bendTo : g_M := (yX1_bendTo, cX1_bendTo, 5, none, (2, 66), none)
abbrev mX1_wrap : g_M := (yX1_wrap, cX1_wrap, 4, none, (3, 96), none)
abbrev mX1_peel : g_M := (yX1_peel, cX1_peel, 3, none, (4, 125), none)
abbrev mX1_goesOut : g_M := (yX1_goesOut, cX1_goesOut, 2, (some .boolean), (0, 0), none)
abbrev mX1_compareEdges : g_M := (yX1_compareEdges, cX1_compareEdges, 10, (some .int), (2, 54), none)
abbrev mX1_addUp : g_M := (yX1_addUp, cX1_addUp, 11, none, (3, 89), none)
abbrev mX1_hasCornerIn : g_M := (yX1_hasCornerIn, cX1_hasCornerIn, 3, (some .boolean), (3, 117), none)
abbrev mX1_touch : g_M := (yX1_touch, cX1_touch, 4, (some .boolean), (4, 145), none)
abbrev mX6_init : g_M := (yX6_init, cX6_init, 2, none, (2, 52), none)
abbrev mX6_polygonAt : g_M := (yX6_polygonAt, cX6_polygonAt, 3, (some (.object "HullyardSurveys$Row")), (0, 0), none)
abbrev mX6_hasPoint : g_M := (yX6_hasPoint, cX6_hasPoint, 2, (some .boolean), (1, 27), none)
abbrev mX6_heapSize : g_M := (yX6_heapSize, cX6_heapSize, 4, (some .int), (1, 27), none)
abbrev mX6_putInOrder : g_M := (yX6_putInOrder, cX6_putInOrder, 4, none, (3, 86), none)
abbrev mX6_squaredDistance : g_M := (yX6_squaredDistance, cX6_squaredDistance, 5, (some .int), (1, 27), none)
abbrev mX6_extremePair : g_M := (yX6_extremePair, cX6_extremePair, 9, (some .int), (2, 57), none)
abbrev mX6_lineCount : g_M := (yX6_lineCount, cX6_lineCount, 1, (some .int), (1, 26), none)
abbrev mX6_linesMeet : g_M := (yX6_linesMeet, cX6_linesMeet, 3, (some .boolean), (4, 135), none)
abbrev mX6_copyFrom : g_M := (yX6_copyFrom, cX6_copyFrom, 3, none, (3, 87), none)
abbrev mX2_init : g_M := (yX2_init, cX2_init, 1, none, (2, 52), none)
abbrev mX2_isEar : g_M := (yX2_isEar, cX2_isEar, 7, (some .boolean), (2, 69), none)
abbrev mX2_firstEar : g_M := (yX2_firstEar, cX2_firstEar, 3, (some .int), (3, 101), none)
abbrev mX2_keepTriangle : g_M := (yX2_keepTriangle, cX2_keepTriangle, 4, none, (2, 66), none)
abbrev mX2_part : g_M := (yX2_part, cX2_part, 5, none, (4, 129), none)
abbrev mX2_made : g_M := (yX2_made, cX2_made, 1, (some .int), (0, 0), none)
abbrev mX2_doubledAreas : g_M := (yX2_doubledAreas, cX2_doubledAreas, 1, (some .long), (0, 0), none)
abbrev mX2_tellTriangle : g_M := (yX2_tellTriangle, cX2_tellTriangle, 2, (some .int), (0, 0), none)
abbrev mX0_init : g_M := (yX0_init, cX0_init, 1, none, (2, 52), none)
abbrev mX0_cut : g_M := (yX0_cut, cX0_cut, 13, none, (3, 86), none)
abbrev mX0_firstInside : g_M := (yX0_firstInside, cX0_firstInside, 2, (some .int), (1, 28), none)
abbrev mX0_lastInside : g_M := (yX0_lastInside, cX0_lastInside, 2, (some .int), (1, 28), none)
abbrev mX0_countCommon : g_M := (yX0_countCommon, cX0_countCommon, 6, (some .int), (2, 55), none)
abbrev mX0_countInside : g_M := (yX0_countInside, cX0_countInside, 5, (some .int), (4, 124), none)
abbrev mX7_init : g_M := (yX7_init, cX7_init, 1, none, (3, 79), none)
abbrev mX7_requireHeap : g_M := (yX7_requireHeap, cX7_requireHeap, 1, none, (6, 90), none)
abbrev mX7_requireNear : g_M := (yX7_requireNear, cX7_requireNear, 2, none, (6, 90), none)
abbrev mX7_point : g_M := (yX7_point, cX7_point, 4, (some .int), (7, 117), none)
abbrev mX7_requirePoint : g_M := (yX7_requirePoint, cX7_requirePoint, 2, none, (6, 90), none)
abbrev mX7_drop : g_M := (yX7_drop, cX7_drop, 3, (some .int), (7, 117), none)
abbrev mX7_pointOf : g_M := (yX7_pointOf, cX7_pointOf, 3, (some .int), (7, 117), none)
abbrev mX7_count : g_M := (yX7_count, cX7_count, 2, (some .int), (7, 116), none)
abbrev mX7_orderHeap : g_M := (yX7_orderHeap, cX7_orderHeap, 2, none, (4, 115), none)
abbrev mX7_sorted : g_M := (yX7_sorted, cX7_sorted, 3, (some .int), (7, 142), none)
abbrev mX7_places : g_M := (yX7_places, cX7_places, 4, (some .int), (7, 142), none)
abbrev mX7_turn : g_M := (yX7_turn, cX7_turn, 4, (some .int), (7, 117), none)
abbrev mX7_requireFilled : g_M := (yX7_requireFilled, cX7_requireFilled, 2, none, (6, 90), none)
abbrev mX7_hull : g_M := (yX7_hull, cX7_hull, 2, (some .int), (7, 142), none)
abbrev mX7_requireTwoFilled : g_M := (yX7_requireTwoFilled, cX7_requireTwoFilled, 3, none, (7, 117), none)
abbrev mX7_join : g_M := (yX7_join, cX7_join, 3, (some .int), (8, 145), none)
abbrev mX7_wrapTwo : g_M := (yX7_wrapTwo, cX7_wrapTwo, 3, none, (5, 142), none)
abbrev mX7_sum : g_M := (yX7_sum, cX7_sum, 3, (some .int), (8, 170), none)
abbrev mX7_layers : g_M := (yX7_layers, cX7_layers, 4, (some .int), (7, 153), none)
abbrev mX7_layer : g_M := (yX7_layer, cX7_layer, 5, (some .int), (7, 153), none)
abbrev mX7_requirePolygon : g_M := (yX7_requirePolygon, cX7_requirePolygon, 2, (some (.object "HullyardSurveys$Row")), (6, 90), none)
abbrev mX7_hullOf : g_M := (yX7_hullOf, cX7_hullOf, 4, (some .int), (7, 125), none)
abbrev mX7_corners : g_M := (yX7_corners, cX7_corners, 1, (some .int), (1, 26), none)
abbrev mX7_requireCorner : g_M := (yX7_requireCorner, cX7_requireCorner, 2, none, (6, 90), none)
abbrev mX7_corner : g_M := (yX7_corner, cX7_corner, 3, (some .int), (7, 117), none)
abbrev mX7_area : g_M := (yX7_area, cX7_area, 1, (some .int), (2, 56), none)
abbrev mX7_edge : g_M := (yX7_edge, cX7_edge, 1, (some .int), (4, 115), none)
abbrev mX7_inner : g_M := (yX7_inner, cX7_inner, 1, (some .int), (5, 141), none)
abbrev mX7_lies : g_M := (yX7_lies, cX7_lies, 3, (some .int), (3, 117), none)
abbrev mX7_width : g_M := (yX7_width, cX7_width, 2, (some .long), (6, 136), none)
abbrev mX7_add : g_M := (yX7_add, cX7_add, 5, (some .int), (7, 117), none)
abbrev mX7_clear : g_M := (yX7_clear, cX7_clear, 4, (some .int), (7, 117), none)
abbrev mX7_isSimple : g_M := (yX7_isSimple, cX7_isSimple, 2, (some .boolean), (7, 164), none)
abbrev mX7_polygonArea : g_M := (yX7_polygonArea, cX7_polygonArea, 2, (some .int), (7, 117), none)
abbrev mX7_requireSimple : g_M := (yX7_requireSimple, cX7_requireSimple, 3, (some (.object "HullyardSurveys$Row")), (7, 164), none)
abbrev mX7_polygonEdge : g_M := (yX7_polygonEdge, cX7_polygonEdge, 2, (some .int), (8, 192), none)
abbrev mX7_polygonInner : g_M := (yX7_polygonInner, cX7_polygonInner, 2, (some .int), (8, 192), none)
abbrev mX7_polygonLies : g_M := (yX7_polygonLies, cX7_polygonLies, 4, (some .int), (8, 192), none)
abbrev mX7_holds : g_M := (yX7_holds, cX7_holds, 6, (some .int), (8, 192), none)
abbrev mX7_triangles : g_M := (yX7_triangles, cX7_triangles, 2, (some .int), (8, 192), none)
abbrev mX7_triangleAt : g_M := (yX7_triangleAt, cX7_triangleAt, 3, (some .int), (8, 192), none)
abbrev mX7_sees : g_M := (yX7_sees, cX7_sees, 5, (some .boolean), (8, 192), none)
abbrev mX7_view : g_M := (yX7_view, cX7_view, 6, (some .int), (8, 192), none)
abbrev mX7_line : g_M := (yX7_line, cX7_line, 5, (some .int), (7, 117), none)
abbrev mX7_clearLines : g_M := (yX7_clearLines, cX7_clearLines, 2, (some .int), (2, 52), none)
abbrev mX7_requireLine : g_M := (yX7_requireLine, cX7_requireLine, 2, none, (6, 90), none)
abbrev mX7_cross : g_M := (yX7_cross, cX7_cross, 3, (some .boolean), (7, 163), none)
abbrev mX7_crossings : g_M := (yX7_crossings, cX7_crossings, 4, (some .int), (5, 163), none)
abbrev mX7_crossingAt : g_M := (yX7_crossingAt, cX7_crossingAt, 5, (some .int), (6, 163), none)
abbrev mX7_requireTwoPoints : g_M := (yX7_requireTwoPoints, cX7_requireTwoPoints, 2, none, (6, 90), none)
abbrev mX7_pair : g_M := (yX7_pair, cX7_pair, 3, (some .int), (7, 117), none)
abbrev mX7_distance : g_M := (yX7_distance, cX7_distance, 4, (some .int), (7, 117), none)
abbrev mX7_box : g_M := (yX7_box, cX7_box, 3, (some .int), (7, 142), none)
abbrev mX7_leastFenceFrom : g_M := (yX7_leastFenceFrom, cX7_leastFenceFrom, 8, (some .int), (3, 86), none)
abbrev mX7_fence : g_M := (yX7_fence, cX7_fence, 5, (some .int), (7, 142), none)
abbrev mX7_apart : g_M := (yX7_apart, cX7_apart, 3, (some .boolean), (8, 174), none)
abbrev mX7_image : g_M := (yX7_image, cX7_image, 1, (some .int), (4, 115), none)
abbrev mX7_restore : g_M := (yX7_restore, cX7_restore, 1, (some .int), (6, 115), none)
abbrev mX7_checksum : g_M := (yX7_checksum, cX7_checksum, 3, (some .int), (1, 27), none)
abbrev mX7_meanFar : g_M := (yX7_meanFar, cX7_meanFar, 5, (some .double), (7, 142), none)
abbrev mX7_fills : g_M := (yX7_fills, cX7_fills, 4, (some .float), (2, 58), none)
abbrev mX7_hasStray : g_M := (yX7_hasStray, cX7_hasStray, 3, (some .boolean), (5, 142), none)
abbrev mX7_faultsOf : g_M := (yX7_faultsOf, cX7_faultsOf, 4, (some .int), (5, 159), none)
abbrev mX7_errors : g_M := (yX7_errors, cX7_errors, 4, (some .int), (6, 188), none)
abbrev mX8_thrown : g_M := (yX8_thrown, cX8_thrown, 1, (some .int), (0, 0), none)
abbrev mX8_in : g_M := (yX8_in, cX8_in, 3, (some .boolean), (0, 0), none)
abbrev mX8_fails : g_M := (yX8_fails, cX8_fails, 3, (some .boolean), (0, 0), none)
abbrev mX8_init : g_M := (yX8_init, cX8_init, 1, none, (1, 20), none)
abbrev mX8_isPlace : g_M := (yX8_isPlace, cX8_isPlace, 2, (some .boolean), (1, 28), none)
abbrev mX8_amount : g_M := (yX8_amount, cX8_amount, 1, (some .int), (0, 0), none)
abbrev mX8_common : g_M := (yX8_common, cX8_common, 5, (some .int), (1, 26), none)
abbrev mX8_turns : g_M := (yX8_turns, cX8_turns, 14, (some .int), (0, 0), none)
abbrev mX8_noHeap : g_M := (yX8_noHeap, cX8_noHeap, 2, (some .boolean), (1, 28), none)
abbrev mX8_noPoint : g_M := (yX8_noPoint, cX8_noPoint, 2, (some .boolean), (1, 28), none)
abbrev mX8_many : g_M := (yX8_many, cX8_many, 4, (some .int), (0, 0), none)
abbrev mX8_point : g_M := (yX8_point, cX8_point, 4, (some .int), (2, 55), none)
abbrev mX8_drop : g_M := (yX8_drop, cX8_drop, 3, (some .int), (2, 55), none)
abbrev mX8_pointOf : g_M := (yX8_pointOf, cX8_pointOf, 3, (some .int), (2, 55), none)
abbrev mX8_count : g_M := (yX8_count, cX8_count, 2, (some .int), (2, 55), none)
abbrev mX8_isAhead : g_M := (yX8_isAhead, cX8_isAhead, 3, (some .boolean), (0, 0), none)
abbrev mX8_pointAt : g_M := (yX8_pointAt, cX8_pointAt, 6, (some .int), (1, 28), none)
abbrev mX8_sorted : g_M := (yX8_sorted, cX8_sorted, 3, (some .int), (2, 59), none)
abbrev mX8_places : g_M := (yX8_places, cX8_places, 6, (some .int), (2, 55), none)
abbrev mX8_turn : g_M := (yX8_turn, cX8_turn, 4, (some .int), (2, 55), none)
abbrev mX8_lays : g_M := (yX8_lays, cX8_lays, 3, none, (0, 0), none)
abbrev mX8_laysHeap : g_M := (yX8_laysHeap, cX8_laysHeap, 3, none, (1, 28), none)
abbrev mX8_far : g_M := (yX8_far, cX8_far, 3, (some .int), (1, 26), none)
abbrev mX8_wraps : g_M := (yX8_wraps, cX8_wraps, 9, (some .int), (2, 54), none)
abbrev mX8_hullOfHeap : g_M := (yX8_hullOfHeap, cX8_hullOfHeap, 3, (some .int), (3, 88), none)
abbrev mX8_isEmpty : g_M := (yX8_isEmpty, cX8_isEmpty, 2, (some .boolean), (1, 29), none)
abbrev mX8_hull : g_M := (yX8_hull, cX8_hull, 2, (some .int), (4, 116), none)
abbrev mX8_noHeaps : g_M := (yX8_noHeaps, cX8_noHeaps, 3, (some .boolean), (2, 56), none)
abbrev mX8_join : g_M := (yX8_join, cX8_join, 3, (some .int), (3, 88), none)
abbrev mX8_sum : g_M := (yX8_sum, cX8_sum, 5, (some .int), (3, 88), none)
abbrev mX8_isOn : g_M := (yX8_isOn, cX8_isOn, 12, (some .boolean), (1, 39), none)
abbrev mX8_side : g_M := (yX8_side, cX8_side, 10, (some .int), (2, 76), none)
abbrev mX8_peels : g_M := (yX8_peels, cX8_peels, 6, (some .boolean), (3, 111), none)
abbrev mX8_layers : g_M := (yX8_layers, cX8_layers, 3, (some .int), (4, 142), none)
abbrev mX8_layer : g_M := (yX8_layer, cX8_layer, 4, (some .int), (4, 142), none)
abbrev mX8_doubled : g_M := (yX8_doubled, cX8_doubled, 6, (some .int), (0, 0), none)
abbrev mX8_corners : g_M := (yX8_corners, cX8_corners, 1, (some .int), (0, 0), none)
abbrev mX8_corner : g_M := (yX8_corner, cX8_corner, 3, (some .int), (1, 28), none)
abbrev mX8_area : g_M := (yX8_area, cX8_area, 1, (some .int), (1, 31), none)
abbrev mX8_edge : g_M := (yX8_edge, cX8_edge, 4, (some .int), (2, 56), none)
abbrev mX8_floor : g_M := (yX8_floor, cX8_floor, 2, (some .int), (0, 0), none)
abbrev mX8_innerIn : g_M := (yX8_innerIn, cX8_innerIn, 10, (some .int), (1, 27), none)
abbrev mX8_inner : g_M := (yX8_inner, cX8_inner, 3, (some .int), (2, 62), none)
abbrev mX8_lies : g_M := (yX8_lies, cX8_lies, 3, (some .int), (3, 111), none)
abbrev mX8_findsWidth : g_M := (yX8_findsWidth, cX8_findsWidth, 12, none, (0, 0), none)
abbrev mX8_width : g_M := (yX8_width, cX8_width, 2, (some .long), (1, 37), none)
abbrev mX8_noPolygon : g_M := (yX8_noPolygon, cX8_noPolygon, 2, (some .boolean), (1, 28), none)
abbrev mX8_add : g_M := (yX8_add, cX8_add, 4, (some .int), (2, 55), none)
abbrev mX8_clear : g_M := (yX8_clear, cX8_clear, 3, (some .int), (2, 55), none)
abbrev mX8_hullOf : g_M := (yX8_hullOf, cX8_hullOf, 3, (some .int), (3, 88), none)
abbrev mX8_takesFirst : g_M := (yX8_takesFirst, cX8_takesFirst, 5, none, (0, 0), none)
abbrev mX8_takesSecond : g_M := (yX8_takesSecond, cX8_takesSecond, 5, none, (0, 0), none)
abbrev mX8_doCross : g_M := (yX8_doCross, cX8_doCross, 1, (some .boolean), (1, 39), none)
abbrev mX8_doTouch : g_M := (yX8_doTouch, cX8_doTouch, 1, (some .boolean), (2, 76), none)
abbrev mX8_cornerOf : g_M := (yX8_cornerOf, cX8_cornerOf, 3, (some .int), (0, 0), none)
abbrev mX8_isGood : g_M := (yX8_isGood, cX8_isGood, 11, (some .boolean), (3, 102), none)
abbrev mX8_doubledOf : g_M := (yX8_doubledOf, cX8_doubledOf, 6, (some .int), (1, 28), none)
abbrev mX8_isSimple : g_M := (yX8_isSimple, cX8_isSimple, 2, (some .boolean), (4, 138), none)
abbrev mX8_polygonArea : g_M := (yX8_polygonArea, cX8_polygonArea, 2, (some .int), (2, 59), none)
abbrev mX8_noSimple : g_M := (yX8_noSimple, cX8_noSimple, 2, (some .boolean), (4, 138), none)
abbrev mX8_polygonEdge : g_M := (yX8_polygonEdge, cX8_polygonEdge, 6, (some .int), (5, 165), none)
abbrev mX8_sideOf : g_M := (yX8_sideOf, cX8_sideOf, 20, (some .int), (2, 76), none)
abbrev mX8_polygonInner : g_M := (yX8_polygonInner, cX8_polygonInner, 5, (some .int), (5, 165), none)
abbrev mX8_polygonLies : g_M := (yX8_polygonLies, cX8_polygonLies, 4, (some .int), (5, 165), none)
abbrev mX8_holds : g_M := (yX8_holds, cX8_holds, 5, (some .int), (5, 165), none)
abbrev mX8_turnOf : g_M := (yX8_turnOf, cX8_turnOf, 8, (some .int), (1, 39), none)
abbrev mX8_isEar : g_M := (yX8_isEar, cX8_isEar, 10, (some .boolean), (2, 72), none)
abbrev mX8_cuts : g_M := (yX8_cuts, cX8_cuts, 4, none, (0, 0), none)
abbrev mX8_parts : g_M := (yX8_parts, cX8_parts, 5, none, (3, 107), none)
abbrev mX8_triangles : g_M := (yX8_triangles, cX8_triangles, 2, (some .int), (5, 165), none)
abbrev mX8_triangleAt : g_M := (yX8_triangleAt, cX8_triangleAt, 3, (some .int), (5, 165), none)
abbrev mX8_noCorner : g_M := (yX8_noCorner, cX8_noCorner, 3, (some .boolean), (2, 55), none)
abbrev mX8_off : g_M := (yX8_off, cX8_off, 2, (some .int), (1, 26), none)
abbrev mX8_doesSee : g_M := (yX8_doesSee, cX8_doesSee, 11, (some .boolean), (3, 121), none)
abbrev mX8_sees : g_M := (yX8_sees, cX8_sees, 4, (some .boolean), (4, 157), none)
abbrev mX8_view : g_M := (yX8_view, cX8_view, 5, (some .int), (4, 157), none)
abbrev mX8_line : g_M := (yX8_line, cX8_line, 5, (some .int), (2, 55), none)
abbrev mX8_clearLines : g_M := (yX8_clearLines, cX8_clearLines, 2, (some .int), (0, 0), none)
abbrev mX8_areCrossed : g_M := (yX8_areCrossed, cX8_areCrossed, 3, (some .boolean), (3, 102), none)
abbrev mX8_noLine : g_M := (yX8_noLine, cX8_noLine, 2, (some .boolean), (1, 28), none)
abbrev mX8_cross : g_M := (yX8_cross, cX8_cross, 3, (some .boolean), (4, 130), none)
abbrev mX8_crossed : g_M := (yX8_crossed, cX8_crossed, 4, (some .int), (4, 130), none)
abbrev mX8_crossings : g_M := (yX8_crossings, cX8_crossings, 2, (some .int), (5, 159), none)
abbrev mX8_crossingAt : g_M := (yX8_crossingAt, cX8_crossingAt, 3, (some .int), (5, 159), none)
abbrev mX8_squared : g_M := (yX8_squared, cX8_squared, 3, (some .int), (0, 0), none)
abbrev mX8_pairOf : g_M := (yX8_pairOf, cX8_pairOf, 7, (some .int), (1, 28), none)
abbrev mX8_pair : g_M := (yX8_pair, cX8_pair, 3, (some .int), (2, 60), none)
abbrev mX8_distance : g_M := (yX8_distance, cX8_distance, 4, (some .int), (2, 60), none)
abbrev mX8_box : g_M := (yX8_box, cX8_box, 7, (some .int), (2, 56), none)
abbrev mX8_ordersByY : g_M := (yX8_ordersByY, cX8_ordersByY, 5, (some .int), (0, 0), none)
abbrev mX8_height : g_M := (yX8_height, cX8_height, 9, (some .int), (1, 28), none)
abbrev mX8_fence : g_M := (yX8_fence, cX8_fence, 10, (some .int), (2, 62), none)
abbrev mX8_isIn : g_M := (yX8_isIn, cX8_isIn, 4, (some .boolean), (3, 111), none)
abbrev mX8_apart : g_M := (yX8_apart, cX8_apart, 7, (some .boolean), (4, 140), none)
abbrev mX8_image : g_M := (yX8_image, cX8_image, 2, (some .int), (0, 0), none)
abbrev mX8_restore : g_M := (yX8_restore, cX8_restore, 2, (some .int), (1, 28), none)
abbrev mX8_checksum : g_M := (yX8_checksum, cX8_checksum, 3, (some .int), (0, 0), none)
abbrev mX8_meanFar : g_M := (yX8_meanFar, cX8_meanFar, 5, (some .double), (2, 59), none)
abbrev mX8_fills : g_M := (yX8_fills, cX8_fills, 6, (some .float), (1, 31), none)
abbrev mX8_errors : g_M := (yX8_errors, cX8_errors, 1, (some .int), (0, 0), none)
abbrev mL_point : g_M := (yL_point, cL_point, 6, (some .int), (8, 146), some [(0, 12, 15, 13), (0, 12, 19, 15)])
abbrev mL_drop : g_M := (yL_drop, cL_drop, 4, (some .int), (8, 145), some [(0, 9, 12, 21)])
abbrev mL_pointOf : g_M := (yL_pointOf, cL_pointOf, 5, (some .int), (8, 145), some [(0, 10, 13, 21), (0, 10, 17, 13)])
abbrev mL_count : g_M := (yL_count, cL_count, 4, (some .int), (8, 143), some [(0, 9, 12, 13)])
abbrev mL_sorted : g_M := (yL_sorted, cL_sorted, 5, (some .int), (8, 170), some [(0, 10, 13, 13), (0, 10, 17, 21)])
abbrev mL_places : g_M := (yL_places, cL_places, 4, (some .int), (8, 171), some [(0, 9, 12, 13)])
abbrev mL_turn : g_M := (yL_turn, cL_turn, 6, (some .int), (8, 146), some [(0, 12, 15, 21)])
abbrev mL_hull : g_M := (yL_hull, cL_hull, 4, (some .int), (8, 169), some [(0, 9, 12, 13), (0, 9, 15, 42)])
abbrev mL_join : g_M := (yL_join, cL_join, 5, (some .int), (9, 173), some [(0, 10, 13, 13), (0, 10, 17, 42)])
abbrev mL_sum : g_M := (yL_sum, cL_sum, 5, (some .int), (9, 198), some [(0, 10, 13, 13), (0, 10, 17, 42)])
abbrev mL_layers : g_M := (yL_layers, cL_layers, 4, (some .int), (8, 182), some [(0, 9, 12, 13)])
abbrev mL_layer : g_M := (yL_layer, cL_layer, 5, (some .int), (8, 183), some [(0, 10, 13, 13), (0, 10, 17, 21)])
abbrev mL_hullOf : g_M := (yL_hullOf, cL_hullOf, 4, (some .int), (8, 154), some [(0, 9, 12, 13), (0, 9, 15, 42)])
abbrev mL_corner : g_M := (yL_corner, cL_corner, 5, (some .int), (8, 145), some [(0, 10, 13, 21)])
abbrev mL_width : g_M := (yL_width, cL_width, 4, (some .int), (7, 163), some [(0, 8, 11, 15)])
abbrev mL_add : g_M := (yL_add, cL_add, 6, (some .int), (8, 147), some [(0, 12, 15, 13), (0, 12, 19, 15)])
abbrev mL_clear : g_M := (yL_clear, cL_clear, 4, (some .int), (8, 146), some [(0, 9, 12, 13)])
abbrev mL_isSimple : g_M := (yL_isSimple, cL_isSimple, 4, (some .int), (8, 191), some [(0, 16, 19, 13)])
abbrev mL_polygonArea : g_M := (yL_polygonArea, cL_polygonArea, 4, (some .int), (8, 144), some [(0, 9, 12, 13)])
abbrev mL_polygonEdge : g_M := (yL_polygonEdge, cL_polygonEdge, 4, (some .int), (9, 219), some [(0, 9, 12, 13), (0, 9, 15, 15)])
abbrev mL_polygonInner : g_M := (yL_polygonInner, cL_polygonInner, 4, (some .int), (9, 219), some [(0, 9, 12, 13), (0, 9, 15, 15)])
abbrev mL_polygonLies : g_M := (yL_polygonLies, cL_polygonLies, 6, (some .int), (9, 221), some [(0, 12, 15, 13), (0, 12, 19, 15)])
abbrev mL_holds : g_M := (yL_holds, cL_holds, 5, (some .int), (9, 223), some [(0, 10, 13, 13), (0, 10, 17, 15)])
abbrev mL_triangles : g_M := (yL_triangles, cL_triangles, 4, (some .int), (9, 219), some [(0, 9, 12, 13), (0, 9, 15, 15)])
abbrev mL_triangleAt : g_M := (yL_triangleAt, cL_triangleAt, 5, (some .int), (9, 220), some [(0, 10, 13, 13), (0, 10, 17, 15), (0, 10, 21, 21)])
abbrev mL_sees : g_M := (yL_sees, cL_sees, 6, (some .int), (9, 222), some [(0, 19, 22, 13), (0, 19, 26, 21), (0, 19, 30, 15)])
abbrev mL_view : g_M := (yL_view, cL_view, 5, (some .int), (9, 223), some [(0, 10, 13, 13), (0, 10, 17, 21), (0, 10, 21, 15)])
abbrev mL_line : g_M := (yL_line, cL_line, 7, (some .int), (8, 147), some [(0, 14, 17, 13), (0, 14, 21, 15)])
abbrev mL_cross : g_M := (yL_cross, cL_cross, 5, (some .int), (8, 191), some [(0, 17, 20, 21)])
abbrev mL_crossingAt : g_M := (yL_crossingAt, cL_crossingAt, 4, (some .int), (7, 193), some [(0, 9, 12, 21)])
abbrev mL_pair : g_M := (yL_pair, cL_pair, 5, (some .int), (8, 145), some [(0, 10, 13, 13), (0, 10, 17, 42)])
abbrev mL_distance : g_M := (yL_distance, cL_distance, 5, (some .int), (8, 146), some [(0, 10, 13, 13), (0, 10, 17, 42)])
abbrev mL_box : g_M := (yL_box, cL_box, 5, (some .int), (8, 170), some [(0, 10, 13, 13), (0, 10, 17, 42)])
abbrev mL_fence : g_M := (yL_fence, cL_fence, 5, (some .int), (8, 172), some [(0, 10, 13, 13), (0, 10, 17, 42)])
abbrev mL_apart : g_M := (yL_apart, cL_apart, 5, (some .int), (9, 202), some [(0, 17, 20, 13), (0, 17, 24, 42)])
abbrev mL_restore : g_M := (yL_restore, cL_restore, 3, (some .int), (7, 141), some [(0, 8, 11, 42)])
abbrev mL_meanFar : g_M := (yL_meanFar, cL_meanFar, 4, (some .int), (8, 172), some [(0, 8, 11, 13)])
abbrev mJ9_floorDiv_7cf53 : g_M := (yJ9_floorDiv_7cf53, cJ9_floorDiv_7cf53, 3, (some .int), (0, 0), none)
set_option maxRecDepth 100000 in
theorem pfX4_7 : g_FP RX4 7 2 3 .int false := ⟨_, _, _, _, kX4, by decide, w_106, rfl, by decide +kernel, rfl⟩
set_option maxRecDepth 100000 in
theorem pfX4_19 : g_FP RX4 19 2 0 (.array .int) true := ⟨_, _, _, _, kX4, by decide, w_103, rfl, by decide +kernel, rfl⟩
set_option maxRecDepth 100000 in
theorem pfX4_23 : g_FP RX4 23 2 1 (.array .int) true := ⟨_, _, _, _, kX4, by decide, w_104, rfl, by decide +kernel, rfl⟩
set_option maxRecDepth 100000 in
theorem pfX4_26 : g_FP RX4 26 2 2 (.array .int) true := ⟨_, _, _, _, kX4, by decide, w_105, rfl, by decide +kernel, rfl⟩
set_option maxRecDepth 100000 in
theorem fX4_7 : g_F RX4 7 2 3 := ⟨_, _, _, _, kX4, by decide, w_106⟩
set_option maxRecDepth 100000 in
theorem fX4_19 : g_F RX4 19 2 0 := ⟨_, _, _, _, kX4, by decide, w_103⟩
set_option maxRecDepth 100000 in
theorem fX4_23 : g_F RX4 23 2 1 := ⟨_, _, _, _, kX4, by decide, w_104⟩
set_option maxRecDepth 100000 in
theorem fX4_26 : g_F RX4 26 2 2 := ⟨_, _, _, _, kX4, by decide, w_105⟩
set_option maxRecDepth 100000 in
theorem pfX6_14 : g_FP RX6 14 3 0 (.object "HullyardSurveys$Row") true := ⟨_, _, _, _, kX6, by decide, w_118, rfl, by decide +kernel, rfl⟩
set_option maxRecDepth 100000 in
theorem pfX6_20 : g_FP RX6 20 3 1 (.object "HullyardSurveys$Row") true := ⟨_, _, _, _, kX6, by decide, w_120, rfl, by decide +kernel, rfl⟩
set_option maxRecDepth 100000 in
theorem pfX6_23 : g_FP RX6 23 3 2 (.array (.object "HullyardSurveys$Row")) true := ⟨_, _, _, _, kX6, by decide, w_122, rfl, by decide +kernel, rfl⟩
set_option maxRecDepth 100000 in
theorem pfX6_27 : g_FP RX6 27 3 3 (.object "HullyardSurveys$Row") true := ⟨_, _, _, _, kX6, by decide, w_123, rfl, by decide +kernel, rfl⟩
set_option maxRecDepth 100000 in
theorem fX6_23 : g_F RX6 23 3 2 := ⟨_, _, _, _, kX6, by decide, w_122⟩
set_option maxRecDepth 100000 in
theorem fX6_27 : g_F RX6 27 3 3 := ⟨_, _, _, _, kX6, by decide, w_123⟩
set_option maxRecDepth 100000 in
theorem fX6_14 : g_F RX6 14 3 0 := ⟨_, _, _, _, kX6, by decide, w_118⟩
set_option maxRecDepth 100000 in
theorem fX6_20 : g_F RX6 20 3 1 := ⟨_, _, _, _, kX6, by decide, w_120⟩
set_option maxRecDepth 100000 in
theorem pfX2_14 : g_FP RX2 14 1 0 (.object "HullyardSurveys$Row") true := ⟨_, _, _, _, kX2, by decide, w_143, rfl, by decide +kernel, rfl⟩
set_option maxRecDepth 100000 in
theorem pfX2_20 : g_FP RX2 20 1 1 (.array .int) true := ⟨_, _, _, _, kX2, by decide, w_144, rfl, by decide +kernel, rfl⟩
set_option maxRecDepth 100000 in
theorem pfX2_24 : g_FP RX2 24 1 2 .int false := ⟨_, _, _, _, kX2, by decide, w_145, rfl, by decide +kernel, rfl⟩
set_option maxRecDepth 100000 in
theorem pfX2_28 : g_FP RX2 28 1 3 .long false := ⟨_, _, _, _, kX2, by decide, w_146, rfl, by decide +kernel, rfl⟩
set_option maxRecDepth 100000 in
theorem fX2_14 : g_F RX2 14 1 0 := ⟨_, _, _, _, kX2, by decide, w_143⟩
set_option maxRecDepth 100000 in
theorem fX2_24 : g_F RX2 24 1 2 := ⟨_, _, _, _, kX2, by decide, w_145⟩
set_option maxRecDepth 100000 in
theorem fX2_20 : g_F RX2 20 1 1 := ⟨_, _, _, _, kX2, by decide, w_144⟩
set_option maxRecDepth 100000 in
theorem fX2_28 : g_F RX2 28 1 3 := ⟨_, _, _, _, kX2, by decide, w_146⟩
set_option maxRecDepth 100000 in
theorem pfX0_14 : g_FP RX0 14 0 0 (.object "HullyardSurveys$Row") true := ⟨_, _, _, _, kX0, by decide, w_164, rfl, by decide +kernel, rfl⟩
set_option maxRecDepth 100000 in
theorem pfX0_20 : g_FP RX0 20 0 1 (.object "HullyardSurveys$Row") true := ⟨_, _, _, _, kX0, by decide, w_165, rfl, by decide +kernel, rfl⟩
set_option maxRecDepth 100000 in
theorem fX0_14 : g_F RX0 14 0 0 := ⟨_, _, _, _, kX0, by decide, w_164⟩
set_option maxRecDepth 100000 in
theorem fX0_20 : g_F RX0 20 0 1 := ⟨_, _, _, _, kX0, by decide, w_165⟩
set_option maxRecDepth 100000 in
theorem pfX7_12 : g_FP RX7 12 4 0 (.object "HullyardSurveys$Yard") true := ⟨_, _, _, _, kX7, by decide, w_171, rfl, by decide +kernel, rfl⟩
set_option maxRecDepth 100000 in
theorem pfX7_16 : g_FP RX7 16 4 1 (.object "HullyardSurveys$Yard") true := ⟨_, _, _, _, kX7, by decide, w_172, rfl, by decide +kernel, rfl⟩
set_option maxRecDepth 100000 in
theorem pfX7_19 : g_FP RX7 19 4 2 .boolean false := ⟨_, _, _, _, kX7, by decide, w_173, rfl, by decide +kernel, rfl⟩
set_option maxRecDepth 100000 in
theorem pfX7_28 : g_FP RX7 28 4 3 (.object "HullyardSurveys$Row") true := ⟨_, _, _, _, kX7, by decide, w_174, rfl, by decide +kernel, rfl⟩
set_option maxRecDepth 100000 in
theorem pfX7_32 : g_FP RX7 32 4 4 (.object "HullyardSurveys$Row") true := ⟨_, _, _, _, kX7, by decide, w_175, rfl, by decide +kernel, rfl⟩
set_option maxRecDepth 100000 in
theorem pfX7_35 : g_FP RX7 35 4 5 (.object "HullyardSurveys$Row") true := ⟨_, _, _, _, kX7, by decide, w_176, rfl, by decide +kernel, rfl⟩
set_option maxRecDepth 100000 in
theorem pfX7_38 : g_FP RX7 38 4 6 (.object "HullyardSurveys$Row") true := ⟨_, _, _, _, kX7, by decide, w_177, rfl, by decide +kernel, rfl⟩
set_option maxRecDepth 100000 in
theorem pfX7_41 : g_FP RX7 41 4 7 (.object "HullyardSurveys$Row") true := ⟨_, _, _, _, kX7, by decide, w_178, rfl, by decide +kernel, rfl⟩
set_option maxRecDepth 100000 in
theorem pfX7_47 : g_FP RX7 47 4 8 (.object "HullyardSurveys$Parting") true := ⟨_, _, _, _, kX7, by decide, w_179, rfl, by decide +kernel, rfl⟩
set_option maxRecDepth 100000 in
theorem pfX7_54 : g_FP RX7 54 4 9 (.object "HullyardSurveys$Census") true := ⟨_, _, _, _, kX7, by decide, w_180, rfl, by decide +kernel, rfl⟩
set_option maxRecDepth 100000 in
theorem fX7_12 : g_F RX7 12 4 0 := ⟨_, _, _, _, kX7, by decide, w_171⟩
set_option maxRecDepth 100000 in
theorem fX7_65 : g_FN RX7 65 3 0 := ⟨_, _, _, _, "HullyardSurveys", kX6, by decide, by decide +kernel⟩
set_option maxRecDepth 100000 in
theorem fX7_32 : g_F RX7 32 4 4 := ⟨_, _, _, _, kX7, by decide, w_175⟩
set_option maxRecDepth 100000 in
theorem fX7_28 : g_F RX7 28 4 3 := ⟨_, _, _, _, kX7, by decide, w_174⟩
set_option maxRecDepth 100000 in
theorem fX7_38 : g_F RX7 38 4 6 := ⟨_, _, _, _, kX7, by decide, w_177⟩
set_option maxRecDepth 100000 in
theorem fX7_41 : g_F RX7 41 4 7 := ⟨_, _, _, _, kX7, by decide, w_178⟩
set_option maxRecDepth 100000 in
theorem fX7_47 : g_F RX7 47 4 8 := ⟨_, _, _, _, kX7, by decide, w_179⟩
set_option maxRecDepth 100000 in
theorem fX7_234 : g_FN RX7 234 3 1 := ⟨_, _, _, _, "HullyardSurveys", kX6, by decide, by decide +kernel⟩
set_option maxRecDepth 100000 in
theorem fX7_35 : g_F RX7 35 4 5 := ⟨_, _, _, _, kX7, by decide, w_176⟩
set_option maxRecDepth 100000 in
theorem fX7_16 : g_F RX7 16 4 1 := ⟨_, _, _, _, kX7, by decide, w_172⟩
set_option maxRecDepth 100000 in
theorem fX7_19 : g_F RX7 19 4 2 := ⟨_, _, _, _, kX7, by decide, w_173⟩
set_option maxRecDepth 100000 in
theorem fX7_54 : g_F RX7 54 4 9 := ⟨_, _, _, _, kX7, by decide, w_180⟩
set_option maxRecDepth 100000 in
theorem fX8_1 : g_F RX8 1 5 0 := ⟨_, _, _, _, kX8, by decide, w_1034⟩
set_option maxRecDepth 100000 in
theorem pfX8_1 : g_FP RX8 1 5 0 .int false := ⟨_, _, _, _, kX8, by decide, w_1034, rfl, by decide +kernel, rfl⟩
set_option maxRecDepth 100000 in
theorem pfX8_13 : g_FP RX8 13 5 1 (.array .int) true := ⟨_, _, _, _, kX8, by decide, w_1035, rfl, by decide +kernel, rfl⟩
set_option maxRecDepth 100000 in
theorem pfX8_17 : g_FP RX8 17 5 2 (.array .int) true := ⟨_, _, _, _, kX8, by decide, w_1036, rfl, by decide +kernel, rfl⟩
set_option maxRecDepth 100000 in
theorem pfX8_20 : g_FP RX8 20 5 3 (.array .int) true := ⟨_, _, _, _, kX8, by decide, w_1037, rfl, by decide +kernel, rfl⟩
set_option maxRecDepth 100000 in
theorem pfX8_23 : g_FP RX8 23 5 5 (.array .int) true := ⟨_, _, _, _, kX8, by decide, w_1039, rfl, by decide +kernel, rfl⟩
set_option maxRecDepth 100000 in
theorem pfX8_26 : g_FP RX8 26 5 6 (.array .int) true := ⟨_, _, _, _, kX8, by decide, w_1040, rfl, by decide +kernel, rfl⟩
set_option maxRecDepth 100000 in
theorem pfX8_29 : g_FP RX8 29 5 8 (.array .int) true := ⟨_, _, _, _, kX8, by decide, w_1042, rfl, by decide +kernel, rfl⟩
set_option maxRecDepth 100000 in
theorem pfX8_32 : g_FP RX8 32 5 9 (.array .int) true := ⟨_, _, _, _, kX8, by decide, w_1043, rfl, by decide +kernel, rfl⟩
set_option maxRecDepth 100000 in
theorem pfX8_35 : g_FP RX8 35 5 10 (.array .int) true := ⟨_, _, _, _, kX8, by decide, w_1044, rfl, by decide +kernel, rfl⟩
set_option maxRecDepth 100000 in
theorem pfX8_38 : g_FP RX8 38 5 11 (.array .boolean) true := ⟨_, _, _, _, kX8, by decide, w_1045, rfl, by decide +kernel, rfl⟩
set_option maxRecDepth 100000 in
theorem pfX8_42 : g_FP RX8 42 5 14 (.array .int) true := ⟨_, _, _, _, kX8, by decide, w_1048, rfl, by decide +kernel, rfl⟩
set_option maxRecDepth 100000 in
theorem pfX8_45 : g_FP RX8 45 5 15 (.array .int) true := ⟨_, _, _, _, kX8, by decide, w_1049, rfl, by decide +kernel, rfl⟩
set_option maxRecDepth 100000 in
theorem pfX8_48 : g_FP RX8 48 5 16 (.array .int) true := ⟨_, _, _, _, kX8, by decide, w_1050, rfl, by decide +kernel, rfl⟩
set_option maxRecDepth 100000 in
theorem pfX8_51 : g_FP RX8 51 5 25 (.array .int) true := ⟨_, _, _, _, kX8, by decide, w_1059, rfl, by decide +kernel, rfl⟩
set_option maxRecDepth 100000 in
theorem pfX8_54 : g_FP RX8 54 5 26 (.array .int) true := ⟨_, _, _, _, kX8, by decide, w_1060, rfl, by decide +kernel, rfl⟩
set_option maxRecDepth 100000 in
theorem pfX8_57 : g_FP RX8 57 5 29 (.array .int) true := ⟨_, _, _, _, kX8, by decide, w_1063, rfl, by decide +kernel, rfl⟩
set_option maxRecDepth 100000 in
theorem pfX8_60 : g_FP RX8 60 5 30 (.array .int) true := ⟨_, _, _, _, kX8, by decide, w_1064, rfl, by decide +kernel, rfl⟩
set_option maxRecDepth 100000 in
theorem pfX8_63 : g_FP RX8 63 5 31 (.array .int) true := ⟨_, _, _, _, kX8, by decide, w_1065, rfl, by decide +kernel, rfl⟩
set_option maxRecDepth 100000 in
theorem pfX8_66 : g_FP RX8 66 5 32 (.array .int) true := ⟨_, _, _, _, kX8, by decide, w_1066, rfl, by decide +kernel, rfl⟩
set_option maxRecDepth 100000 in
theorem pfX8_69 : g_FP RX8 69 5 35 (.array .int) true := ⟨_, _, _, _, kX8, by decide, w_1069, rfl, by decide +kernel, rfl⟩
set_option maxRecDepth 100000 in
theorem pfX8_72 : g_FP RX8 72 5 36 (.array .int) true := ⟨_, _, _, _, kX8, by decide, w_1070, rfl, by decide +kernel, rfl⟩
set_option maxRecDepth 100000 in
theorem pfX8_75 : g_FP RX8 75 5 37 (.array .int) true := ⟨_, _, _, _, kX8, by decide, w_1071, rfl, by decide +kernel, rfl⟩
set_option maxRecDepth 100000 in
theorem pfX8_78 : g_FP RX8 78 5 38 (.array .int) true := ⟨_, _, _, _, kX8, by decide, w_1072, rfl, by decide +kernel, rfl⟩
set_option maxRecDepth 100000 in
theorem pfX8_81 : g_FP RX8 81 5 39 (.array .int) true := ⟨_, _, _, _, kX8, by decide, w_1073, rfl, by decide +kernel, rfl⟩
set_option maxRecDepth 100000 in
theorem pfX8_84 : g_FP RX8 84 5 40 (.array .int) true := ⟨_, _, _, _, kX8, by decide, w_1074, rfl, by decide +kernel, rfl⟩
set_option maxRecDepth 100000 in
theorem pfX8_87 : g_FP RX8 87 5 41 (.array .int) true := ⟨_, _, _, _, kX8, by decide, w_1075, rfl, by decide +kernel, rfl⟩
set_option maxRecDepth 100000 in
theorem pfX8_90 : g_FP RX8 90 5 42 (.array .int) true := ⟨_, _, _, _, kX8, by decide, w_1076, rfl, by decide +kernel, rfl⟩
set_option maxRecDepth 100000 in
theorem pfX8_93 : g_FP RX8 93 5 43 .int false := ⟨_, _, _, _, kX8, by decide, w_1077, rfl, by decide +kernel, rfl⟩
set_option maxRecDepth 100000 in
theorem fX8_108 : g_F RX8 108 5 4 := ⟨_, _, _, _, kX8, by decide, w_1038⟩
set_option maxRecDepth 100000 in
theorem fX8_13 : g_F RX8 13 5 1 := ⟨_, _, _, _, kX8, by decide, w_1035⟩
set_option maxRecDepth 100000 in
theorem fX8_17 : g_F RX8 17 5 2 := ⟨_, _, _, _, kX8, by decide, w_1036⟩
set_option maxRecDepth 100000 in
theorem fX8_20 : g_F RX8 20 5 3 := ⟨_, _, _, _, kX8, by decide, w_1037⟩
set_option maxRecDepth 100000 in
theorem pfX8_108 : g_FP RX8 108 5 4 .int false := ⟨_, _, _, _, kX8, by decide, w_1038, rfl, by decide +kernel, rfl⟩
set_option maxRecDepth 100000 in
theorem fX8_23 : g_F RX8 23 5 5 := ⟨_, _, _, _, kX8, by decide, w_1039⟩
set_option maxRecDepth 100000 in
theorem fX8_136 : g_F RX8 136 5 7 := ⟨_, _, _, _, kX8, by decide, w_1041⟩
set_option maxRecDepth 100000 in
theorem fX8_26 : g_F RX8 26 5 6 := ⟨_, _, _, _, kX8, by decide, w_1040⟩
set_option maxRecDepth 100000 in
theorem pfX8_136 : g_FP RX8 136 5 7 .int false := ⟨_, _, _, _, kX8, by decide, w_1041, rfl, by decide +kernel, rfl⟩
set_option maxRecDepth 100000 in
theorem fX8_29 : g_F RX8 29 5 8 := ⟨_, _, _, _, kX8, by decide, w_1042⟩
set_option maxRecDepth 100000 in
theorem fX8_32 : g_F RX8 32 5 9 := ⟨_, _, _, _, kX8, by decide, w_1043⟩
set_option maxRecDepth 100000 in
theorem fX8_35 : g_F RX8 35 5 10 := ⟨_, _, _, _, kX8, by decide, w_1044⟩
set_option maxRecDepth 100000 in
theorem fX8_38 : g_F RX8 38 5 11 := ⟨_, _, _, _, kX8, by decide, w_1045⟩
set_option maxRecDepth 100000 in
theorem pfX8_185 : g_FP RX8 185 5 13 .long false := ⟨_, _, _, _, kX8, by decide, w_1047, rfl, by decide +kernel, rfl⟩
set_option maxRecDepth 100000 in
theorem fX8_185 : g_F RX8 185 5 13 := ⟨_, _, _, _, kX8, by decide, w_1047⟩
set_option maxRecDepth 100000 in
theorem fX8_189 : g_F RX8 189 5 12 := ⟨_, _, _, _, kX8, by decide, w_1046⟩
set_option maxRecDepth 100000 in
theorem pfX8_189 : g_FP RX8 189 5 12 .long false := ⟨_, _, _, _, kX8, by decide, w_1046, rfl, by decide +kernel, rfl⟩
set_option maxRecDepth 100000 in
theorem fX8_48 : g_F RX8 48 5 16 := ⟨_, _, _, _, kX8, by decide, w_1050⟩
set_option maxRecDepth 100000 in
theorem fX8_42 : g_F RX8 42 5 14 := ⟨_, _, _, _, kX8, by decide, w_1048⟩
set_option maxRecDepth 100000 in
theorem fX8_45 : g_F RX8 45 5 15 := ⟨_, _, _, _, kX8, by decide, w_1049⟩
set_option maxRecDepth 100000 in
theorem pfX8_198 : g_FP RX8 198 5 17 .int false := ⟨_, _, _, _, kX8, by decide, w_1051, rfl, by decide +kernel, rfl⟩
set_option maxRecDepth 100000 in
theorem pfX8_201 : g_FP RX8 201 5 18 .int false := ⟨_, _, _, _, kX8, by decide, w_1052, rfl, by decide +kernel, rfl⟩
set_option maxRecDepth 100000 in
theorem pfX8_204 : g_FP RX8 204 5 19 .int false := ⟨_, _, _, _, kX8, by decide, w_1053, rfl, by decide +kernel, rfl⟩
set_option maxRecDepth 100000 in
theorem pfX8_207 : g_FP RX8 207 5 20 .int false := ⟨_, _, _, _, kX8, by decide, w_1054, rfl, by decide +kernel, rfl⟩
set_option maxRecDepth 100000 in
theorem pfX8_210 : g_FP RX8 210 5 21 .int false := ⟨_, _, _, _, kX8, by decide, w_1055, rfl, by decide +kernel, rfl⟩
set_option maxRecDepth 100000 in
theorem pfX8_213 : g_FP RX8 213 5 22 .int false := ⟨_, _, _, _, kX8, by decide, w_1056, rfl, by decide +kernel, rfl⟩
set_option maxRecDepth 100000 in
theorem pfX8_216 : g_FP RX8 216 5 23 .int false := ⟨_, _, _, _, kX8, by decide, w_1057, rfl, by decide +kernel, rfl⟩
set_option maxRecDepth 100000 in
theorem pfX8_219 : g_FP RX8 219 5 24 .int false := ⟨_, _, _, _, kX8, by decide, w_1058, rfl, by decide +kernel, rfl⟩
set_option maxRecDepth 100000 in
theorem fX8_198 : g_F RX8 198 5 17 := ⟨_, _, _, _, kX8, by decide, w_1051⟩
set_option maxRecDepth 100000 in
theorem fX8_201 : g_F RX8 201 5 18 := ⟨_, _, _, _, kX8, by decide, w_1052⟩
set_option maxRecDepth 100000 in
theorem fX8_204 : g_F RX8 204 5 19 := ⟨_, _, _, _, kX8, by decide, w_1053⟩
set_option maxRecDepth 100000 in
theorem fX8_207 : g_F RX8 207 5 20 := ⟨_, _, _, _, kX8, by decide, w_1054⟩
set_option maxRecDepth 100000 in
theorem fX8_210 : g_F RX8 210 5 21 := ⟨_, _, _, _, kX8, by decide, w_1055⟩
set_option maxRecDepth 100000 in
theorem fX8_213 : g_F RX8 213 5 22 := ⟨_, _, _, _, kX8, by decide, w_1056⟩
set_option maxRecDepth 100000 in
theorem fX8_216 : g_F RX8 216 5 23 := ⟨_, _, _, _, kX8, by decide, w_1057⟩
set_option maxRecDepth 100000 in
theorem fX8_219 : g_F RX8 219 5 24 := ⟨_, _, _, _, kX8, by decide, w_1058⟩
set_option maxRecDepth 100000 in
theorem fX8_51 : g_F RX8 51 5 25 := ⟨_, _, _, _, kX8, by decide, w_1059⟩
set_option maxRecDepth 100000 in
theorem fX8_252 : g_F RX8 252 5 27 := ⟨_, _, _, _, kX8, by decide, w_1061⟩
set_option maxRecDepth 100000 in
theorem fX8_54 : g_F RX8 54 5 26 := ⟨_, _, _, _, kX8, by decide, w_1060⟩
set_option maxRecDepth 100000 in
theorem fX8_259 : g_F RX8 259 5 28 := ⟨_, _, _, _, kX8, by decide, w_1062⟩
set_option maxRecDepth 100000 in
theorem pfX8_259 : g_FP RX8 259 5 28 .int false := ⟨_, _, _, _, kX8, by decide, w_1062, rfl, by decide +kernel, rfl⟩
set_option maxRecDepth 100000 in
theorem pfX8_252 : g_FP RX8 252 5 27 .int false := ⟨_, _, _, _, kX8, by decide, w_1061, rfl, by decide +kernel, rfl⟩
set_option maxRecDepth 100000 in
theorem fX8_281 : g_F RX8 281 5 33 := ⟨_, _, _, _, kX8, by decide, w_1067⟩
set_option maxRecDepth 100000 in
theorem fX8_57 : g_F RX8 57 5 29 := ⟨_, _, _, _, kX8, by decide, w_1063⟩
set_option maxRecDepth 100000 in
theorem fX8_60 : g_F RX8 60 5 30 := ⟨_, _, _, _, kX8, by decide, w_1064⟩
set_option maxRecDepth 100000 in
theorem fX8_63 : g_F RX8 63 5 31 := ⟨_, _, _, _, kX8, by decide, w_1065⟩
set_option maxRecDepth 100000 in
theorem fX8_66 : g_F RX8 66 5 32 := ⟨_, _, _, _, kX8, by decide, w_1066⟩
set_option maxRecDepth 100000 in
theorem pfX8_281 : g_FP RX8 281 5 33 .int false := ⟨_, _, _, _, kX8, by decide, w_1067, rfl, by decide +kernel, rfl⟩
set_option maxRecDepth 100000 in
theorem pfX8_290 : g_FP RX8 290 5 34 .int false := ⟨_, _, _, _, kX8, by decide, w_1068, rfl, by decide +kernel, rfl⟩
set_option maxRecDepth 100000 in
theorem fX8_290 : g_F RX8 290 5 34 := ⟨_, _, _, _, kX8, by decide, w_1068⟩
set_option maxRecDepth 100000 in
theorem fX8_69 : g_F RX8 69 5 35 := ⟨_, _, _, _, kX8, by decide, w_1069⟩
set_option maxRecDepth 100000 in
theorem fX8_72 : g_F RX8 72 5 36 := ⟨_, _, _, _, kX8, by decide, w_1070⟩
set_option maxRecDepth 100000 in
theorem fX8_75 : g_F RX8 75 5 37 := ⟨_, _, _, _, kX8, by decide, w_1071⟩
set_option maxRecDepth 100000 in
theorem fX8_78 : g_F RX8 78 5 38 := ⟨_, _, _, _, kX8, by decide, w_1072⟩
set_option maxRecDepth 100000 in
theorem fX8_81 : g_F RX8 81 5 39 := ⟨_, _, _, _, kX8, by decide, w_1073⟩
set_option maxRecDepth 100000 in
theorem fX8_84 : g_F RX8 84 5 40 := ⟨_, _, _, _, kX8, by decide, w_1074⟩
set_option maxRecDepth 100000 in
theorem fX8_87 : g_F RX8 87 5 41 := ⟨_, _, _, _, kX8, by decide, w_1075⟩
set_option maxRecDepth 100000 in
theorem fX8_90 : g_F RX8 90 5 42 := ⟨_, _, _, _, kX8, by decide, w_1076⟩
set_option maxRecDepth 100000 in
theorem pfX8_313 : g_FP RX8 313 5 44 .int false := ⟨_, _, _, _, kX8, by decide, w_1078, rfl, by decide +kernel, rfl⟩
set_option maxRecDepth 100000 in
theorem fX8_93 : g_F RX8 93 5 43 := ⟨_, _, _, _, kX8, by decide, w_1077⟩
set_option maxRecDepth 100000 in
theorem fX8_313 : g_F RX8 313 5 44 := ⟨_, _, _, _, kX8, by decide, w_1078⟩
set_option maxRecDepth 100000 in
theorem qcX4_13 : g_MM RX4 13 Lib.Math.max.name Lib.Math.max.code 2 .int := ⟨w_100, w_101, w_66, w_102⟩
set_option maxRecDepth 100000 in
theorem qcX4_29 : g_cV RX4 29 mX4_xAt 1 := ⟨rfl, ⟨w_337, w_65, w_225, by decide +kernel⟩, w_223, w_224⟩
set_option maxRecDepth 100000 in
theorem qcX4_33 : g_cV RX4 33 mX4_yAt 1 := ⟨rfl, ⟨w_338, w_65, w_229, by decide +kernel⟩, w_227, w_228⟩
set_option maxRecDepth 100000 in
theorem qcX4_36 : g_cV RX4 36 mX4_put 4 := ⟨rfl, ⟨w_347, w_65, w_350, by decide +kernel⟩, w_349, w_0⟩
set_option maxRecDepth 100000 in
theorem qcX4_40 : g_cV RX4 40 mX4_isBehind 3 := ⟨rfl, ⟨w_391, w_65, w_394, by decide +kernel⟩, w_393, w_3⟩
set_option maxRecDepth 100000 in
theorem qcX4_44 : g_cV RX4 44 mX4_markAt 1 := ⟨rfl, ⟨w_339, w_65, w_342, by decide +kernel⟩, w_340, w_341⟩
set_option maxRecDepth 100000 in
theorem qcX4_47 : g_cV RX4 47 mX4_reset 0 := ⟨rfl, ⟨w_336, w_65, w_297, by decide +kernel⟩, w_295, w_296⟩
set_option maxRecDepth 100000 in
theorem qcX4_50 : g_cV RX4 50 mX4_append 3 := ⟨rfl, ⟨w_343, w_65, w_346, by decide +kernel⟩, w_344, w_345⟩
set_option maxRecDepth 100000 in
theorem qcX3_7 : g_MM RX3 7 Lib.MathLoose.min_long.x Lib.MathLoose.min_long.code 4 .long := ⟨w_275, w_276, w_66, w_277⟩
set_option maxRecDepth 100000 in
theorem qcX3_13 : g_MM RX3 13 Lib.MathLoose.max_long.x Lib.MathLoose.max_long.code 4 .long := ⟨w_278, w_279, w_66, w_280⟩
set_option maxRecDepth 100000 in
theorem qcX3_16 : g_cS RX3 16 mX3_twist 6 := ⟨rfl, ⟨w_281, w_76, w_283, by decide +kernel⟩, w_282⟩
set_option maxRecDepth 100000 in
theorem qcX3_22 : g_cV RX3 22 mX4_xAt 1 := ⟨rfl, ⟨w_315, w_65, w_225, by decide +kernel⟩, w_223, w_224⟩
set_option maxRecDepth 100000 in
theorem qcX3_28 : g_cV RX3 28 mX4_yAt 1 := ⟨rfl, ⟨w_316, w_65, w_229, by decide +kernel⟩, w_227, w_228⟩
set_option maxRecDepth 100000 in
theorem qcX3_31 : g_cS RX3 31 mX3_isOn 6 := ⟨rfl, ⟨w_323, w_76, w_274, by decide +kernel⟩, w_273⟩
set_option maxRecDepth 100000 in
theorem qcX3_35 : g_cS RX3 35 mX3_signOf 1 := ⟨rfl, ⟨w_317, w_76, w_319, by decide +kernel⟩, w_318⟩
set_option maxRecDepth 100000 in
theorem qcX3_39 : g_cS RX3 39 mX3_side 5 := ⟨rfl, ⟨w_312, w_76, w_314, by decide +kernel⟩, w_313⟩
set_option maxRecDepth 100000 in
theorem qcX3_43 : g_cS RX3 43 mX3_passThrough 6 := ⟨rfl, ⟨w_309, w_76, w_311, by decide +kernel⟩, w_310⟩
set_option maxRecDepth 100000 in
theorem qcX3_47 : g_cS RX3 47 mX3_isBetween 5 := ⟨rfl, ⟨w_320, w_76, w_322, by decide +kernel⟩, w_321⟩
set_option maxRecDepth 100000 in
theorem qcX3_51 : g_MM RX3 51 Lib.MathLoose.abs_long.x Lib.MathLoose.abs_long.code 2 .long := ⟨w_246, w_247, w_66, w_248⟩
set_option maxRecDepth 100000 in
theorem qcX5_7 : g_cV RX5 7 mX4_next 1 := ⟨rfl, ⟨w_218, w_65, w_221, by decide +kernel⟩, w_219, w_220⟩
set_option maxRecDepth 100000 in
theorem qcX5_13 : g_cV RX5 13 mX4_xAt 1 := ⟨rfl, ⟨w_222, w_65, w_225, by decide +kernel⟩, w_223, w_224⟩
set_option maxRecDepth 100000 in
theorem qcX5_16 : g_cV RX5 16 mX4_yAt 1 := ⟨rfl, ⟨w_226, w_65, w_229, by decide +kernel⟩, w_227, w_228⟩
set_option maxRecDepth 100000 in
theorem qcX5_19 : g_cS RX5 19 mX3_twist 6 := ⟨rfl, ⟨w_284, w_76, w_283, by decide +kernel⟩, w_282⟩
set_option maxRecDepth 100000 in
theorem qcX5_25 : g_cV RX5 25 mX4_size 0 := ⟨rfl, ⟨w_217, w_65, w_209, by decide +kernel⟩, w_207, w_208⟩
set_option maxRecDepth 100000 in
theorem qcX5_29 : g_cS RX5 29 mX5_runOf 2 := ⟨rfl, ⟨w_237, w_79, w_239, by decide +kernel⟩, w_238⟩
set_option maxRecDepth 100000 in
theorem qcX5_35 : g_cS RX5 35 mX5_riseOf 2 := ⟨rfl, ⟨w_240, w_79, w_242, by decide +kernel⟩, w_241⟩
set_option maxRecDepth 100000 in
theorem qcX5_38 : g_cS RX5 38 mX3_commonDivisor 2 := ⟨rfl, ⟨w_243, w_76, w_245, by decide +kernel⟩, w_244⟩
set_option maxRecDepth 100000 in
theorem qcX5_42 : g_cS RX5 42 mX5_stepsAlong 2 := ⟨rfl, ⟨w_252, w_79, w_236, by decide +kernel⟩, w_235⟩
set_option maxRecDepth 100000 in
theorem qcX5_45 : g_cS RX5 45 mX5_doubledArea 1 := ⟨rfl, ⟨w_260, w_79, w_216, by decide +kernel⟩, w_215⟩
set_option maxRecDepth 100000 in
theorem qcX5_49 : g_MM RX5 49 Lib.Math.abs.name Lib.Math.abs.code 1 .int := ⟨w_261, w_262, w_66, w_263⟩
set_option maxRecDepth 100000 in
theorem qcX5_54 : g_cS RX5 54 mX5_stepsRound 1 := ⟨rfl, ⟨w_264, w_79, w_251, by decide +kernel⟩, w_250⟩
set_option maxRecDepth 100000 in
theorem qcX5_57 : g_cS RX5 57 mX3_isOn 6 := ⟨rfl, ⟨w_272, w_76, w_274, by decide +kernel⟩, w_273⟩
set_option maxRecDepth 100000 in
theorem qcX5_65 : g_cS RX5 65 mX5_twistOf 4 := ⟨rfl, ⟨w_809, w_79, w_494, by decide +kernel⟩, w_493⟩
set_option maxRecDepth 100000 in
theorem qcX5_69 : g_MM RX5 69 Lib.MathLoose.max_long.x Lib.MathLoose.max_long.code 4 .long := ⟨w_810, w_279, w_66, w_280⟩
set_option maxRecDepth 100000 in
theorem qcX5_61 : g_cS RX5 61 mX5_reachFrom 2 := ⟨rfl, ⟨w_806, w_79, w_808, by decide +kernel⟩, w_807⟩
set_option maxRecDepth 100000 in
theorem qcX5_80 : g_cV RX5 80 mX4_previous 1 := ⟨rfl, ⟨w_425, w_65, w_428, by decide +kernel⟩, w_426, w_427⟩
set_option maxRecDepth 100000 in
theorem qcX5_83 : g_cS RX5 83 mX3_isBetween 5 := ⟨rfl, ⟨w_429, w_76, w_322, by decide +kernel⟩, w_321⟩
set_option maxRecDepth 100000 in
theorem qcX5_72 : g_cS RX5 72 mX5_foldsBack 2 := ⟨rfl, ⟨w_422, w_79, w_424, by decide +kernel⟩, w_423⟩
set_option maxRecDepth 100000 in
theorem qcX5_76 : g_cS RX5 76 mX3_meet 6 := ⟨rfl, ⟨w_430, w_76, w_308, by decide +kernel⟩, w_307⟩
set_option maxRecDepth 100000 in
theorem qcX5_94 : g_cS RX5 94 mX5_whereIs 4 := ⟨rfl, ⟨w_910, w_79, w_271, by decide +kernel⟩, w_270⟩
set_option maxRecDepth 100000 in
theorem qcX5_87 : g_cS RX5 87 mX3_passThrough 6 := ⟨rfl, ⟨w_906, w_76, w_311, by decide +kernel⟩, w_310⟩
set_option maxRecDepth 100000 in
theorem qcX5_90 : g_cS RX5 90 mX5_whereIsMiddle 3 := ⟨rfl, ⟨w_907, w_79, w_909, by decide +kernel⟩, w_908⟩
set_option maxRecDepth 100000 in
theorem qcX1_16 : g_cV RX1 16 mX4_xAt 1 := ⟨rfl, ⟨w_400, w_65, w_225, by decide +kernel⟩, w_223, w_224⟩
set_option maxRecDepth 100000 in
theorem qcX1_20 : g_cV RX1 20 mX4_yAt 1 := ⟨rfl, ⟨w_401, w_65, w_229, by decide +kernel⟩, w_227, w_228⟩
set_option maxRecDepth 100000 in
theorem qcX1_44 : g_cS RX1 44 mX3_twist 6 := ⟨rfl, ⟨w_412, w_76, w_283, by decide +kernel⟩, w_282⟩
set_option maxRecDepth 100000 in
theorem qcX1_12 : g_cV RX1 12 mX4_size 0 := ⟨rfl, ⟨w_399, w_65, w_209, by decide +kernel⟩, w_207, w_208⟩
set_option maxRecDepth 100000 in
theorem qcX1_32 : g_cV RX1 32 mX4_isAt 3 := ⟨rfl, ⟨w_405, w_65, w_408, by decide +kernel⟩, w_406, w_407⟩
set_option maxRecDepth 100000 in
theorem qcX1_36 : g_cS RX1 36 mX1_turnsLeft 4 := ⟨rfl, ⟨w_409, w_78, w_411, by decide +kernel⟩, w_410⟩
set_option maxRecDepth 100000 in
theorem qcX1_29 : g_cV RX1 29 mX4_shorten 0 := ⟨rfl, ⟨w_413, w_65, w_416, by decide +kernel⟩, w_414, w_415⟩
set_option maxRecDepth 100000 in
theorem qcX1_40 : g_cV RX1 40 mX4_append 3 := ⟨rfl, ⟨w_417, w_65, w_346, by decide +kernel⟩, w_344, w_345⟩
set_option maxRecDepth 100000 in
theorem qcX1_7 : g_cV RX1 7 mX4_reset 0 := ⟨rfl, ⟨w_398, w_65, w_297, by decide +kernel⟩, w_295, w_296⟩
set_option maxRecDepth 100000 in
theorem qcX1_23 : g_cS RX1 23 mX1_bendTo 4 := ⟨rfl, ⟨w_402, w_78, w_404, by decide +kernel⟩, w_403⟩
set_option maxRecDepth 100000 in
theorem qcX1_50 : g_cS RX1 50 mX1_wrap 2 := ⟨rfl, ⟨w_758, w_78, w_397, by decide +kernel⟩, w_396⟩
set_option maxRecDepth 100000 in
theorem qcX1_54 : g_cS RX1 54 mX5_whereIs 4 := ⟨rfl, ⟨w_759, w_79, w_271, by decide +kernel⟩, w_270⟩
set_option maxRecDepth 100000 in
theorem qcX1_60 : g_cV RX1 60 mX4_remove 1 := ⟨rfl, ⟨w_760, w_65, w_499, by decide +kernel⟩, w_497, w_498⟩
set_option maxRecDepth 100000 in
theorem qcX1_68 : g_cS RX1 68 mX5_runOf 2 := ⟨rfl, ⟨w_742, w_79, w_239, by decide +kernel⟩, w_238⟩
set_option maxRecDepth 100000 in
theorem qcX1_72 : g_cS RX1 72 mX5_riseOf 2 := ⟨rfl, ⟨w_743, w_79, w_242, by decide +kernel⟩, w_241⟩
set_option maxRecDepth 100000 in
theorem qcX1_75 : g_cS RX1 75 mX1_goesOut 2 := ⟨rfl, ⟨w_744, w_78, w_746, by decide +kernel⟩, w_745⟩
set_option maxRecDepth 100000 in
theorem qcX1_79 : g_cS RX1 79 mX3_signOf 1 := ⟨rfl, ⟨w_747, w_76, w_319, by decide +kernel⟩, w_318⟩
set_option maxRecDepth 100000 in
theorem qcX1_64 : g_cS RX1 64 mX1_compareEdges 4 := ⟨rfl, ⟨w_739, w_78, w_741, by decide +kernel⟩, w_740⟩
set_option maxRecDepth 100000 in
theorem qcX1_83 : g_cS RX1 83 mX1_hasCornerIn 2 := ⟨rfl, ⟨w_1004, w_78, w_1006, by decide +kernel⟩, w_1005⟩
set_option maxRecDepth 100000 in
theorem qcX1_87 : g_cV RX1 87 mX4_next 1 := ⟨rfl, ⟨w_1007, w_65, w_221, by decide +kernel⟩, w_219, w_220⟩
set_option maxRecDepth 100000 in
theorem qcX1_90 : g_cS RX1 90 mX3_meet 6 := ⟨rfl, ⟨w_1008, w_76, w_308, by decide +kernel⟩, w_307⟩
set_option maxRecDepth 100000 in
theorem qcX6_11 : g_cI RX6 11 mX4_init 1 := ⟨rfl, ⟨w_96, w_65, w_98, by decide +kernel⟩, rfl, rfl, w_97⟩
set_option maxRecDepth 100000 in
theorem qcX6_30 : g_cV RX6 30 mX4_size 0 := ⟨rfl, ⟨w_293, w_65, w_209, by decide +kernel⟩, w_207, w_208⟩
set_option maxRecDepth 100000 in
theorem qcX6_34 : g_cV RX6 34 mX4_markAt 1 := ⟨rfl, ⟨w_384, w_65, w_342, by decide +kernel⟩, w_340, w_341⟩
set_option maxRecDepth 100000 in
theorem qcX6_38 : g_cV RX6 38 mX4_xAt 1 := ⟨rfl, ⟨w_385, w_65, w_225, by decide +kernel⟩, w_223, w_224⟩
set_option maxRecDepth 100000 in
theorem qcX6_41 : g_cV RX6 41 mX4_yAt 1 := ⟨rfl, ⟨w_386, w_65, w_229, by decide +kernel⟩, w_227, w_228⟩
set_option maxRecDepth 100000 in
theorem qcX6_44 : g_cV RX6 44 mX4_insertInOrder 3 := ⟨rfl, ⟨w_387, w_65, w_390, by decide +kernel⟩, w_388, w_389⟩
set_option maxRecDepth 100000 in
theorem qcX6_48 : g_cV RX6 48 mX6_squaredDistance 2 := ⟨rfl, ⟨w_962, w_64, w_965, by decide +kernel⟩, w_963, w_964⟩
set_option maxRecDepth 100000 in
theorem qcX6_52 : g_cS RX6 52 mX3_meet 6 := ⟨rfl, ⟨w_306, w_76, w_308, by decide +kernel⟩, w_307⟩
set_option maxRecDepth 100000 in
theorem qcX6_58 : g_cV RX6 58 mX4_copyFrom 1 := ⟨rfl, ⟨w_332, w_65, w_335, by decide +kernel⟩, w_333, w_334⟩
set_option maxRecDepth 100000 in
theorem qcX6_62 : g_cV RX6 62 mX6_polygonAt 1 := ⟨rfl, ⟨w_351, w_64, w_354, by decide +kernel⟩, w_352, w_353⟩
set_option maxRecDepth 100000 in
theorem qcX2_11 : g_cI RX2 11 mX4_init 1 := ⟨rfl, ⟨w_142, w_65, w_98, by decide +kernel⟩, rfl, rfl, w_97⟩
set_option maxRecDepth 100000 in
theorem qcX2_56 : g_cV RX2 56 mX4_previous 1 := ⟨rfl, ⟨w_484, w_65, w_428, by decide +kernel⟩, w_426, w_427⟩
set_option maxRecDepth 100000 in
theorem qcX2_59 : g_cV RX2 59 mX4_next 1 := ⟨rfl, ⟨w_485, w_65, w_221, by decide +kernel⟩, w_219, w_220⟩
set_option maxRecDepth 100000 in
theorem qcX2_86 : g_cS RX2 86 mX3_side 5 := ⟨rfl, ⟨w_486, w_76, w_314, by decide +kernel⟩, w_313⟩
set_option maxRecDepth 100000 in
theorem qcX2_48 : g_cV RX2 48 mX4_size 0 := ⟨rfl, ⟨w_475, w_65, w_209, by decide +kernel⟩, w_207, w_208⟩
set_option maxRecDepth 100000 in
theorem qcX2_82 : g_cV RX2 82 mX2_isEar 2 := ⟨rfl, ⟨w_480, w_67, w_483, by decide +kernel⟩, w_482, w_7⟩
set_option maxRecDepth 100000 in
theorem qcX2_69 : g_cV RX2 69 mX4_markAt 1 := ⟨rfl, ⟨w_491, w_65, w_342, by decide +kernel⟩, w_340, w_341⟩
set_option maxRecDepth 100000 in
theorem qcX2_72 : g_cS RX2 72 mX5_twistOf 4 := ⟨rfl, ⟨w_492, w_79, w_494, by decide +kernel⟩, w_493⟩
set_option maxRecDepth 100000 in
theorem qcX2_76 : g_MM RX2 76 Lib.MathLoose.abs_long.x Lib.MathLoose.abs_long.code 2 .long := ⟨w_495, w_247, w_66, w_248⟩
set_option maxRecDepth 100000 in
theorem qcX2_32 : g_cV RX2 32 mX4_copyFrom 1 := ⟨rfl, ⟨w_472, w_65, w_335, by decide +kernel⟩, w_333, w_334⟩
set_option maxRecDepth 100000 in
theorem qcX2_36 : g_cS RX2 36 mX5_doubledArea 1 := ⟨rfl, ⟨w_473, w_79, w_216, by decide +kernel⟩, w_215⟩
set_option maxRecDepth 100000 in
theorem qcX2_42 : g_cS RX2 42 mX3_signOf 1 := ⟨rfl, ⟨w_474, w_76, w_319, by decide +kernel⟩, w_318⟩
set_option maxRecDepth 100000 in
theorem qcX2_52 : g_cV RX2 52 mX2_firstEar 1 := ⟨rfl, ⟨w_476, w_67, w_479, by decide +kernel⟩, w_478, w_6⟩
set_option maxRecDepth 100000 in
theorem qcX2_62 : g_cV RX2 62 mX2_keepTriangle 3 := ⟨rfl, ⟨w_487, w_67, w_490, by decide +kernel⟩, w_489, w_8⟩
set_option maxRecDepth 100000 in
theorem qcX2_66 : g_cV RX2 66 mX4_remove 1 := ⟨rfl, ⟨w_496, w_65, w_499, by decide +kernel⟩, w_497, w_498⟩
set_option maxRecDepth 100000 in
theorem qcX0_11 : g_cI RX0 11 mX4_init 1 := ⟨rfl, ⟨w_163, w_65, w_98, by decide +kernel⟩, rfl, rfl, w_97⟩
set_option maxRecDepth 100000 in
theorem qcX0_37 : g_cV RX0 37 mX4_reset 0 := ⟨rfl, ⟨w_444, w_65, w_297, by decide +kernel⟩, w_295, w_296⟩
set_option maxRecDepth 100000 in
theorem qcX0_40 : g_cV RX0 40 mX4_size 0 := ⟨rfl, ⟨w_445, w_65, w_209, by decide +kernel⟩, w_207, w_208⟩
set_option maxRecDepth 100000 in
theorem qcX0_43 : g_cS RX0 43 mX5_riseOf 2 := ⟨rfl, ⟨w_446, w_79, w_242, by decide +kernel⟩, w_241⟩
set_option maxRecDepth 100000 in
theorem qcX0_46 : g_cV RX0 46 mX4_next 1 := ⟨rfl, ⟨w_447, w_65, w_221, by decide +kernel⟩, w_219, w_220⟩
set_option maxRecDepth 100000 in
theorem qcX0_50 : g_cV RX0 50 mX4_yAt 1 := ⟨rfl, ⟨w_448, w_65, w_229, by decide +kernel⟩, w_227, w_228⟩
set_option maxRecDepth 100000 in
theorem qcX0_53 : g_cV RX0 53 mX4_xAt 1 := ⟨rfl, ⟨w_449, w_65, w_225, by decide +kernel⟩, w_223, w_224⟩
set_option maxRecDepth 100000 in
theorem qcX0_56 : g_cS RX0 56 mJ9_floorDiv_7cf53 2 := ⟨rfl, ⟨w_450, w_66, w_452, by decide +kernel⟩, w_451⟩
set_option maxRecDepth 100000 in
theorem qcX0_62 : g_cV RX0 62 mX4_insertInOrder 3 := ⟨rfl, ⟨w_453, w_65, w_390, by decide +kernel⟩, w_388, w_389⟩
set_option maxRecDepth 100000 in
theorem qcX0_66 : g_cS RX0 66 mX0_firstInside 2 := ⟨rfl, ⟨w_458, w_68, w_460, by decide +kernel⟩, w_459⟩
set_option maxRecDepth 100000 in
theorem qcX0_69 : g_MM RX0 69 Lib.Math.max.name Lib.Math.max.code 2 .int := ⟨w_461, w_101, w_66, w_102⟩
set_option maxRecDepth 100000 in
theorem qcX0_72 : g_cS RX0 72 mX0_lastInside 2 := ⟨rfl, ⟨w_462, w_68, w_464, by decide +kernel⟩, w_463⟩
set_option maxRecDepth 100000 in
theorem qcX0_75 : g_MM RX0 75 Lib.Math.min.name Lib.Math.min.code 2 .int := ⟨w_465, w_466, w_66, w_467⟩
set_option maxRecDepth 100000 in
theorem qcX0_23 : g_cS RX0 23 mX5_bound 2 := ⟨rfl, ⟨w_440, w_79, w_367, by decide +kernel⟩, w_366⟩
set_option maxRecDepth 100000 in
theorem qcX0_29 : g_cS RX0 29 mX0_cut 4 := ⟨rfl, ⟨w_441, w_68, w_443, by decide +kernel⟩, w_442⟩
set_option maxRecDepth 100000 in
theorem qcX0_33 : g_cV RX0 33 mX0_countCommon 0 := ⟨rfl, ⟨w_454, w_68, w_457, by decide +kernel⟩, w_456, w_5⟩
set_option maxRecDepth 100000 in
theorem qcX7_11 : g_cI RX7 11 mX6_init 0 := ⟨rfl, ⟨w_90, w_64, w_92, by decide +kernel⟩, rfl, rfl, w_91⟩
set_option maxRecDepth 100000 in
theorem qcX7_25 : g_cI RX7 25 mX4_init 1 := ⟨rfl, ⟨w_134, w_65, w_98, by decide +kernel⟩, rfl, rfl, w_97⟩
set_option maxRecDepth 100000 in
theorem qcX7_58 : g_cS RX7 58 mX7_requireHeap 1 := ⟨rfl, ⟨w_513, w_63, w_515, by decide +kernel⟩, w_514⟩
set_option maxRecDepth 100000 in
theorem qcX7_61 : g_cS RX7 61 mX7_requireNear 2 := ⟨rfl, ⟨w_585, w_63, w_587, by decide +kernel⟩, w_586⟩
set_option maxRecDepth 100000 in
theorem qcX7_68 : g_cV RX7 68 mX4_size 0 := ⟨rfl, ⟨w_206, w_65, w_209, by decide +kernel⟩, w_207, w_208⟩
set_option maxRecDepth 100000 in
theorem qcX7_79 : g_cV RX7 79 mX4_append 3 := ⟨rfl, ⟨w_605, w_65, w_346, by decide +kernel⟩, w_344, w_345⟩
set_option maxRecDepth 100000 in
theorem qcX7_293 : g_cV RX7 293 mX6_hasPoint 1 := ⟨rfl, ⟨w_618, w_64, w_621, by decide +kernel⟩, w_619, w_620⟩
set_option maxRecDepth 100000 in
theorem qcX7_83 : g_cV RX7 83 mX7_requirePoint 1 := ⟨rfl, ⟨w_614, w_63, w_617, by decide +kernel⟩, w_616, w_10⟩
set_option maxRecDepth 100000 in
theorem qcX7_86 : g_cV RX7 86 mX4_markAt 1 := ⟨rfl, ⟨w_638, w_65, w_342, by decide +kernel⟩, w_340, w_341⟩
set_option maxRecDepth 100000 in
theorem qcX7_90 : g_cV RX7 90 mX4_mark 2 := ⟨rfl, ⟨w_639, w_65, w_642, by decide +kernel⟩, w_640, w_641⟩
set_option maxRecDepth 100000 in
theorem qcX7_93 : g_cV RX7 93 mX6_heapSize 1 := ⟨rfl, ⟨w_643, w_64, w_646, by decide +kernel⟩, w_644, w_645⟩
set_option maxRecDepth 100000 in
theorem qcX7_96 : g_cV RX7 96 mX4_xAt 1 := ⟨rfl, ⟨w_359, w_65, w_225, by decide +kernel⟩, w_223, w_224⟩
set_option maxRecDepth 100000 in
theorem qcX7_99 : g_cV RX7 99 mX4_yAt 1 := ⟨rfl, ⟨w_360, w_65, w_229, by decide +kernel⟩, w_227, w_228⟩
set_option maxRecDepth 100000 in
theorem qcX7_168 : g_cV RX7 168 mX4_reset 0 := ⟨rfl, ⟨w_294, w_65, w_297, by decide +kernel⟩, w_295, w_296⟩
set_option maxRecDepth 100000 in
theorem qcX7_137 : g_cV RX7 137 mX6_putInOrder 2 := ⟨rfl, ⟨w_380, w_64, w_383, by decide +kernel⟩, w_381, w_382⟩
set_option maxRecDepth 100000 in
theorem qcX7_107 : g_cV RX7 107 mX7_orderHeap 1 := ⟨rfl, ⟨w_376, w_63, w_379, by decide +kernel⟩, w_378, w_2⟩
set_option maxRecDepth 100000 in
theorem qcX7_115 : g_cV RX7 115 mX4_isAt 3 := ⟨rfl, ⟨w_677, w_65, w_408, by decide +kernel⟩, w_406, w_407⟩
set_option maxRecDepth 100000 in
theorem qcX7_119 : g_cS RX7 119 mX3_side 5 := ⟨rfl, ⟨w_685, w_76, w_314, by decide +kernel⟩, w_313⟩
set_option maxRecDepth 100000 in
theorem qcX7_125 : g_cV RX7 125 mX7_requireFilled 1 := ⟨rfl, ⟨w_694, w_63, w_697, by decide +kernel⟩, w_696, w_11⟩
set_option maxRecDepth 100000 in
theorem qcX7_128 : g_cS RX7 128 mX1_wrap 2 := ⟨rfl, ⟨w_395, w_78, w_397, by decide +kernel⟩, w_396⟩
set_option maxRecDepth 100000 in
theorem qcX7_134 : g_cV RX7 134 mX7_requireTwoFilled 2 := ⟨rfl, ⟨w_721, w_63, w_724, by decide +kernel⟩, w_723, w_12⟩
set_option maxRecDepth 100000 in
theorem qcX7_141 : g_cV RX7 141 mX7_wrapTwo 2 := ⟨rfl, ⟨w_732, w_63, w_735, by decide +kernel⟩, w_734, w_13⟩
set_option maxRecDepth 100000 in
theorem qcX7_144 : g_cS RX7 144 mX1_addUp 3 := ⟨rfl, ⟨w_736, w_78, w_738, by decide +kernel⟩, w_737⟩
set_option maxRecDepth 100000 in
theorem qcX7_148 : g_cS RX7 148 mX1_peel 2 := ⟨rfl, ⟨w_755, w_78, w_757, by decide +kernel⟩, w_756⟩
set_option maxRecDepth 100000 in
theorem qcX7_151 : g_MM RX7 151 Lib.Math.min.name Lib.Math.min.code 2 .int := ⟨w_768, w_466, w_66, w_467⟩
set_option maxRecDepth 100000 in
theorem qcX7_283 : g_cV RX7 283 mX6_polygonAt 1 := ⟨rfl, ⟨w_418, w_64, w_354, by decide +kernel⟩, w_352, w_353⟩
set_option maxRecDepth 100000 in
theorem qcX7_159 : g_cV RX7 159 mX7_requirePolygon 1 := ⟨rfl, ⟨w_777, w_63, w_780, by decide +kernel⟩, w_779, w_14⟩
set_option maxRecDepth 100000 in
theorem qcX7_171 : g_cV RX7 171 mX4_insertInOrder 3 := ⟨rfl, ⟨w_783, w_65, w_390, by decide +kernel⟩, w_388, w_389⟩
set_option maxRecDepth 100000 in
theorem qcX7_174 : g_cS RX7 174 mX7_requireCorner 2 := ⟨rfl, ⟨w_791, w_63, w_793, by decide +kernel⟩, w_792⟩
set_option maxRecDepth 100000 in
theorem qcX7_178 : g_cS RX7 178 mX5_doubledArea 1 := ⟨rfl, ⟨w_214, w_79, w_216, by decide +kernel⟩, w_215⟩
set_option maxRecDepth 100000 in
theorem qcX7_184 : g_cS RX7 184 mX5_stepsAlong 2 := ⟨rfl, ⟨w_234, w_79, w_236, by decide +kernel⟩, w_235⟩
set_option maxRecDepth 100000 in
theorem qcX7_188 : g_cS RX7 188 mX5_stepsRound 1 := ⟨rfl, ⟨w_249, w_79, w_251, by decide +kernel⟩, w_250⟩
set_option maxRecDepth 100000 in
theorem qcX7_191 : g_cS RX7 191 mX5_placesInside 1 := ⟨rfl, ⟨w_257, w_79, w_259, by decide +kernel⟩, w_258⟩
set_option maxRecDepth 100000 in
theorem qcX7_194 : g_cS RX7 194 mX5_whereIs 4 := ⟨rfl, ⟨w_269, w_79, w_271, by decide +kernel⟩, w_270⟩
set_option maxRecDepth 100000 in
theorem qcX7_200 : g_cS RX7 200 mX5_squaredWidth 2 := ⟨rfl, ⟨w_803, w_79, w_805, by decide +kernel⟩, w_804⟩
set_option maxRecDepth 100000 in
theorem qcX7_206 : g_cS RX7 206 mX5_closesSimply 1 := ⟨rfl, ⟨w_419, w_79, w_421, by decide +kernel⟩, w_420⟩
set_option maxRecDepth 100000 in
theorem qcX7_210 : g_cV RX7 210 mX7_requireSimple 1 := ⟨rfl, ⟨w_847, w_63, w_850, by decide +kernel⟩, w_849, w_15⟩
set_option maxRecDepth 100000 in
theorem qcX7_213 : g_cV RX7 213 mX2_part 1 := ⟨rfl, ⟨w_468, w_67, w_471, by decide +kernel⟩, w_469, w_470⟩
set_option maxRecDepth 100000 in
theorem qcX7_217 : g_cV RX7 217 mX2_made 0 := ⟨rfl, ⟨w_880, w_67, w_883, by decide +kernel⟩, w_881, w_882⟩
set_option maxRecDepth 100000 in
theorem qcX7_222 : g_cV RX7 222 mX2_tellTriangle 1 := ⟨rfl, ⟨w_892, w_67, w_895, by decide +kernel⟩, w_893, w_894⟩
set_option maxRecDepth 100000 in
theorem qcX7_225 : g_cS RX7 225 mX5_isOpenBetween 3 := ⟨rfl, ⟨w_903, w_79, w_905, by decide +kernel⟩, w_904⟩
set_option maxRecDepth 100000 in
theorem qcX7_229 : g_cV RX7 229 mX6_lineCount 0 := ⟨rfl, ⟨w_289, w_64, w_292, by decide +kernel⟩, w_290, w_291⟩
set_option maxRecDepth 100000 in
theorem qcX7_237 : g_cV RX7 237 mX7_requireLine 1 := ⟨rfl, ⟨w_933, w_63, w_936, by decide +kernel⟩, w_935, w_16⟩
set_option maxRecDepth 100000 in
theorem qcX7_240 : g_cV RX7 240 mX6_linesMeet 2 := ⟨rfl, ⟨w_302, w_64, w_305, by decide +kernel⟩, w_303, w_304⟩
set_option maxRecDepth 100000 in
theorem qcX7_246 : g_cV RX7 246 mX7_requireTwoPoints 1 := ⟨rfl, ⟨w_953, w_63, w_956, by decide +kernel⟩, w_955, w_17⟩
set_option maxRecDepth 100000 in
theorem qcX7_249 : g_cV RX7 249 mX6_extremePair 2 := ⟨rfl, ⟨w_958, w_64, w_961, by decide +kernel⟩, w_959, w_960⟩
set_option maxRecDepth 100000 in
theorem qcX7_253 : g_cV RX7 253 mX6_squaredDistance 2 := ⟨rfl, ⟨w_973, w_64, w_965, by decide +kernel⟩, w_963, w_964⟩
set_option maxRecDepth 100000 in
theorem qcX7_256 : g_cS RX7 256 mX5_bound 2 := ⟨rfl, ⟨w_365, w_79, w_367, by decide +kernel⟩, w_366⟩
set_option maxRecDepth 100000 in
theorem qcX7_263 : g_cV RX7 263 mX7_leastFenceFrom 2 := ⟨rfl, ⟨w_990, w_63, w_993, by decide +kernel⟩, w_992, w_18⟩
set_option maxRecDepth 100000 in
theorem qcX7_266 : g_cS RX7 266 mX1_touch 2 := ⟨rfl, ⟨w_1001, w_78, w_1003, by decide +kernel⟩, w_1002⟩
set_option maxRecDepth 100000 in
theorem qcX7_270 : g_cV RX7 270 mX6_copyFrom 1 := ⟨rfl, ⟨w_328, w_64, w_331, by decide +kernel⟩, w_329, w_330⟩
set_option maxRecDepth 100000 in
theorem qcX7_276 : g_MM RX7 276 Lib.Math.abs.name Lib.Math.abs.code 1 .int := ⟨w_435, w_262, w_66, w_263⟩
set_option maxRecDepth 100000 in
theorem qcX7_310 : g_cV RX7 310 mX0_countInside 1 := ⟨rfl, ⟨w_436, w_68, w_439, by decide +kernel⟩, w_437, w_438⟩
set_option maxRecDepth 100000 in
theorem qcX7_313 : g_cV RX7 313 mX2_doubledAreas 0 := ⟨rfl, ⟨w_500, w_67, w_503, by decide +kernel⟩, w_501, w_502⟩
set_option maxRecDepth 100000 in
theorem qcX7_279 : g_cV RX7 279 mX7_hasStray 1 := ⟨rfl, ⟨w_372, w_63, w_375, by decide +kernel⟩, w_374, w_1⟩
set_option maxRecDepth 100000 in
theorem qcX7_286 : g_cV RX7 286 mX7_faultsOf 1 := ⟨rfl, ⟨w_431, w_63, w_434, by decide +kernel⟩, w_433, w_4⟩
set_option maxRecDepth 100000 in
theorem qcX8_96 : g_cS RX8 96 mX8_in 3 := ⟨rfl, ⟨w_1179, w_69, w_1181, by decide +kernel⟩, w_1180⟩
set_option maxRecDepth 100000 in
theorem qcX8_100 : g_cS RX8 100 mX8_amount 1 := ⟨rfl, ⟨w_1260, w_69, w_1262, by decide +kernel⟩, w_1261⟩
set_option maxRecDepth 100000 in
theorem qcX8_104 : g_cV RX8 104 mX8_fails 2 := ⟨rfl, ⟨w_1182, w_69, w_1185, by decide +kernel⟩, w_1184, w_20⟩
set_option maxRecDepth 100000 in
theorem qcX8_111 : g_cV RX8 111 mX8_noHeap 1 := ⟨rfl, ⟨w_1175, w_69, w_1178, by decide +kernel⟩, w_1177, w_19⟩
set_option maxRecDepth 100000 in
theorem qcX8_115 : g_cS RX8 115 mX8_isPlace 2 := ⟨rfl, ⟨w_1186, w_69, w_1188, by decide +kernel⟩, w_1187⟩
set_option maxRecDepth 100000 in
theorem qcX8_119 : g_cV RX8 119 mX8_noPoint 1 := ⟨rfl, ⟨w_1193, w_69, w_1196, by decide +kernel⟩, w_1195, w_21⟩
set_option maxRecDepth 100000 in
theorem qcX8_122 : g_cV RX8 122 mX8_many 1 := ⟨rfl, ⟨w_1197, w_69, w_1200, by decide +kernel⟩, w_1199, w_22⟩
set_option maxRecDepth 100000 in
theorem qcX8_125 : g_cV RX8 125 mX8_isAhead 2 := ⟨rfl, ⟨w_1217, w_69, w_1220, by decide +kernel⟩, w_1219, w_24⟩
set_option maxRecDepth 100000 in
theorem qcX8_128 : g_cV RX8 128 mX8_pointAt 2 := ⟨rfl, ⟨w_1213, w_69, w_1216, by decide +kernel⟩, w_1215, w_23⟩
set_option maxRecDepth 100000 in
theorem qcX8_132 : g_cS RX8 132 mX8_turns 6 := ⟨rfl, ⟨w_1229, w_69, w_1231, by decide +kernel⟩, w_1230⟩
set_option maxRecDepth 100000 in
theorem qcX8_139 : g_cV RX8 139 mX8_lays 2 := ⟨rfl, ⟨w_1248, w_69, w_1251, by decide +kernel⟩, w_1250, w_28⟩
set_option maxRecDepth 100000 in
theorem qcX8_143 : g_cV RX8 143 mX8_far 2 := ⟨rfl, ⟨w_1256, w_69, w_1259, by decide +kernel⟩, w_1258, w_30⟩
set_option maxRecDepth 100000 in
theorem qcX8_146 : g_cV RX8 146 mX8_laysHeap 1 := ⟨rfl, ⟨w_1244, w_69, w_1247, by decide +kernel⟩, w_1246, w_27⟩
set_option maxRecDepth 100000 in
theorem qcX8_150 : g_cV RX8 150 mX8_wraps 1 := ⟨rfl, ⟨w_1252, w_69, w_1255, by decide +kernel⟩, w_1254, w_29⟩
set_option maxRecDepth 100000 in
theorem qcX8_153 : g_cV RX8 153 mX8_isEmpty 1 := ⟨rfl, ⟨w_1236, w_69, w_1239, by decide +kernel⟩, w_1238, w_25⟩
set_option maxRecDepth 100000 in
theorem qcX8_156 : g_cV RX8 156 mX8_hullOfHeap 2 := ⟨rfl, ⟨w_1240, w_69, w_1243, by decide +kernel⟩, w_1242, w_26⟩
set_option maxRecDepth 100000 in
theorem qcX8_159 : g_cV RX8 159 mX8_noHeaps 2 := ⟨rfl, ⟨w_1267, w_69, w_1270, by decide +kernel⟩, w_1269, w_31⟩
set_option maxRecDepth 100000 in
theorem qcX8_169 : g_cS RX8 169 mX8_isOn 6 := ⟨rfl, ⟨w_1287, w_69, w_1289, by decide +kernel⟩, w_1288⟩
set_option maxRecDepth 100000 in
theorem qcX8_162 : g_cV RX8 162 mX8_side 3 := ⟨rfl, ⟨w_1283, w_69, w_1286, by decide +kernel⟩, w_1285, w_33⟩
set_option maxRecDepth 100000 in
theorem qcX8_166 : g_cV RX8 166 mX8_peels 3 := ⟨rfl, ⟨w_1279, w_69, w_1282, by decide +kernel⟩, w_1281, w_32⟩
set_option maxRecDepth 100000 in
theorem qcX8_173 : g_cV RX8 173 mX8_doubled 1 := ⟨rfl, ⟨w_1306, w_69, w_1309, by decide +kernel⟩, w_1308, w_34⟩
set_option maxRecDepth 100000 in
theorem qcX8_176 : g_cS RX8 176 mX8_common 2 := ⟨rfl, ⟨w_1314, w_69, w_1316, by decide +kernel⟩, w_1315⟩
set_option maxRecDepth 100000 in
theorem qcX8_179 : g_cS RX8 179 mX8_floor 2 := ⟨rfl, ⟨w_1325, w_69, w_1327, by decide +kernel⟩, w_1326⟩
set_option maxRecDepth 100000 in
theorem qcX8_182 : g_cV RX8 182 mX8_innerIn 1 := ⟨rfl, ⟨w_1321, w_69, w_1324, by decide +kernel⟩, w_1323, w_35⟩
set_option maxRecDepth 100000 in
theorem qcX8_192 : g_cV RX8 192 mX8_findsWidth 0 := ⟨rfl, ⟨w_1336, w_69, w_1339, by decide +kernel⟩, w_1338, w_36⟩
set_option maxRecDepth 100000 in
theorem qcX8_195 : g_cV RX8 195 mX8_noPolygon 1 := ⟨rfl, ⟨w_1344, w_69, w_1347, by decide +kernel⟩, w_1346, w_37⟩
set_option maxRecDepth 100000 in
theorem qcX8_222 : g_cV RX8 222 mX8_doCross 0 := ⟨rfl, ⟨w_1380, w_69, w_1383, by decide +kernel⟩, w_1382, w_43⟩
set_option maxRecDepth 100000 in
theorem qcX8_226 : g_cV RX8 226 mX8_cornerOf 2 := ⟨rfl, ⟨w_1364, w_69, w_1367, by decide +kernel⟩, w_1366, w_39⟩
set_option maxRecDepth 100000 in
theorem qcX8_229 : g_cV RX8 229 mX8_takesFirst 4 := ⟨rfl, ⟨w_1368, w_69, w_1371, by decide +kernel⟩, w_1370, w_40⟩
set_option maxRecDepth 100000 in
theorem qcX8_233 : g_cV RX8 233 mX8_takesSecond 4 := ⟨rfl, ⟨w_1372, w_69, w_1375, by decide +kernel⟩, w_1374, w_41⟩
set_option maxRecDepth 100000 in
theorem qcX8_236 : g_cV RX8 236 mX8_doTouch 0 := ⟨rfl, ⟨w_1376, w_69, w_1379, by decide +kernel⟩, w_1378, w_42⟩
set_option maxRecDepth 100000 in
theorem qcX8_239 : g_cV RX8 239 mX8_isGood 1 := ⟨rfl, ⟨w_1360, w_69, w_1363, by decide +kernel⟩, w_1362, w_38⟩
set_option maxRecDepth 100000 in
theorem qcX8_242 : g_cV RX8 242 mX8_doubledOf 1 := ⟨rfl, ⟨w_1388, w_69, w_1391, by decide +kernel⟩, w_1390, w_44⟩
set_option maxRecDepth 100000 in
theorem qcX8_245 : g_cV RX8 245 mX8_noSimple 1 := ⟨rfl, ⟨w_1396, w_69, w_1399, by decide +kernel⟩, w_1398, w_45⟩
set_option maxRecDepth 100000 in
theorem qcX8_248 : g_cV RX8 248 mX8_sideOf 4 := ⟨rfl, ⟨w_1404, w_69, w_1407, by decide +kernel⟩, w_1406, w_46⟩
set_option maxRecDepth 100000 in
theorem qcX8_255 : g_cV RX8 255 mX8_turnOf 4 := ⟨rfl, ⟨w_1428, w_69, w_1431, by decide +kernel⟩, w_1430, w_49⟩
set_option maxRecDepth 100000 in
theorem qcX8_262 : g_cV RX8 262 mX8_isEar 3 := ⟨rfl, ⟨w_1424, w_69, w_1427, by decide +kernel⟩, w_1426, w_48⟩
set_option maxRecDepth 100000 in
theorem qcX8_265 : g_cV RX8 265 mX8_cuts 3 := ⟨rfl, ⟨w_1432, w_69, w_1435, by decide +kernel⟩, w_1434, w_50⟩
set_option maxRecDepth 100000 in
theorem qcX8_269 : g_cV RX8 269 mX8_parts 1 := ⟨rfl, ⟨w_1420, w_69, w_1423, by decide +kernel⟩, w_1422, w_47⟩
set_option maxRecDepth 100000 in
theorem qcX8_272 : g_cV RX8 272 mX8_off 1 := ⟨rfl, ⟨w_1452, w_69, w_1455, by decide +kernel⟩, w_1454, w_53⟩
set_option maxRecDepth 100000 in
theorem qcX8_275 : g_cV RX8 275 mX8_noCorner 2 := ⟨rfl, ⟨w_1444, w_69, w_1447, by decide +kernel⟩, w_1446, w_51⟩
set_option maxRecDepth 100000 in
theorem qcX8_278 : g_cV RX8 278 mX8_doesSee 3 := ⟨rfl, ⟨w_1448, w_69, w_1451, by decide +kernel⟩, w_1450, w_52⟩
set_option maxRecDepth 100000 in
theorem qcX8_284 : g_cV RX8 284 mX8_noLine 1 := ⟨rfl, ⟨w_1472, w_69, w_1475, by decide +kernel⟩, w_1474, w_54⟩
set_option maxRecDepth 100000 in
theorem qcX8_287 : g_cV RX8 287 mX8_areCrossed 2 := ⟨rfl, ⟨w_1476, w_69, w_1479, by decide +kernel⟩, w_1478, w_55⟩
set_option maxRecDepth 100000 in
theorem qcX8_293 : g_cV RX8 293 mX8_crossed 1 := ⟨rfl, ⟨w_1484, w_69, w_1487, by decide +kernel⟩, w_1486, w_56⟩
set_option maxRecDepth 100000 in
theorem qcX8_296 : g_cV RX8 296 mX8_squared 2 := ⟨rfl, ⟨w_1500, w_69, w_1503, by decide +kernel⟩, w_1502, w_58⟩
set_option maxRecDepth 100000 in
theorem qcX8_299 : g_cV RX8 299 mX8_pairOf 2 := ⟨rfl, ⟨w_1496, w_69, w_1499, by decide +kernel⟩, w_1498, w_57⟩
set_option maxRecDepth 100000 in
theorem qcX8_303 : g_cV RX8 303 mX8_ordersByY 1 := ⟨rfl, ⟨w_1516, w_69, w_1519, by decide +kernel⟩, w_1518, w_59⟩
set_option maxRecDepth 100000 in
theorem qcX8_306 : g_cV RX8 306 mX8_height 5 := ⟨rfl, ⟨w_1520, w_69, w_1523, by decide +kernel⟩, w_1522, w_60⟩
set_option maxRecDepth 100000 in
theorem qcX8_310 : g_cV RX8 310 mX8_isIn 2 := ⟨rfl, ⟨w_1528, w_69, w_1531, by decide +kernel⟩, w_1530, w_61⟩
set_option maxRecDepth 100000 in
theorem qcL_7 : g_cV RL 7 mX7_point 3 := ⟨rfl, ⟨w_509, w_63, w_512, by decide +kernel⟩, w_510, w_511⟩
set_option maxRecDepth 100000 in
theorem qcL_17 : g_cV RL 17 mX7_drop 1 := ⟨rfl, ⟨w_610, w_63, w_613, by decide +kernel⟩, w_611, w_612⟩
set_option maxRecDepth 100000 in
theorem qcL_23 : g_cV RL 23 mX7_pointOf 2 := ⟨rfl, ⟨w_650, w_63, w_653, by decide +kernel⟩, w_651, w_652⟩
set_option maxRecDepth 100000 in
theorem qcL_27 : g_cV RL 27 mX7_count 1 := ⟨rfl, ⟨w_658, w_63, w_661, by decide +kernel⟩, w_659, w_660⟩
set_option maxRecDepth 100000 in
theorem qcL_30 : g_cV RL 30 mX7_sorted 2 := ⟨rfl, ⟨w_665, w_63, w_668, by decide +kernel⟩, w_666, w_667⟩
set_option maxRecDepth 100000 in
theorem qcL_33 : g_cV RL 33 mX7_places 1 := ⟨rfl, ⟨w_673, w_63, w_676, by decide +kernel⟩, w_674, w_675⟩
set_option maxRecDepth 100000 in
theorem qcL_36 : g_cV RL 36 mX7_turn 3 := ⟨rfl, ⟨w_681, w_63, w_684, by decide +kernel⟩, w_682, w_683⟩
set_option maxRecDepth 100000 in
theorem qcL_39 : g_cV RL 39 mX7_hull 1 := ⟨rfl, ⟨w_690, w_63, w_693, by decide +kernel⟩, w_691, w_692⟩
set_option maxRecDepth 100000 in
theorem qcL_44 : g_cV RL 44 mX7_join 2 := ⟨rfl, ⟨w_717, w_63, w_720, by decide +kernel⟩, w_718, w_719⟩
set_option maxRecDepth 100000 in
theorem qcL_47 : g_cV RL 47 mX7_sum 2 := ⟨rfl, ⟨w_728, w_63, w_731, by decide +kernel⟩, w_729, w_730⟩
set_option maxRecDepth 100000 in
theorem qcL_50 : g_cV RL 50 mX7_layers 1 := ⟨rfl, ⟨w_751, w_63, w_754, by decide +kernel⟩, w_752, w_753⟩
set_option maxRecDepth 100000 in
theorem qcL_53 : g_cV RL 53 mX7_layer 2 := ⟨rfl, ⟨w_764, w_63, w_767, by decide +kernel⟩, w_765, w_766⟩
set_option maxRecDepth 100000 in
theorem qcL_56 : g_cV RL 56 mX7_hullOf 1 := ⟨rfl, ⟨w_773, w_63, w_776, by decide +kernel⟩, w_774, w_775⟩
set_option maxRecDepth 100000 in
theorem qcL_59 : g_cV RL 59 mX7_corner 2 := ⟨rfl, ⟨w_787, w_63, w_790, by decide +kernel⟩, w_788, w_789⟩
set_option maxRecDepth 100000 in
theorem qcL_63 : g_cV RL 63 mX7_width 1 := ⟨rfl, ⟨w_798, w_63, w_801, by decide +kernel⟩, w_799, w_800⟩
set_option maxRecDepth 100000 in
theorem qcL_67 : g_cV RL 67 mX7_add 3 := ⟨rfl, ⟨w_814, w_63, w_817, by decide +kernel⟩, w_815, w_816⟩
set_option maxRecDepth 100000 in
theorem qcL_70 : g_cV RL 70 mX7_clear 1 := ⟨rfl, ⟨w_822, w_63, w_825, by decide +kernel⟩, w_823, w_824⟩
set_option maxRecDepth 100000 in
theorem qcL_73 : g_cV RL 73 mX7_isSimple 1 := ⟨rfl, ⟨w_829, w_63, w_832, by decide +kernel⟩, w_830, w_831⟩
set_option maxRecDepth 100000 in
theorem qcL_77 : g_cV RL 77 mX7_polygonArea 1 := ⟨rfl, ⟨w_836, w_63, w_839, by decide +kernel⟩, w_837, w_838⟩
set_option maxRecDepth 100000 in
theorem qcL_80 : g_cV RL 80 mX7_polygonEdge 1 := ⟨rfl, ⟨w_843, w_63, w_846, by decide +kernel⟩, w_844, w_845⟩
set_option maxRecDepth 100000 in
theorem qcL_83 : g_cV RL 83 mX7_polygonInner 1 := ⟨rfl, ⟨w_855, w_63, w_858, by decide +kernel⟩, w_856, w_857⟩
set_option maxRecDepth 100000 in
theorem qcL_86 : g_cV RL 86 mX7_polygonLies 3 := ⟨rfl, ⟨w_862, w_63, w_865, by decide +kernel⟩, w_863, w_864⟩
set_option maxRecDepth 100000 in
theorem qcL_89 : g_cV RL 89 mX7_holds 2 := ⟨rfl, ⟨w_869, w_63, w_872, by decide +kernel⟩, w_870, w_871⟩
set_option maxRecDepth 100000 in
theorem qcL_92 : g_cV RL 92 mX7_triangles 1 := ⟨rfl, ⟨w_876, w_63, w_879, by decide +kernel⟩, w_877, w_878⟩
set_option maxRecDepth 100000 in
theorem qcL_95 : g_cV RL 95 mX7_triangleAt 2 := ⟨rfl, ⟨w_887, w_63, w_890, by decide +kernel⟩, w_888, w_889⟩
set_option maxRecDepth 100000 in
theorem qcL_98 : g_cV RL 98 mX7_sees 3 := ⟨rfl, ⟨w_899, w_63, w_902, by decide +kernel⟩, w_900, w_901⟩
set_option maxRecDepth 100000 in
theorem qcL_102 : g_cV RL 102 mX7_view 2 := ⟨rfl, ⟨w_914, w_63, w_917, by decide +kernel⟩, w_915, w_916⟩
set_option maxRecDepth 100000 in
theorem qcL_105 : g_cV RL 105 mX7_line 4 := ⟨rfl, ⟨w_921, w_63, w_924, by decide +kernel⟩, w_922, w_923⟩
set_option maxRecDepth 100000 in
theorem qcL_109 : g_cV RL 109 mX7_cross 2 := ⟨rfl, ⟨w_929, w_63, w_932, by decide +kernel⟩, w_930, w_931⟩
set_option maxRecDepth 100000 in
theorem qcL_113 : g_cV RL 113 mX7_crossingAt 1 := ⟨rfl, ⟨w_941, w_63, w_944, by decide +kernel⟩, w_942, w_943⟩
set_option maxRecDepth 100000 in
theorem qcL_116 : g_cV RL 116 mX7_pair 2 := ⟨rfl, ⟨w_949, w_63, w_952, by decide +kernel⟩, w_950, w_951⟩
set_option maxRecDepth 100000 in
theorem qcL_119 : g_cV RL 119 mX7_distance 2 := ⟨rfl, ⟨w_969, w_63, w_972, by decide +kernel⟩, w_970, w_971⟩
set_option maxRecDepth 100000 in
theorem qcL_122 : g_cV RL 122 mX7_box 2 := ⟨rfl, ⟨w_977, w_63, w_980, by decide +kernel⟩, w_978, w_979⟩
set_option maxRecDepth 100000 in
theorem qcL_125 : g_cV RL 125 mX7_fence 2 := ⟨rfl, ⟨w_984, w_63, w_987, by decide +kernel⟩, w_985, w_986⟩
set_option maxRecDepth 100000 in
theorem qcL_128 : g_cV RL 128 mX7_apart 2 := ⟨rfl, ⟨w_997, w_63, w_1000, by decide +kernel⟩, w_998, w_999⟩
set_option maxRecDepth 100000 in
theorem qcL_131 : g_cV RL 131 mX7_restore 0 := ⟨rfl, ⟨w_1012, w_63, w_1015, by decide +kernel⟩, w_1013, w_1014⟩
set_option maxRecDepth 100000 in
theorem qcL_135 : g_cV RL 135 mX7_meanFar 1 := ⟨rfl, ⟨w_1020, w_63, w_1023, by decide +kernel⟩, w_1021, w_1022⟩
set_option maxRecDepth 100000 in
theorem qcL_139 : g_cI RL 139 mX7_init 0 := ⟨rfl, ⟨w_82, w_63, w_84, by decide +kernel⟩, rfl, rfl, w_83⟩
set_option maxRecDepth 100000 in
theorem qcL_142 : g_cI RL 142 mX8_init 0 := ⟨rfl, ⟨w_1030, w_69, w_1032, by decide +kernel⟩, rfl, rfl, w_1031⟩
set_option maxRecDepth 100000 in
theorem qcL_143 : g_cH RL 143 mL_point 5 [(0, 12, 15, 13), (0, 12, 19, 15)] := ⟨rfl, ⟨w_504, w_62, w_506, by decide +kernel⟩, w_505⟩
set_option maxRecDepth 100000 in
theorem qcL_148 : g_cV RL 148 mX8_point 3 := ⟨rfl, ⟨w_1171, w_69, w_1174, by decide +kernel⟩, w_1172, w_1173⟩
set_option maxRecDepth 100000 in
theorem qcL_149 : g_cV RL 149 mX8_thrown 0 := ⟨rfl, ⟨w_1024, w_69, w_1027, by decide +kernel⟩, w_1025, w_1026⟩
set_option maxRecDepth 100000 in
theorem qcL_152 : g_cH RL 152 mL_drop 3 [(0, 9, 12, 21)] := ⟨rfl, ⟨w_606, w_62, w_608, by decide +kernel⟩, w_607⟩
set_option maxRecDepth 100000 in
theorem qcL_155 : g_cV RL 155 mX8_drop 1 := ⟨rfl, ⟨w_1189, w_69, w_1192, by decide +kernel⟩, w_1190, w_1191⟩
set_option maxRecDepth 100000 in
theorem qcL_156 : g_cH RL 156 mL_pointOf 4 [(0, 10, 13, 21), (0, 10, 17, 13)] := ⟨rfl, ⟨w_647, w_62, w_649, by decide +kernel⟩, w_648⟩
set_option maxRecDepth 100000 in
theorem qcL_159 : g_cV RL 159 mX8_pointOf 2 := ⟨rfl, ⟨w_1201, w_69, w_1204, by decide +kernel⟩, w_1202, w_1203⟩
set_option maxRecDepth 100000 in
theorem qcL_160 : g_cH RL 160 mL_count 3 [(0, 9, 12, 13)] := ⟨rfl, ⟨w_655, w_62, w_657, by decide +kernel⟩, w_656⟩
set_option maxRecDepth 100000 in
theorem qcL_162 : g_cV RL 162 mX8_count 1 := ⟨rfl, ⟨w_1205, w_69, w_1208, by decide +kernel⟩, w_1206, w_1207⟩
set_option maxRecDepth 100000 in
theorem qcL_163 : g_cH RL 163 mL_sorted 4 [(0, 10, 13, 13), (0, 10, 17, 21)] := ⟨rfl, ⟨w_662, w_62, w_664, by decide +kernel⟩, w_663⟩
set_option maxRecDepth 100000 in
theorem qcL_165 : g_cV RL 165 mX8_sorted 2 := ⟨rfl, ⟨w_1209, w_69, w_1212, by decide +kernel⟩, w_1210, w_1211⟩
set_option maxRecDepth 100000 in
theorem qcL_166 : g_cH RL 166 mL_places 3 [(0, 9, 12, 13)] := ⟨rfl, ⟨w_670, w_62, w_672, by decide +kernel⟩, w_671⟩
set_option maxRecDepth 100000 in
theorem qcL_168 : g_cV RL 168 mX8_places 1 := ⟨rfl, ⟨w_1221, w_69, w_1224, by decide +kernel⟩, w_1222, w_1223⟩
set_option maxRecDepth 100000 in
theorem qcL_169 : g_cH RL 169 mL_turn 5 [(0, 12, 15, 21)] := ⟨rfl, ⟨w_678, w_62, w_680, by decide +kernel⟩, w_679⟩
set_option maxRecDepth 100000 in
theorem qcL_171 : g_cV RL 171 mX8_turn 3 := ⟨rfl, ⟨w_1225, w_69, w_1228, by decide +kernel⟩, w_1226, w_1227⟩
set_option maxRecDepth 100000 in
theorem qcL_172 : g_cH RL 172 mL_hull 3 [(0, 9, 12, 13), (0, 9, 15, 42)] := ⟨rfl, ⟨w_686, w_62, w_688, by decide +kernel⟩, w_687⟩
set_option maxRecDepth 100000 in
theorem qcL_174 : g_cV RL 174 mX8_hull 1 := ⟨rfl, ⟨w_1232, w_69, w_1235, by decide +kernel⟩, w_1233, w_1234⟩
set_option maxRecDepth 100000 in
theorem qcL_175 : g_cH RL 175 mL_join 4 [(0, 10, 13, 13), (0, 10, 17, 42)] := ⟨rfl, ⟨w_714, w_62, w_716, by decide +kernel⟩, w_715⟩
set_option maxRecDepth 100000 in
theorem qcL_177 : g_cV RL 177 mX8_join 2 := ⟨rfl, ⟨w_1263, w_69, w_1266, by decide +kernel⟩, w_1264, w_1265⟩
set_option maxRecDepth 100000 in
theorem qcL_178 : g_cH RL 178 mL_sum 4 [(0, 10, 13, 13), (0, 10, 17, 42)] := ⟨rfl, ⟨w_725, w_62, w_727, by decide +kernel⟩, w_726⟩
set_option maxRecDepth 100000 in
theorem qcL_180 : g_cV RL 180 mX8_sum 2 := ⟨rfl, ⟨w_1271, w_69, w_1274, by decide +kernel⟩, w_1272, w_1273⟩
set_option maxRecDepth 100000 in
theorem qcL_181 : g_cH RL 181 mL_layers 3 [(0, 9, 12, 13)] := ⟨rfl, ⟨w_748, w_62, w_750, by decide +kernel⟩, w_749⟩
set_option maxRecDepth 100000 in
theorem qcL_183 : g_cV RL 183 mX8_layers 1 := ⟨rfl, ⟨w_1275, w_69, w_1278, by decide +kernel⟩, w_1276, w_1277⟩
set_option maxRecDepth 100000 in
theorem qcL_184 : g_cH RL 184 mL_layer 4 [(0, 10, 13, 13), (0, 10, 17, 21)] := ⟨rfl, ⟨w_761, w_62, w_763, by decide +kernel⟩, w_762⟩
set_option maxRecDepth 100000 in
theorem qcL_186 : g_cV RL 186 mX8_layer 2 := ⟨rfl, ⟨w_1290, w_69, w_1293, by decide +kernel⟩, w_1291, w_1292⟩
set_option maxRecDepth 100000 in
theorem qcL_187 : g_cH RL 187 mL_hullOf 3 [(0, 9, 12, 13), (0, 9, 15, 42)] := ⟨rfl, ⟨w_770, w_62, w_772, by decide +kernel⟩, w_771⟩
set_option maxRecDepth 100000 in
theorem qcL_189 : g_cV RL 189 mX8_hullOf 1 := ⟨rfl, ⟨w_1352, w_69, w_1355, by decide +kernel⟩, w_1353, w_1354⟩
set_option maxRecDepth 100000 in
theorem qcL_190 : g_cV RL 190 mX7_corners 0 := ⟨rfl, ⟨w_202, w_63, w_205, by decide +kernel⟩, w_203, w_204⟩
set_option maxRecDepth 100000 in
theorem qcL_193 : g_cV RL 193 mX8_corners 0 := ⟨rfl, ⟨w_1294, w_69, w_1297, by decide +kernel⟩, w_1295, w_1296⟩
set_option maxRecDepth 100000 in
theorem qcL_194 : g_cH RL 194 mL_corner 4 [(0, 10, 13, 21)] := ⟨rfl, ⟨w_784, w_62, w_786, by decide +kernel⟩, w_785⟩
set_option maxRecDepth 100000 in
theorem qcL_197 : g_cV RL 197 mX8_corner 2 := ⟨rfl, ⟨w_1298, w_69, w_1301, by decide +kernel⟩, w_1299, w_1300⟩
set_option maxRecDepth 100000 in
theorem qcL_198 : g_cV RL 198 mX7_area 0 := ⟨rfl, ⟨w_210, w_63, w_213, by decide +kernel⟩, w_211, w_212⟩
set_option maxRecDepth 100000 in
theorem qcL_201 : g_cV RL 201 mX8_area 0 := ⟨rfl, ⟨w_1302, w_69, w_1305, by decide +kernel⟩, w_1303, w_1304⟩
set_option maxRecDepth 100000 in
theorem qcL_202 : g_cV RL 202 mX7_edge 0 := ⟨rfl, ⟨w_230, w_63, w_233, by decide +kernel⟩, w_231, w_232⟩
set_option maxRecDepth 100000 in
theorem qcL_205 : g_cV RL 205 mX8_edge 0 := ⟨rfl, ⟨w_1310, w_69, w_1313, by decide +kernel⟩, w_1311, w_1312⟩
set_option maxRecDepth 100000 in
theorem qcL_206 : g_cV RL 206 mX7_inner 0 := ⟨rfl, ⟨w_253, w_63, w_256, by decide +kernel⟩, w_254, w_255⟩
set_option maxRecDepth 100000 in
theorem qcL_209 : g_cV RL 209 mX8_inner 0 := ⟨rfl, ⟨w_1317, w_69, w_1320, by decide +kernel⟩, w_1318, w_1319⟩
set_option maxRecDepth 100000 in
theorem qcL_210 : g_cV RL 210 mX7_lies 2 := ⟨rfl, ⟨w_265, w_63, w_268, by decide +kernel⟩, w_266, w_267⟩
set_option maxRecDepth 100000 in
theorem qcL_213 : g_cV RL 213 mX8_lies 2 := ⟨rfl, ⟨w_1328, w_69, w_1331, by decide +kernel⟩, w_1329, w_1330⟩
set_option maxRecDepth 100000 in
theorem qcL_214 : g_cH RL 214 mL_width 3 [(0, 8, 11, 15)] := ⟨rfl, ⟨w_795, w_62, w_797, by decide +kernel⟩, w_796⟩
set_option maxRecDepth 100000 in
theorem qcL_217 : g_cV RL 217 mX8_width 1 := ⟨rfl, ⟨w_1332, w_69, w_1335, by decide +kernel⟩, w_1333, w_1334⟩
set_option maxRecDepth 100000 in
theorem qcL_218 : g_cH RL 218 mL_add 5 [(0, 12, 15, 13), (0, 12, 19, 15)] := ⟨rfl, ⟨w_811, w_62, w_813, by decide +kernel⟩, w_812⟩
set_option maxRecDepth 100000 in
theorem qcL_220 : g_cV RL 220 mX8_add 3 := ⟨rfl, ⟨w_1340, w_69, w_1343, by decide +kernel⟩, w_1341, w_1342⟩
set_option maxRecDepth 100000 in
theorem qcL_221 : g_cH RL 221 mL_clear 3 [(0, 9, 12, 13)] := ⟨rfl, ⟨w_819, w_62, w_821, by decide +kernel⟩, w_820⟩
set_option maxRecDepth 100000 in
theorem qcL_223 : g_cV RL 223 mX8_clear 1 := ⟨rfl, ⟨w_1348, w_69, w_1351, by decide +kernel⟩, w_1349, w_1350⟩
set_option maxRecDepth 100000 in
theorem qcL_224 : g_cH RL 224 mL_isSimple 3 [(0, 16, 19, 13)] := ⟨rfl, ⟨w_826, w_62, w_828, by decide +kernel⟩, w_827⟩
set_option maxRecDepth 100000 in
theorem qcL_226 : g_cV RL 226 mX8_isSimple 1 := ⟨rfl, ⟨w_1356, w_69, w_1359, by decide +kernel⟩, w_1357, w_1358⟩
set_option maxRecDepth 100000 in
theorem qcL_227 : g_cH RL 227 mL_polygonArea 3 [(0, 9, 12, 13)] := ⟨rfl, ⟨w_833, w_62, w_835, by decide +kernel⟩, w_834⟩
set_option maxRecDepth 100000 in
theorem qcL_229 : g_cV RL 229 mX8_polygonArea 1 := ⟨rfl, ⟨w_1384, w_69, w_1387, by decide +kernel⟩, w_1385, w_1386⟩
set_option maxRecDepth 100000 in
theorem qcL_230 : g_cH RL 230 mL_polygonEdge 3 [(0, 9, 12, 13), (0, 9, 15, 15)] := ⟨rfl, ⟨w_840, w_62, w_842, by decide +kernel⟩, w_841⟩
set_option maxRecDepth 100000 in
theorem qcL_232 : g_cV RL 232 mX8_polygonEdge 1 := ⟨rfl, ⟨w_1392, w_69, w_1395, by decide +kernel⟩, w_1393, w_1394⟩
set_option maxRecDepth 100000 in
theorem qcL_233 : g_cH RL 233 mL_polygonInner 3 [(0, 9, 12, 13), (0, 9, 15, 15)] := ⟨rfl, ⟨w_852, w_62, w_854, by decide +kernel⟩, w_853⟩
set_option maxRecDepth 100000 in
theorem qcL_235 : g_cV RL 235 mX8_polygonInner 1 := ⟨rfl, ⟨w_1400, w_69, w_1403, by decide +kernel⟩, w_1401, w_1402⟩
set_option maxRecDepth 100000 in
theorem qcL_236 : g_cH RL 236 mL_polygonLies 5 [(0, 12, 15, 13), (0, 12, 19, 15)] := ⟨rfl, ⟨w_859, w_62, w_861, by decide +kernel⟩, w_860⟩
set_option maxRecDepth 100000 in
theorem qcL_238 : g_cV RL 238 mX8_polygonLies 3 := ⟨rfl, ⟨w_1408, w_69, w_1411, by decide +kernel⟩, w_1409, w_1410⟩
set_option maxRecDepth 100000 in
theorem qcL_239 : g_cH RL 239 mL_holds 4 [(0, 10, 13, 13), (0, 10, 17, 15)] := ⟨rfl, ⟨w_866, w_62, w_868, by decide +kernel⟩, w_867⟩
set_option maxRecDepth 100000 in
theorem qcL_241 : g_cV RL 241 mX8_holds 2 := ⟨rfl, ⟨w_1412, w_69, w_1415, by decide +kernel⟩, w_1413, w_1414⟩
set_option maxRecDepth 100000 in
theorem qcL_242 : g_cH RL 242 mL_triangles 3 [(0, 9, 12, 13), (0, 9, 15, 15)] := ⟨rfl, ⟨w_873, w_62, w_875, by decide +kernel⟩, w_874⟩
set_option maxRecDepth 100000 in
theorem qcL_244 : g_cV RL 244 mX8_triangles 1 := ⟨rfl, ⟨w_1416, w_69, w_1419, by decide +kernel⟩, w_1417, w_1418⟩
set_option maxRecDepth 100000 in
theorem qcL_245 : g_cH RL 245 mL_triangleAt 4 [(0, 10, 13, 13), (0, 10, 17, 15), (0, 10, 21, 21)] := ⟨rfl, ⟨w_884, w_62, w_886, by decide +kernel⟩, w_885⟩
set_option maxRecDepth 100000 in
theorem qcL_247 : g_cV RL 247 mX8_triangleAt 2 := ⟨rfl, ⟨w_1436, w_69, w_1439, by decide +kernel⟩, w_1437, w_1438⟩
set_option maxRecDepth 100000 in
theorem qcL_248 : g_cH RL 248 mL_sees 5 [(0, 19, 22, 13), (0, 19, 26, 21), (0, 19, 30, 15)] := ⟨rfl, ⟨w_896, w_62, w_898, by decide +kernel⟩, w_897⟩
set_option maxRecDepth 100000 in
theorem qcL_250 : g_cV RL 250 mX8_sees 3 := ⟨rfl, ⟨w_1440, w_69, w_1443, by decide +kernel⟩, w_1441, w_1442⟩
set_option maxRecDepth 100000 in
theorem qcL_251 : g_cH RL 251 mL_view 4 [(0, 10, 13, 13), (0, 10, 17, 21), (0, 10, 21, 15)] := ⟨rfl, ⟨w_911, w_62, w_913, by decide +kernel⟩, w_912⟩
set_option maxRecDepth 100000 in
theorem qcL_253 : g_cV RL 253 mX8_view 2 := ⟨rfl, ⟨w_1456, w_69, w_1459, by decide +kernel⟩, w_1457, w_1458⟩
set_option maxRecDepth 100000 in
theorem qcL_254 : g_cH RL 254 mL_line 6 [(0, 14, 17, 13), (0, 14, 21, 15)] := ⟨rfl, ⟨w_918, w_62, w_920, by decide +kernel⟩, w_919⟩
set_option maxRecDepth 100000 in
theorem qcL_257 : g_cV RL 257 mX8_line 4 := ⟨rfl, ⟨w_1460, w_69, w_1463, by decide +kernel⟩, w_1461, w_1462⟩
set_option maxRecDepth 100000 in
theorem qcL_258 : g_cV RL 258 mX7_clearLines 0 := ⟨rfl, ⟨w_285, w_63, w_288, by decide +kernel⟩, w_286, w_287⟩
set_option maxRecDepth 100000 in
theorem qcL_261 : g_cV RL 261 mX8_clearLines 0 := ⟨rfl, ⟨w_1464, w_69, w_1467, by decide +kernel⟩, w_1465, w_1466⟩
set_option maxRecDepth 100000 in
theorem qcL_262 : g_cH RL 262 mL_cross 4 [(0, 17, 20, 21)] := ⟨rfl, ⟨w_926, w_62, w_928, by decide +kernel⟩, w_927⟩
set_option maxRecDepth 100000 in
theorem qcL_264 : g_cV RL 264 mX8_cross 2 := ⟨rfl, ⟨w_1468, w_69, w_1471, by decide +kernel⟩, w_1469, w_1470⟩
set_option maxRecDepth 100000 in
theorem qcL_265 : g_cV RL 265 mX7_crossings 0 := ⟨rfl, ⟨w_298, w_63, w_301, by decide +kernel⟩, w_299, w_300⟩
set_option maxRecDepth 100000 in
theorem qcL_268 : g_cV RL 268 mX8_crossings 0 := ⟨rfl, ⟨w_1480, w_69, w_1483, by decide +kernel⟩, w_1481, w_1482⟩
set_option maxRecDepth 100000 in
theorem qcL_269 : g_cH RL 269 mL_crossingAt 3 [(0, 9, 12, 21)] := ⟨rfl, ⟨w_938, w_62, w_940, by decide +kernel⟩, w_939⟩
set_option maxRecDepth 100000 in
theorem qcL_271 : g_cV RL 271 mX8_crossingAt 1 := ⟨rfl, ⟨w_1488, w_69, w_1491, by decide +kernel⟩, w_1489, w_1490⟩
set_option maxRecDepth 100000 in
theorem qcL_272 : g_cH RL 272 mL_pair 4 [(0, 10, 13, 13), (0, 10, 17, 42)] := ⟨rfl, ⟨w_946, w_62, w_948, by decide +kernel⟩, w_947⟩
set_option maxRecDepth 100000 in
theorem qcL_274 : g_cV RL 274 mX8_pair 2 := ⟨rfl, ⟨w_1492, w_69, w_1495, by decide +kernel⟩, w_1493, w_1494⟩
set_option maxRecDepth 100000 in
theorem qcL_275 : g_cH RL 275 mL_distance 4 [(0, 10, 13, 13), (0, 10, 17, 42)] := ⟨rfl, ⟨w_966, w_62, w_968, by decide +kernel⟩, w_967⟩
set_option maxRecDepth 100000 in
theorem qcL_277 : g_cV RL 277 mX8_distance 2 := ⟨rfl, ⟨w_1504, w_69, w_1507, by decide +kernel⟩, w_1505, w_1506⟩
set_option maxRecDepth 100000 in
theorem qcL_278 : g_cH RL 278 mL_box 4 [(0, 10, 13, 13), (0, 10, 17, 42)] := ⟨rfl, ⟨w_974, w_62, w_976, by decide +kernel⟩, w_975⟩
set_option maxRecDepth 100000 in
theorem qcL_280 : g_cV RL 280 mX8_box 2 := ⟨rfl, ⟨w_1508, w_69, w_1511, by decide +kernel⟩, w_1509, w_1510⟩
set_option maxRecDepth 100000 in
theorem qcL_281 : g_cH RL 281 mL_fence 4 [(0, 10, 13, 13), (0, 10, 17, 42)] := ⟨rfl, ⟨w_981, w_62, w_983, by decide +kernel⟩, w_982⟩
set_option maxRecDepth 100000 in
theorem qcL_283 : g_cV RL 283 mX8_fence 2 := ⟨rfl, ⟨w_1512, w_69, w_1515, by decide +kernel⟩, w_1513, w_1514⟩
set_option maxRecDepth 100000 in
theorem qcL_284 : g_cH RL 284 mL_apart 4 [(0, 17, 20, 13), (0, 17, 24, 42)] := ⟨rfl, ⟨w_994, w_62, w_996, by decide +kernel⟩, w_995⟩
set_option maxRecDepth 100000 in
theorem qcL_286 : g_cV RL 286 mX8_apart 2 := ⟨rfl, ⟨w_1524, w_69, w_1527, by decide +kernel⟩, w_1525, w_1526⟩
set_option maxRecDepth 100000 in
theorem qcL_287 : g_cV RL 287 mX7_image 0 := ⟨rfl, ⟨w_324, w_63, w_327, by decide +kernel⟩, w_325, w_326⟩
set_option maxRecDepth 100000 in
theorem qcL_290 : g_cV RL 290 mX8_image 0 := ⟨rfl, ⟨w_1532, w_69, w_1535, by decide +kernel⟩, w_1533, w_1534⟩
set_option maxRecDepth 100000 in
theorem qcL_291 : g_cH RL 291 mL_restore 2 [(0, 8, 11, 42)] := ⟨rfl, ⟨w_1009, w_62, w_1011, by decide +kernel⟩, w_1010⟩
set_option maxRecDepth 100000 in
theorem qcL_294 : g_cV RL 294 mX8_restore 0 := ⟨rfl, ⟨w_1536, w_69, w_1539, by decide +kernel⟩, w_1537, w_1538⟩
set_option maxRecDepth 100000 in
theorem qcL_295 : g_cV RL 295 mX7_checksum 0 := ⟨rfl, ⟨w_355, w_63, w_358, by decide +kernel⟩, w_356, w_357⟩
set_option maxRecDepth 100000 in
theorem qcL_298 : g_cV RL 298 mX8_checksum 0 := ⟨rfl, ⟨w_1540, w_69, w_1543, by decide +kernel⟩, w_1541, w_1542⟩
set_option maxRecDepth 100000 in
theorem qcL_299 : g_cH RL 299 mL_meanFar 3 [(0, 8, 11, 13)] := ⟨rfl, ⟨w_1017, w_62, w_1019, by decide +kernel⟩, w_1018⟩
set_option maxRecDepth 100000 in
theorem qcL_302 : g_cV RL 302 mX8_meanFar 1 := ⟨rfl, ⟨w_1544, w_69, w_1547, by decide +kernel⟩, w_1545, w_1546⟩
set_option maxRecDepth 100000 in
theorem qcL_303 : g_cV RL 303 mX7_fills 0 := ⟨rfl, ⟨w_361, w_63, w_364, by decide +kernel⟩, w_362, w_363⟩
set_option maxRecDepth 100000 in
theorem qcL_307 : g_cV RL 307 mX8_fills 0 := ⟨rfl, ⟨w_1548, w_69, w_1551, by decide +kernel⟩, w_1549, w_1550⟩
set_option maxRecDepth 100000 in
theorem qcL_308 : g_cV RL 308 mX7_errors 0 := ⟨rfl, ⟨w_368, w_63, w_371, by decide +kernel⟩, w_369, w_370⟩
set_option maxRecDepth 100000 in
theorem qcL_311 : g_cV RL 311 mX8_errors 0 := ⟨rfl, ⟨w_1552, w_69, w_1555, by decide +kernel⟩, w_1553, w_1554⟩
set_option maxRecDepth 100000 in
theorem ob_X4_1 : Cond.methodLink RX4 1 objectInit ∈ GW := w_99
set_option maxRecDepth 100000 in
theorem ob_X6_3 : Cond.methodLink RX6 3 objectInit ∈ GW := w_93
set_option maxRecDepth 100000 in
theorem ob_X2_3 : Cond.methodLink RX2 3 objectInit ∈ GW := w_140
set_option maxRecDepth 100000 in
theorem ob_X0_3 : Cond.methodLink RX0 3 objectInit ∈ GW := w_161
set_option maxRecDepth 100000 in
theorem ob_X7_3 : Cond.methodLink RX7 3 objectInit ∈ GW := w_85
set_option maxRecDepth 100000 in
theorem ob_X8_7 : Cond.methodLink RX8 7 objectInit ∈ GW := w_1033
set_option maxRecDepth 100000 in
theorem ob_2 : Cond.instanceMethod objectInit ∈ GW := w_86
set_option maxRecDepth 100000 in
theorem ob_3 : Cond.code objectInit ⟨#[0xb1]⟩ 1 none ∈ GW := w_87
set_option maxRecDepth 100000 in
theorem t_102_106 : g_TS 102 106 "java/lang/IllegalArgumentException" := ⟨by decide +kernel, w_516, w_73, by decide +kernel, by decide +kernel, by decide +kernel⟩
set_option maxRecDepth 100000 in
theorem t_72_76 : g_TS 72 76 "java/lang/IllegalStateException" := ⟨by decide +kernel, w_589, w_74, by decide +kernel, by decide +kernel, by decide +kernel⟩
set_option maxRecDepth 100000 in
theorem t_110_114 : g_TS 110 114 "java/lang/IndexOutOfBoundsException" := ⟨by decide +kernel, w_622, w_75, by decide +kernel, by decide +kernel, by decide +kernel⟩
set_option maxRecDepth 100000 in
theorem t_163_167 : g_TN 163 167 "java/util/NoSuchElementException" := ⟨by decide +kernel, w_698, w_77, by decide +kernel, by decide +kernel, by decide +kernel⟩
theorem s_74 : (74, "60 points have come") ∈ g_strs := by decide +kernel
theorem s_104 : (104, "what is out of range") ∈ g_strs := by decide +kernel
theorem s_112 : (112, "there is no such place") ∈ g_strs := by decide +kernel
theorem s_157 : (157, "there is no such layer") ∈ g_strs := by decide +kernel
theorem s_165 : (165, "the polygon has no corners") ∈ g_strs := by decide +kernel
theorem s_198 : (198, "the figure has fewer than 3 corners") ∈ g_strs := by decide +kernel
theorem s_204 : (204, "the polygon has 16 corners") ∈ g_strs := by decide +kernel
theorem s_220 : (220, "there is no such triangle") ∈ g_strs := by decide +kernel
theorem s_232 : (232, "there are 20 lines") ∈ g_strs := by decide +kernel
theorem s_244 : (244, "there is no such pair") ∈ g_strs := by decide +kernel
theorem s_259 : (259, "points is below 1") ∈ g_strs := by decide +kernel
theorem s_261 : (261, "the heap has not so many points") ∈ g_strs := by decide +kernel
theorem s_274 : (274, "no image was taken") ∈ g_strs := by decide +kernel
theorem s_289 : (289, "heap is out of range") ∈ g_strs := by decide +kernel
theorem s_291 : (291, "x or y is out of range") ∈ g_strs := by decide +kernel
theorem s_296 : (296, "there is no such point") ∈ g_strs := by decide +kernel
theorem s_298 : (298, "there is no such line") ∈ g_strs := by decide +kernel
theorem s_300 : (300, "there is no such corner") ∈ g_strs := by decide +kernel
theorem s_302 : (302, "the heap is empty") ∈ g_strs := by decide +kernel
theorem s_304 : (304, "the heap has fewer than 2 points") ∈ g_strs := by decide +kernel
theorem s_306 : (306, "polygon is out of range") ∈ g_strs := by decide +kernel
theorem s_308 : (308, "the polygon is not simple") ∈ g_strs := by decide +kernel
