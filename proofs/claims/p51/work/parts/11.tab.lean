/-! TABLES: each method as the layer has it; what its instructions need of the words; by program out of the listing -/
theorem gwl {p : Cond → Prop} {a : Cond} {l : List Cond} (h1 : p a) (h2 : ∀ w ∈ l, p w) : ∀ w ∈ a :: l, p w := List.forall_mem_cons.mpr ⟨h1, h2⟩
set_option maxRecDepth 100000 in
theorem kX0 : g_K 0 RX0 TX0 2 tyX0 := ⟨rfl, show ∀ w ∈ ([.laysFinal RX0 "HullyardSurveys$Census" "above" "LHullyardSurveys$Row;", .laysFinal RX0 "HullyardSurveys$Census" "below" "LHullyardSurveys$Row;"] : List Cond), w ∈ GW from gwl w_148 (gwl w_150 (fun _ h => absurd h List.not_mem_nil)), tyX0_ok, nmX0⟩
set_option maxRecDepth 100000 in
theorem kX2 : g_K 1 RX2 TX2 4 tyX2 := ⟨rfl, show ∀ w ∈ ([.laysFinal RX2 "HullyardSurveys$Parting" "left" "LHullyardSurveys$Row;", .laysFinal RX2 "HullyardSurveys$Parting" "told" "[I", .lays RX2 "HullyardSurveys$Parting" "made" "I", .lays RX2 "HullyardSurveys$Parting" "doubledAreas" "J"] : List Cond), w ∈ GW from gwl w_129 (gwl w_131 (gwl w_133 (gwl w_135 (fun _ h => absurd h List.not_mem_nil)))), tyX2_ok, nmX2⟩
set_option maxRecDepth 100000 in
theorem kX4 : g_K 2 RX4 TX4 4 tyX4 := ⟨rfl, show ∀ w ∈ ([.laysFinal RX4 "HullyardSurveys$Row" "xs" "[I", .laysFinal RX4 "HullyardSurveys$Row" "ys" "[I", .laysFinal RX4 "HullyardSurveys$Row" "marks" "[I", .lays RX4 "HullyardSurveys$Row" "size" "I"] : List Cond), w ∈ GW from gwl w_89 (gwl w_91 (gwl w_93 (gwl w_95 (fun _ h => absurd h List.not_mem_nil)))), tyX4_ok, nmX4⟩
set_option maxRecDepth 100000 in
theorem kX6 : g_K 3 RX6 TX6 4 tyX6 := ⟨rfl, show ∀ w ∈ ([.laysFinal RX6 "HullyardSurveys$Yard" "points" "LHullyardSurveys$Row;", .laysFinal RX6 "HullyardSurveys$Yard" "ends" "LHullyardSurveys$Row;", .laysFinal RX6 "HullyardSurveys$Yard" "polygons" "[LHullyardSurveys$Row;", .laysFinal RX6 "HullyardSurveys$Yard" "blank" "LHullyardSurveys$Row;"] : List Cond), w ∈ GW from gwl w_106 (gwl w_108 (gwl w_110 (gwl w_112 (fun _ h => absurd h List.not_mem_nil)))), tyX6_ok, nmX6⟩
set_option maxRecDepth 100000 in
theorem kX7 : g_K 4 RX7 TX7 10 tyX7 := ⟨rfl, show ∀ w ∈ ([.laysFinal RX7 "HullyardSurveys" "yard" "LHullyardSurveys$Yard;", .laysFinal RX7 "HullyardSurveys" "imaged" "LHullyardSurveys$Yard;", .lays RX7 "HullyardSurveys" "hasImage" "Z", .laysFinal RX7 "HullyardSurveys" "figure" "LHullyardSurveys$Row;", .laysFinal RX7 "HullyardSurveys" "ordered" "LHullyardSurveys$Row;", .laysFinal RX7 "HullyardSurveys" "heights" "LHullyardSurveys$Row;", .laysFinal RX7 "HullyardSurveys" "firstHull" "LHullyardSurveys$Row;", .laysFinal RX7 "HullyardSurveys" "secondHull" "LHullyardSurveys$Row;", .laysFinal RX7 "HullyardSurveys" "parting" "LHullyardSurveys$Parting;", .laysFinal RX7 "HullyardSurveys" "census" "LHullyardSurveys$Census;"] : List Cond), w ∈ GW from gwl w_163 (gwl w_165 (gwl w_167 (gwl w_169 (gwl w_171 (gwl w_173 (gwl w_175 (gwl w_177 (gwl w_179 (gwl w_181 (fun _ h => absurd h List.not_mem_nil)))))))))), tyX7_ok, nmX7⟩
theorem kL : g_K 5 RL TL 12 tyL := ⟨rfl, show ∀ w ∈ ([.lays RL "HullyardSurveysLaw" "x" "I", .laysFinal RL "HullyardSurveysLaw" "o" "LHullyardSurveys;", .laysFinal RL "HullyardSurveysLaw" "heap" "[I", .laysFinal RL "HullyardSurveysLaw" "xs" "[I", .laysFinal RL "HullyardSurveysLaw" "ys" "[I", .laysFinal RL "HullyardSurveysLaw" "gx" "[I", .laysFinal RL "HullyardSurveysLaw" "gy" "[I", .laysFinal RL "HullyardSurveysLaw" "fx" "[I", .laysFinal RL "HullyardSurveysLaw" "fy" "[I", .lays RL "HullyardSurveysLaw" "points" "I", .lays RL "HullyardSurveysLaw" "sides" "I", .lays RL "HullyardSurveysLaw" "corners" "I"] : List Cond), w ∈ GW from gwl w_196 (gwl w_198 (gwl w_200 (gwl w_202 (gwl w_204 (gwl w_206 (gwl w_208 (gwl w_210 (gwl w_212 (gwl w_214 (gwl w_216 (gwl w_218 (fun _ h => absurd h List.not_mem_nil)))))))))))), tyL_ok, nmL⟩
abbrev mX4_init : g_M := (yX4_init, cX4_init, 3, none, (1, 24), none)
abbrev mX4_size : g_M := (yX4_size, cX4_size, 1, (some .int), (0, 0), none)
abbrev mX4_xAt : g_M := (yX4_xAt, cX4_xAt, 2, (some .int), (0, 0), none)
abbrev mX4_yAt : g_M := (yX4_yAt, cX4_yAt, 2, (some .int), (0, 0), none)
abbrev mX4_markAt : g_M := (yX4_markAt, cX4_markAt, 2, (some .int), (0, 0), none)
abbrev mX4_isAt : g_M := (yX4_isAt, cX4_isAt, 4, (some .boolean), (1, 27), none)
abbrev mX4_next : g_M := (yX4_next, cX4_next, 2, (some .int), (0, 0), none)
abbrev mX4_previous : g_M := (yX4_previous, cX4_previous, 2, (some .int), (0, 0), none)
abbrev mX4_mark : g_M := (yX4_mark, cX4_mark, 3, none, (0, 0), none)
abbrev mX4_reset : g_M := (yX4_reset, cX4_reset, 1, none, (0, 0), none)
abbrev mX4_shorten : g_M := (yX4_shorten, cX4_shorten, 1, none, (0, 0), none)
abbrev mX4_put : g_M := (yX4_put, cX4_put, 5, none, (0, 0), none)
abbrev mX4_append : g_M := (yX4_append, cX4_append, 4, none, (1, 30), none)
abbrev mX4_isBehind : g_M := (yX4_isBehind, cX4_isBehind, 4, (some .boolean), (1, 27), none)
abbrev mX4_insertInOrder : g_M := (yX4_insertInOrder, cX4_insertInOrder, 5, none, (2, 56), none)
abbrev mX4_remove : g_M := (yX4_remove, cX4_remove, 3, none, (1, 30), none)
abbrev mX4_copyFrom : g_M := (yX4_copyFrom, cX4_copyFrom, 3, none, (2, 59), none)
abbrev mX3_twist : g_M := (yX3_twist, cX3_twist, 12, (some .long), (0, 0), none)
abbrev mX3_signOf : g_M := (yX3_signOf, cX3_signOf, 2, (some .int), (0, 0), none)
abbrev mX3_isOn : g_M := (yX3_isOn, cX3_isOn, 12, (some .boolean), (1, 37), none)
abbrev mX3_isBetween : g_M := (yX3_isBetween, cX3_isBetween, 5, (some .boolean), (2, 74), none)
abbrev mX3_side : g_M := (yX3_side, cX3_side, 7, (some .int), (1, 37), none)
abbrev mX3_passThrough : g_M := (yX3_passThrough, cX3_passThrough, 6, (some .boolean), (2, 69), none)
abbrev mX3_meet : g_M := (yX3_meet, cX3_meet, 6, (some .boolean), (3, 104), none)
abbrev mX3_commonDivisor : g_M := (yX3_commonDivisor, cX3_commonDivisor, 11, (some .long), (1, 24), none)
abbrev mX5_runOf : g_M := (yX5_runOf, cX5_runOf, 2, (some .int), (1, 27), none)
abbrev mX5_riseOf : g_M := (yX5_riseOf, cX5_riseOf, 2, (some .int), (1, 27), none)
abbrev mX5_twistOf : g_M := (yX5_twistOf, cX5_twistOf, 4, (some .long), (1, 37), none)
abbrev mX5_doubledArea : g_M := (yX5_doubledArea, cX5_doubledArea, 4, (some .int), (1, 27), none)
abbrev mX5_stepsAlong : g_M := (yX5_stepsAlong, cX5_stepsAlong, 2, (some .int), (2, 60), none)
abbrev mX5_stepsRound : g_M := (yX5_stepsRound, cX5_stepsRound, 3, (some .int), (3, 87), none)
abbrev mX5_placesInside : g_M := (yX5_placesInside, cX5_placesInside, 1, (some .int), (4, 115), none)
abbrev mX5_whereIs : g_M := (yX5_whereIs, cX5_whereIs, 18, (some .int), (2, 74), none)
abbrev mX5_bound : g_M := (yX5_bound, cX5_bound, 6, (some .int), (1, 27), none)
abbrev mX5_reachFrom : g_M := (yX5_reachFrom, cX5_reachFrom, 5, (some .long), (2, 66), none)
abbrev mX5_squaredWidth : g_M := (yX5_squaredWidth, cX5_squaredWidth, 15, (some .long), (3, 96), none)
abbrev mX5_foldsBack : g_M := (yX5_foldsBack, cX5_foldsBack, 4, (some .boolean), (3, 104), none)
abbrev mX5_closesSimply : g_M := (yX5_closesSimply, cX5_closesSimply, 4, (some .boolean), (4, 135), none)
abbrev mX5_whereIsMiddle : g_M := (yX5_whereIsMiddle, cX5_whereIsMiddle, 7, (some .int), (3, 117), none)
abbrev mX5_isOpenBetween : g_M := (yX5_isOpenBetween, cX5_isOpenBetween, 5, (some .boolean), (4, 149), none)
abbrev mX1_turnsLeft : g_M := (yX1_turnsLeft, cX1_turnsLeft, 4, (some .boolean), (1, 37), none)
abbrev mX1_bendTo : g_M := (yX1_bendTo, cX1_bendTo, 5, none, (2, 66), none)
abbrev mX1_wrap : g_M := (yX1_wrap, cX1_wrap, 4, none, (3, 96), none)
abbrev mX1_peel : g_M := (yX1_peel, cX1_peel, 3, none, (4, 125), none)
abbrev mX1_goesOut : g_M := (yX1_goesOut, cX1_goesOut, 2, (some .boolean), (0, 0), none)
abbrev mX1_compareEdges : g_M := (yX1_compareEdges, cX1_compareEdges, 10, (some .int), (2, 54), none)
abbrev mX1_addUp : g_M := (yX1_addUp, cX1_addUp, 11, none, (3, 89), none)
abbrev mX1_hasCornerIn : g_M := (yX1_hasCornerIn, cX1_hasCornerIn, 3, (some .boolean), (3, 117), none)
abbrev mX1_touch : g_M := (yX1_touch, cX1_touch, 4, (some .boolean), (4, 145), none)
abbrev mX6_init : g_M := (yX6_init, cX6_init, 2, none, (2, 52), none)
abbrev mX6_polygonAt : g_M := (yX6_polygonAt, cX6_polygonAt, 3, (some (.object "HullyardSurveys$Row")), (0, 0), none)
abbrev mX6_hasPoint : g_M := (yX6_hasPoint, cX6_hasPoint, 2, (some .boolean), (1, 27), none)
abbrev mX6_heapSize : g_M := (yX6_heapSize, cX6_heapSize, 4, (some .int), (1, 27), none)
abbrev mX6_putInOrder : g_M := (yX6_putInOrder, cX6_putInOrder, 4, none, (3, 86), none)
abbrev mX6_squaredDistance : g_M := (yX6_squaredDistance, cX6_squaredDistance, 5, (some .int), (1, 27), none)
abbrev mX6_extremePair : g_M := (yX6_extremePair, cX6_extremePair, 9, (some .int), (2, 57), none)
abbrev mX6_lineCount : g_M := (yX6_lineCount, cX6_lineCount, 1, (some .int), (1, 26), none)
abbrev mX6_linesMeet : g_M := (yX6_linesMeet, cX6_linesMeet, 3, (some .boolean), (4, 135), none)
abbrev mX6_copyFrom : g_M := (yX6_copyFrom, cX6_copyFrom, 3, none, (3, 87), none)
abbrev mX2_init : g_M := (yX2_init, cX2_init, 1, none, (2, 52), none)
abbrev mX2_isEar : g_M := (yX2_isEar, cX2_isEar, 7, (some .boolean), (2, 69), none)
abbrev mX2_firstEar : g_M := (yX2_firstEar, cX2_firstEar, 3, (some .int), (3, 101), none)
abbrev mX2_keepTriangle : g_M := (yX2_keepTriangle, cX2_keepTriangle, 4, none, (2, 66), none)
abbrev mX2_part : g_M := (yX2_part, cX2_part, 5, none, (4, 129), none)
abbrev mX2_made : g_M := (yX2_made, cX2_made, 1, (some .int), (0, 0), none)
abbrev mX2_doubledAreas : g_M := (yX2_doubledAreas, cX2_doubledAreas, 1, (some .long), (0, 0), none)
abbrev mX2_tellTriangle : g_M := (yX2_tellTriangle, cX2_tellTriangle, 2, (some .int), (0, 0), none)
abbrev mX0_init : g_M := (yX0_init, cX0_init, 1, none, (2, 52), none)
abbrev mX0_cut : g_M := (yX0_cut, cX0_cut, 13, none, (3, 86), none)
abbrev mX0_firstInside : g_M := (yX0_firstInside, cX0_firstInside, 2, (some .int), (1, 28), none)
abbrev mX0_lastInside : g_M := (yX0_lastInside, cX0_lastInside, 2, (some .int), (1, 28), none)
abbrev mX0_countCommon : g_M := (yX0_countCommon, cX0_countCommon, 6, (some .int), (2, 55), none)
abbrev mX0_countInside : g_M := (yX0_countInside, cX0_countInside, 5, (some .int), (4, 124), none)
abbrev mX7_init : g_M := (yX7_init, cX7_init, 1, none, (3, 79), none)
abbrev mX7_requireHeap : g_M := (yX7_requireHeap, cX7_requireHeap, 1, none, (6, 90), none)
abbrev mX7_requireNear : g_M := (yX7_requireNear, cX7_requireNear, 2, none, (6, 90), none)
abbrev mX7_point : g_M := (yX7_point, cX7_point, 4, (some .int), (7, 117), none)
abbrev mX7_requirePoint : g_M := (yX7_requirePoint, cX7_requirePoint, 2, none, (6, 90), none)
abbrev mX7_drop : g_M := (yX7_drop, cX7_drop, 3, (some .int), (7, 117), none)
abbrev mX7_pointOf : g_M := (yX7_pointOf, cX7_pointOf, 3, (some .int), (7, 117), none)
abbrev mX7_count : g_M := (yX7_count, cX7_count, 2, (some .int), (7, 116), none)
abbrev mX7_orderHeap : g_M := (yX7_orderHeap, cX7_orderHeap, 2, none, (4, 115), none)
abbrev mX7_sorted : g_M := (yX7_sorted, cX7_sorted, 3, (some .int), (7, 142), none)
abbrev mX7_places : g_M := (yX7_places, cX7_places, 4, (some .int), (7, 142), none)
abbrev mX7_turn : g_M := (yX7_turn, cX7_turn, 4, (some .int), (7, 117), none)
abbrev mX7_requireFilled : g_M := (yX7_requireFilled, cX7_requireFilled, 2, none, (6, 90), none)
abbrev mX7_hull : g_M := (yX7_hull, cX7_hull, 2, (some .int), (7, 142), none)
abbrev mX7_requireTwoFilled : g_M := (yX7_requireTwoFilled, cX7_requireTwoFilled, 3, none, (7, 117), none)
abbrev mX7_join : g_M := (yX7_join, cX7_join, 3, (some .int), (8, 145), none)
abbrev mX7_wrapTwo : g_M := (yX7_wrapTwo, cX7_wrapTwo, 3, none, (5, 142), none)
abbrev mX7_sum : g_M := (yX7_sum, cX7_sum, 3, (some .int), (8, 170), none)
abbrev mX7_layers : g_M := (yX7_layers, cX7_layers, 4, (some .int), (7, 153), none)
abbrev mX7_layer : g_M := (yX7_layer, cX7_layer, 5, (some .int), (7, 153), none)
abbrev mX7_requirePolygon : g_M := (yX7_requirePolygon, cX7_requirePolygon, 2, (some (.object "HullyardSurveys$Row")), (6, 90), none)
abbrev mX7_hullOf : g_M := (yX7_hullOf, cX7_hullOf, 4, (some .int), (7, 125), none)
abbrev mX7_corners : g_M := (yX7_corners, cX7_corners, 1, (some .int), (1, 26), none)
abbrev mX7_requireCorner : g_M := (yX7_requireCorner, cX7_requireCorner, 2, none, (6, 90), none)
abbrev mX7_corner : g_M := (yX7_corner, cX7_corner, 3, (some .int), (7, 117), none)
abbrev mX7_area : g_M := (yX7_area, cX7_area, 1, (some .int), (2, 56), none)
abbrev mX7_edge : g_M := (yX7_edge, cX7_edge, 1, (some .int), (4, 115), none)
abbrev mX7_inner : g_M := (yX7_inner, cX7_inner, 1, (some .int), (5, 141), none)
abbrev mX7_lies : g_M := (yX7_lies, cX7_lies, 3, (some .int), (3, 117), none)
abbrev mX7_width : g_M := (yX7_width, cX7_width, 2, (some .long), (6, 136), none)
abbrev mX7_add : g_M := (yX7_add, cX7_add, 5, (some .int), (7, 117), none)
abbrev mX7_clear : g_M := (yX7_clear, cX7_clear, 4, (some .int), (7, 117), none)
abbrev mX7_isSimple : g_M := (yX7_isSimple, cX7_isSimple, 2, (some .boolean), (7, 164), none)
abbrev mX7_polygonArea : g_M := (yX7_polygonArea, cX7_polygonArea, 2, (some .int), (7, 117), none)
abbrev mX7_requireSimple : g_M := (yX7_requireSimple, cX7_requireSimple, 3, (some (.object "HullyardSurveys$Row")), (7, 164), none)
abbrev mX7_polygonEdge : g_M := (yX7_polygonEdge, cX7_polygonEdge, 2, (some .int), (8, 192), none)
abbrev mX7_polygonInner : g_M := (yX7_polygonInner, cX7_polygonInner, 2, (some .int), (8, 192), none)
abbrev mX7_polygonLies : g_M := (yX7_polygonLies, cX7_polygonLies, 4, (some .int), (8, 192), none)
abbrev mX7_holds : g_M := (yX7_holds, cX7_holds, 6, (some .int), (8, 192), none)
abbrev mX7_triangles : g_M := (yX7_triangles, cX7_triangles, 2, (some .int), (8, 192), none)
abbrev mX7_triangleAt : g_M := (yX7_triangleAt, cX7_triangleAt, 3, (some .int), (8, 192), none)
abbrev mX7_sees : g_M := (yX7_sees, cX7_sees, 5, (some .boolean), (8, 192), none)
abbrev mX7_view : g_M := (yX7_view, cX7_view, 6, (some .int), (8, 192), none)
abbrev mX7_line : g_M := (yX7_line, cX7_line, 5, (some .int), (7, 117), none)
abbrev mX7_clearLines : g_M := (yX7_clearLines, cX7_clearLines, 2, (some .int), (2, 52), none)
abbrev mX7_requireLine : g_M := (yX7_requireLine, cX7_requireLine, 2, none, (6, 90), none)
abbrev mX7_cross : g_M := (yX7_cross, cX7_cross, 3, (some .boolean), (7, 163), none)
abbrev mX7_crossings : g_M := (yX7_crossings, cX7_crossings, 4, (some .int), (5, 163), none)
abbrev mX7_crossingAt : g_M := (yX7_crossingAt, cX7_crossingAt, 5, (some .int), (6, 163), none)
abbrev mX7_requireTwoPoints : g_M := (yX7_requireTwoPoints, cX7_requireTwoPoints, 2, none, (6, 90), none)
abbrev mX7_pair : g_M := (yX7_pair, cX7_pair, 3, (some .int), (7, 117), none)
abbrev mX7_distance : g_M := (yX7_distance, cX7_distance, 4, (some .int), (7, 117), none)
abbrev mX7_box : g_M := (yX7_box, cX7_box, 3, (some .int), (7, 142), none)
abbrev mX7_leastFenceFrom : g_M := (yX7_leastFenceFrom, cX7_leastFenceFrom, 8, (some .int), (3, 86), none)
abbrev mX7_fence : g_M := (yX7_fence, cX7_fence, 5, (some .int), (7, 142), none)
abbrev mX7_apart : g_M := (yX7_apart, cX7_apart, 3, (some .boolean), (8, 174), none)
abbrev mX7_image : g_M := (yX7_image, cX7_image, 1, (some .int), (4, 115), none)
abbrev mX7_restore : g_M := (yX7_restore, cX7_restore, 1, (some .int), (6, 115), none)
abbrev mX7_checksum : g_M := (yX7_checksum, cX7_checksum, 3, (some .int), (1, 27), none)
abbrev mX7_fills : g_M := (yX7_fills, cX7_fills, 4, (some .float), (2, 58), none)
abbrev mX7_hasStray : g_M := (yX7_hasStray, cX7_hasStray, 3, (some .boolean), (5, 142), none)
abbrev mX7_faultsOf : g_M := (yX7_faultsOf, cX7_faultsOf, 4, (some .int), (5, 159), none)
abbrev mX7_errors : g_M := (yX7_errors, cX7_errors, 4, (some .int), (6, 188), none)
abbrev mL_init : g_M := (yL_init, cL_init, 1, none, (4, 105), none)
abbrev mL_next : g_M := (yL_next, cL_next, 2, (some .int), (0, 0), none)
abbrev mL_common : g_M := (yL_common, cL_common, 5, (some .int), (1, 24), none)
abbrev mL_turn : g_M := (yL_turn, cL_turn, 6, (some .int), (1, 26), none)
abbrev mL_spread : g_M := (yL_spread, cL_spread, 2, (some .int), (1, 27), none)
abbrev mL_come : g_M := (yL_come, cL_come, 6, (some .boolean), (8, 146), none)
abbrev mL_many : g_M := (yL_many, cL_many, 4, (some .int), (0, 0), none)
abbrev mL_isWide : g_M := (yL_isWide, cL_isWide, 12, (some .boolean), (7, 163), none)
abbrev mL_isFigure : g_M := (yL_isFigure, cL_isFigure, 7, (some .boolean), (8, 200), none)
abbrev mL_holdsAll : g_M := (yL_holdsAll, cL_holdsAll, 3, (some .boolean), (4, 145), none)
abbrev mL_isOfPoints : g_M := (yL_isOfPoints, cL_isOfPoints, 6, (some .boolean), (0, 0), none)
abbrev mL_areHulls : g_M := (yL_areHulls, cL_areHulls, 8, (some .boolean), (9, 232), none)
abbrev mL_areLayers : g_M := (yL_areLayers, cL_areLayers, 6, (some .boolean), (9, 232), none)
abbrev mL_arePairs : g_M := (yL_arePairs, cL_arePairs, 11, (some .boolean), (8, 172), none)
abbrev mL_areApart : g_M := (yL_areApart, cL_areApart, 5, (some .boolean), (9, 202), none)
abbrev mL_isDrawn : g_M := (yL_isDrawn, cL_isDrawn, 10, (some .boolean), (8, 147), none)
abbrev mL_isTouched : g_M := (yL_isTouched, cL_isTouched, 9, (some .boolean), (8, 191), none)
abbrev mL_isParted : g_M := (yL_isParted, cL_isParted, 10, (some .boolean), (9, 222), none)
abbrev mL_isSeen : g_M := (yL_isSeen, cL_isSeen, 6, (some .boolean), (9, 223), none)
abbrev mL_isPolygon : g_M := (yL_isPolygon, cL_isPolygon, 7, (some .boolean), (10, 257), none)
abbrev mL_areLines : g_M := (yL_areLines, cL_areLines, 7, (some .boolean), (8, 193), none)
abbrev mL_isRestored : g_M := (yL_isRestored, cL_isRestored, 3, (some .boolean), (8, 217), none)
abbrev mL_stirred : g_M := (yL_stirred, cL_stirred, 6, (some .int), (0, 0), none)
abbrev mJ9_floorDiv_7cf53 : g_M := (yJ9_floorDiv_7cf53, cJ9_floorDiv_7cf53, 3, (some .int), (0, 0), none)
abbrev mJ6_signum_0f7a4 : g_M := (yJ6_signum_0f7a4, cJ6_signum_0f7a4, 1, (some .int), (0, 0), none)
set_option maxRecDepth 100000 in
theorem pfX4_7 : g_FP RX4 7 2 3 .int false := ⟨_, _, _, _, kX4, by decide, w_88, rfl, by decide +kernel, rfl⟩
set_option maxRecDepth 100000 in
theorem pfX4_19 : g_FP RX4 19 2 0 (.array .int) true := ⟨_, _, _, _, kX4, by decide, w_85, rfl, by decide +kernel, rfl⟩
set_option maxRecDepth 100000 in
theorem pfX4_23 : g_FP RX4 23 2 1 (.array .int) true := ⟨_, _, _, _, kX4, by decide, w_86, rfl, by decide +kernel, rfl⟩
set_option maxRecDepth 100000 in
theorem pfX4_26 : g_FP RX4 26 2 2 (.array .int) true := ⟨_, _, _, _, kX4, by decide, w_87, rfl, by decide +kernel, rfl⟩
set_option maxRecDepth 100000 in
theorem fX4_7 : g_F RX4 7 2 3 := ⟨_, _, _, _, kX4, by decide, w_88⟩
set_option maxRecDepth 100000 in
theorem fX4_19 : g_F RX4 19 2 0 := ⟨_, _, _, _, kX4, by decide, w_85⟩
set_option maxRecDepth 100000 in
theorem fX4_23 : g_F RX4 23 2 1 := ⟨_, _, _, _, kX4, by decide, w_86⟩
set_option maxRecDepth 100000 in
theorem fX4_26 : g_F RX4 26 2 2 := ⟨_, _, _, _, kX4, by decide, w_87⟩
set_option maxRecDepth 100000 in
theorem pfX6_14 : g_FP RX6 14 3 0 (.object "HullyardSurveys$Row") true := ⟨_, _, _, _, kX6, by decide, w_100, rfl, by decide +kernel, rfl⟩
set_option maxRecDepth 100000 in
theorem pfX6_20 : g_FP RX6 20 3 1 (.object "HullyardSurveys$Row") true := ⟨_, _, _, _, kX6, by decide, w_102, rfl, by decide +kernel, rfl⟩
set_option maxRecDepth 100000 in
theorem pfX6_23 : g_FP RX6 23 3 2 (.array (.object "HullyardSurveys$Row")) true := ⟨_, _, _, _, kX6, by decide, w_104, rfl, by decide +kernel, rfl⟩
set_option maxRecDepth 100000 in
theorem pfX6_27 : g_FP RX6 27 3 3 (.object "HullyardSurveys$Row") true := ⟨_, _, _, _, kX6, by decide, w_105, rfl, by decide +kernel, rfl⟩
set_option maxRecDepth 100000 in
theorem fX6_23 : g_F RX6 23 3 2 := ⟨_, _, _, _, kX6, by decide, w_104⟩
set_option maxRecDepth 100000 in
theorem fX6_27 : g_F RX6 27 3 3 := ⟨_, _, _, _, kX6, by decide, w_105⟩
set_option maxRecDepth 100000 in
theorem fX6_14 : g_F RX6 14 3 0 := ⟨_, _, _, _, kX6, by decide, w_100⟩
set_option maxRecDepth 100000 in
theorem fX6_20 : g_F RX6 20 3 1 := ⟨_, _, _, _, kX6, by decide, w_102⟩
set_option maxRecDepth 100000 in
theorem pfX2_14 : g_FP RX2 14 1 0 (.object "HullyardSurveys$Row") true := ⟨_, _, _, _, kX2, by decide, w_125, rfl, by decide +kernel, rfl⟩
set_option maxRecDepth 100000 in
theorem pfX2_20 : g_FP RX2 20 1 1 (.array .int) true := ⟨_, _, _, _, kX2, by decide, w_126, rfl, by decide +kernel, rfl⟩
set_option maxRecDepth 100000 in
theorem pfX2_24 : g_FP RX2 24 1 2 .int false := ⟨_, _, _, _, kX2, by decide, w_127, rfl, by decide +kernel, rfl⟩
set_option maxRecDepth 100000 in
theorem pfX2_28 : g_FP RX2 28 1 3 .long false := ⟨_, _, _, _, kX2, by decide, w_128, rfl, by decide +kernel, rfl⟩
set_option maxRecDepth 100000 in
theorem fX2_14 : g_F RX2 14 1 0 := ⟨_, _, _, _, kX2, by decide, w_125⟩
set_option maxRecDepth 100000 in
theorem fX2_24 : g_F RX2 24 1 2 := ⟨_, _, _, _, kX2, by decide, w_127⟩
set_option maxRecDepth 100000 in
theorem fX2_20 : g_F RX2 20 1 1 := ⟨_, _, _, _, kX2, by decide, w_126⟩
set_option maxRecDepth 100000 in
theorem fX2_28 : g_F RX2 28 1 3 := ⟨_, _, _, _, kX2, by decide, w_128⟩
set_option maxRecDepth 100000 in
theorem pfX0_14 : g_FP RX0 14 0 0 (.object "HullyardSurveys$Row") true := ⟨_, _, _, _, kX0, by decide, w_146, rfl, by decide +kernel, rfl⟩
set_option maxRecDepth 100000 in
theorem pfX0_20 : g_FP RX0 20 0 1 (.object "HullyardSurveys$Row") true := ⟨_, _, _, _, kX0, by decide, w_147, rfl, by decide +kernel, rfl⟩
set_option maxRecDepth 100000 in
theorem fX0_14 : g_F RX0 14 0 0 := ⟨_, _, _, _, kX0, by decide, w_146⟩
set_option maxRecDepth 100000 in
theorem fX0_20 : g_F RX0 20 0 1 := ⟨_, _, _, _, kX0, by decide, w_147⟩
set_option maxRecDepth 100000 in
theorem pfX7_12 : g_FP RX7 12 4 0 (.object "HullyardSurveys$Yard") true := ⟨_, _, _, _, kX7, by decide, w_153, rfl, by decide +kernel, rfl⟩
set_option maxRecDepth 100000 in
theorem pfX7_16 : g_FP RX7 16 4 1 (.object "HullyardSurveys$Yard") true := ⟨_, _, _, _, kX7, by decide, w_154, rfl, by decide +kernel, rfl⟩
set_option maxRecDepth 100000 in
theorem pfX7_19 : g_FP RX7 19 4 2 .boolean false := ⟨_, _, _, _, kX7, by decide, w_155, rfl, by decide +kernel, rfl⟩
set_option maxRecDepth 100000 in
theorem pfX7_28 : g_FP RX7 28 4 3 (.object "HullyardSurveys$Row") true := ⟨_, _, _, _, kX7, by decide, w_156, rfl, by decide +kernel, rfl⟩
set_option maxRecDepth 100000 in
theorem pfX7_32 : g_FP RX7 32 4 4 (.object "HullyardSurveys$Row") true := ⟨_, _, _, _, kX7, by decide, w_157, rfl, by decide +kernel, rfl⟩
set_option maxRecDepth 100000 in
theorem pfX7_35 : g_FP RX7 35 4 5 (.object "HullyardSurveys$Row") true := ⟨_, _, _, _, kX7, by decide, w_158, rfl, by decide +kernel, rfl⟩
set_option maxRecDepth 100000 in
theorem pfX7_38 : g_FP RX7 38 4 6 (.object "HullyardSurveys$Row") true := ⟨_, _, _, _, kX7, by decide, w_159, rfl, by decide +kernel, rfl⟩
set_option maxRecDepth 100000 in
theorem pfX7_41 : g_FP RX7 41 4 7 (.object "HullyardSurveys$Row") true := ⟨_, _, _, _, kX7, by decide, w_160, rfl, by decide +kernel, rfl⟩
set_option maxRecDepth 100000 in
theorem pfX7_47 : g_FP RX7 47 4 8 (.object "HullyardSurveys$Parting") true := ⟨_, _, _, _, kX7, by decide, w_161, rfl, by decide +kernel, rfl⟩
set_option maxRecDepth 100000 in
theorem pfX7_54 : g_FP RX7 54 4 9 (.object "HullyardSurveys$Census") true := ⟨_, _, _, _, kX7, by decide, w_162, rfl, by decide +kernel, rfl⟩
set_option maxRecDepth 100000 in
theorem fX7_12 : g_F RX7 12 4 0 := ⟨_, _, _, _, kX7, by decide, w_153⟩
set_option maxRecDepth 100000 in
theorem fX7_65 : g_FN RX7 65 3 0 := ⟨_, _, _, _, "HullyardSurveys", kX6, by decide, by decide +kernel⟩
set_option maxRecDepth 100000 in
theorem fX7_32 : g_F RX7 32 4 4 := ⟨_, _, _, _, kX7, by decide, w_157⟩
set_option maxRecDepth 100000 in
theorem fX7_28 : g_F RX7 28 4 3 := ⟨_, _, _, _, kX7, by decide, w_156⟩
set_option maxRecDepth 100000 in
theorem fX7_38 : g_F RX7 38 4 6 := ⟨_, _, _, _, kX7, by decide, w_159⟩
set_option maxRecDepth 100000 in
theorem fX7_41 : g_F RX7 41 4 7 := ⟨_, _, _, _, kX7, by decide, w_160⟩
set_option maxRecDepth 100000 in
theorem fX7_47 : g_F RX7 47 4 8 := ⟨_, _, _, _, kX7, by decide, w_161⟩
set_option maxRecDepth 100000 in
theorem fX7_234 : g_FN RX7 234 3 1 := ⟨_, _, _, _, "HullyardSurveys", kX6, by decide, by decide +kernel⟩
set_option maxRecDepth 100000 in
theorem fX7_35 : g_F RX7 35 4 5 := ⟨_, _, _, _, kX7, by decide, w_158⟩
set_option maxRecDepth 100000 in
theorem fX7_16 : g_F RX7 16 4 1 := ⟨_, _, _, _, kX7, by decide, w_154⟩
set_option maxRecDepth 100000 in
theorem fX7_19 : g_F RX7 19 4 2 := ⟨_, _, _, _, kX7, by decide, w_155⟩
set_option maxRecDepth 100000 in
theorem fX7_54 : g_F RX7 54 4 9 := ⟨_, _, _, _, kX7, by decide, w_162⟩
theorem pfL_10 : g_FP RL 10 5 1 (.object "HullyardSurveys") true := ⟨_, _, _, _, kL, by decide, w_185, rfl, by decide +kernel, rfl⟩
theorem pfL_16 : g_FP RL 16 5 2 (.array .int) true := ⟨_, _, _, _, kL, by decide, w_186, rfl, by decide +kernel, rfl⟩
theorem pfL_20 : g_FP RL 20 5 3 (.array .int) true := ⟨_, _, _, _, kL, by decide, w_187, rfl, by decide +kernel, rfl⟩
theorem pfL_23 : g_FP RL 23 5 4 (.array .int) true := ⟨_, _, _, _, kL, by decide, w_188, rfl, by decide +kernel, rfl⟩
theorem pfL_26 : g_FP RL 26 5 5 (.array .int) true := ⟨_, _, _, _, kL, by decide, w_189, rfl, by decide +kernel, rfl⟩
theorem pfL_29 : g_FP RL 29 5 6 (.array .int) true := ⟨_, _, _, _, kL, by decide, w_190, rfl, by decide +kernel, rfl⟩
theorem pfL_32 : g_FP RL 32 5 7 (.array .int) true := ⟨_, _, _, _, kL, by decide, w_191, rfl, by decide +kernel, rfl⟩
theorem pfL_35 : g_FP RL 35 5 8 (.array .int) true := ⟨_, _, _, _, kL, by decide, w_192, rfl, by decide +kernel, rfl⟩
theorem fL_38 : g_F RL 38 5 0 := ⟨_, _, _, _, kL, by decide, w_184⟩
theorem pfL_38 : g_FP RL 38 5 0 .int false := ⟨_, _, _, _, kL, by decide, w_184, rfl, by decide +kernel, rfl⟩
theorem pfL_57 : g_FP RL 57 5 9 .int false := ⟨_, _, _, _, kL, by decide, w_193, rfl, by decide +kernel, rfl⟩
theorem fL_57 : g_F RL 57 5 9 := ⟨_, _, _, _, kL, by decide, w_193⟩
theorem fL_16 : g_F RL 16 5 2 := ⟨_, _, _, _, kL, by decide, w_186⟩
theorem fL_20 : g_F RL 20 5 3 := ⟨_, _, _, _, kL, by decide, w_187⟩
theorem fL_23 : g_F RL 23 5 4 := ⟨_, _, _, _, kL, by decide, w_188⟩
theorem fL_10 : g_F RL 10 5 1 := ⟨_, _, _, _, kL, by decide, w_185⟩
theorem fL_71 : g_F RL 71 5 11 := ⟨_, _, _, _, kL, by decide, w_195⟩
theorem fL_32 : g_F RL 32 5 7 := ⟨_, _, _, _, kL, by decide, w_191⟩
theorem fL_35 : g_F RL 35 5 8 := ⟨_, _, _, _, kL, by decide, w_192⟩
theorem pfL_71 : g_FP RL 71 5 11 .int false := ⟨_, _, _, _, kL, by decide, w_195, rfl, by decide +kernel, rfl⟩
theorem pfL_174 : g_FP RL 174 5 10 .int false := ⟨_, _, _, _, kL, by decide, w_194, rfl, by decide +kernel, rfl⟩
theorem fL_174 : g_F RL 174 5 10 := ⟨_, _, _, _, kL, by decide, w_194⟩
theorem fL_26 : g_F RL 26 5 5 := ⟨_, _, _, _, kL, by decide, w_189⟩
theorem fL_29 : g_F RL 29 5 6 := ⟨_, _, _, _, kL, by decide, w_190⟩
set_option maxRecDepth 100000 in
theorem qcX4_13 : g_MM RX4 13 Lib.Math.max.name Lib.Math.max.code 2 .int := ⟨w_82, w_83, w_42, w_84⟩
set_option maxRecDepth 100000 in
theorem qcX4_29 : g_cV RX4 29 mX4_xAt 1 := ⟨rfl, ⟨w_407, w_41, w_394, by decide +kernel⟩, w_392, w_393⟩
set_option maxRecDepth 100000 in
theorem qcX4_33 : g_cV RX4 33 mX4_yAt 1 := ⟨rfl, ⟨w_408, w_41, w_398, by decide +kernel⟩, w_396, w_397⟩
set_option maxRecDepth 100000 in
theorem qcX4_36 : g_cV RX4 36 mX4_put 4 := ⟨rfl, ⟨w_338, w_41, w_341, by decide +kernel⟩, w_340, w_4⟩
set_option maxRecDepth 100000 in
theorem qcX4_40 : g_cV RX4 40 mX4_isBehind 3 := ⟨rfl, ⟨w_403, w_41, w_406, by decide +kernel⟩, w_405, w_8⟩
set_option maxRecDepth 100000 in
theorem qcX4_44 : g_cV RX4 44 mX4_markAt 1 := ⟨rfl, ⟨w_409, w_41, w_362, by decide +kernel⟩, w_360, w_361⟩
set_option maxRecDepth 100000 in
theorem qcX4_47 : g_cV RX4 47 mX4_reset 0 := ⟨rfl, ⟨w_868, w_41, w_386, by decide +kernel⟩, w_384, w_385⟩
set_option maxRecDepth 100000 in
theorem qcX4_50 : g_cV RX4 50 mX4_append 3 := ⟨rfl, ⟨w_869, w_41, w_337, by decide +kernel⟩, w_335, w_336⟩
set_option maxRecDepth 100000 in
theorem qcX3_7 : g_MM RX3 7 Lib.MathLoose.min_long.x Lib.MathLoose.min_long.code 4 .long := ⟨w_497, w_498, w_42, w_499⟩
set_option maxRecDepth 100000 in
theorem qcX3_13 : g_MM RX3 13 Lib.MathLoose.max_long.x Lib.MathLoose.max_long.code 4 .long := ⟨w_500, w_501, w_42, w_502⟩
set_option maxRecDepth 100000 in
theorem qcX3_16 : g_cS RX3 16 mX3_twist 6 := ⟨rfl, ⟨w_503, w_52, w_429, by decide +kernel⟩, w_428⟩
set_option maxRecDepth 100000 in
theorem qcX3_22 : g_cV RX3 22 mX4_xAt 1 := ⟨rfl, ⟨w_716, w_41, w_394, by decide +kernel⟩, w_392, w_393⟩
set_option maxRecDepth 100000 in
theorem qcX3_28 : g_cV RX3 28 mX4_yAt 1 := ⟨rfl, ⟨w_717, w_41, w_398, by decide +kernel⟩, w_396, w_397⟩
set_option maxRecDepth 100000 in
theorem qcX3_31 : g_cS RX3 31 mX3_isOn 6 := ⟨rfl, ⟨w_748, w_52, w_496, by decide +kernel⟩, w_495⟩
set_option maxRecDepth 100000 in
theorem qcX3_35 : g_cS RX3 35 mX3_signOf 1 := ⟨rfl, ⟨w_718, w_52, w_630, by decide +kernel⟩, w_629⟩
set_option maxRecDepth 100000 in
theorem qcX3_39 : g_cS RX3 39 mX3_side 5 := ⟨rfl, ⟨w_744, w_52, w_715, by decide +kernel⟩, w_714⟩
set_option maxRecDepth 100000 in
theorem qcX3_43 : g_cS RX3 43 mX3_passThrough 6 := ⟨rfl, ⟨w_741, w_52, w_743, by decide +kernel⟩, w_742⟩
set_option maxRecDepth 100000 in
theorem qcX3_47 : g_cS RX3 47 mX3_isBetween 5 := ⟨rfl, ⟨w_745, w_52, w_747, by decide +kernel⟩, w_746⟩
set_option maxRecDepth 100000 in
theorem qcX3_51 : g_MM RX3 51 Lib.MathLoose.abs_long.x Lib.MathLoose.abs_long.code 2 .long := ⟨w_528, w_529, w_42, w_530⟩
set_option maxRecDepth 100000 in
theorem qcX5_7 : g_cV RX5 7 mX4_next 1 := ⟨rfl, ⟨w_488, w_41, w_491, by decide +kernel⟩, w_489, w_490⟩
set_option maxRecDepth 100000 in
theorem qcX5_13 : g_cV RX5 13 mX4_xAt 1 := ⟨rfl, ⟨w_492, w_41, w_394, by decide +kernel⟩, w_392, w_393⟩
set_option maxRecDepth 100000 in
theorem qcX5_16 : g_cV RX5 16 mX4_yAt 1 := ⟨rfl, ⟨w_493, w_41, w_398, by decide +kernel⟩, w_396, w_397⟩
set_option maxRecDepth 100000 in
theorem qcX5_19 : g_cS RX5 19 mX3_twist 6 := ⟨rfl, ⟨w_504, w_52, w_429, by decide +kernel⟩, w_428⟩
set_option maxRecDepth 100000 in
theorem qcX5_25 : g_cV RX5 25 mX4_size 0 := ⟨rfl, ⟨w_487, w_41, w_317, by decide +kernel⟩, w_315, w_316⟩
set_option maxRecDepth 100000 in
theorem qcX5_29 : g_cS RX5 29 mX5_runOf 2 := ⟨rfl, ⟨w_519, w_55, w_521, by decide +kernel⟩, w_520⟩
set_option maxRecDepth 100000 in
theorem qcX5_35 : g_cS RX5 35 mX5_riseOf 2 := ⟨rfl, ⟨w_522, w_55, w_524, by decide +kernel⟩, w_523⟩
set_option maxRecDepth 100000 in
theorem qcX5_38 : g_cS RX5 38 mX3_commonDivisor 2 := ⟨rfl, ⟨w_525, w_52, w_527, by decide +kernel⟩, w_526⟩
set_option maxRecDepth 100000 in
theorem qcX5_42 : g_cS RX5 42 mX5_stepsAlong 2 := ⟨rfl, ⟨w_534, w_55, w_518, by decide +kernel⟩, w_517⟩
set_option maxRecDepth 100000 in
theorem qcX5_45 : g_cS RX5 45 mX5_doubledArea 1 := ⟨rfl, ⟨w_546, w_55, w_511, by decide +kernel⟩, w_510⟩
set_option maxRecDepth 100000 in
theorem qcX5_49 : g_MM RX5 49 Lib.Math.abs.name Lib.Math.abs.code 1 .int := ⟨w_547, w_478, w_42, w_479⟩
set_option maxRecDepth 100000 in
theorem qcX5_54 : g_cS RX5 54 mX5_stepsRound 1 := ⟨rfl, ⟨w_548, w_55, w_533, by decide +kernel⟩, w_532⟩
set_option maxRecDepth 100000 in
theorem qcX5_57 : g_cS RX5 57 mX3_isOn 6 := ⟨rfl, ⟨w_494, w_52, w_496, by decide +kernel⟩, w_495⟩
set_option maxRecDepth 100000 in
theorem qcX5_65 : g_cS RX5 65 mX5_twistOf 4 := ⟨rfl, ⟨w_565, w_55, w_567, by decide +kernel⟩, w_566⟩
set_option maxRecDepth 100000 in
theorem qcX5_69 : g_MM RX5 69 Lib.MathLoose.max_long.x Lib.MathLoose.max_long.code 4 .long := ⟨w_568, w_501, w_42, w_502⟩
set_option maxRecDepth 100000 in
theorem qcX5_61 : g_cS RX5 61 mX5_reachFrom 2 := ⟨rfl, ⟨w_562, w_55, w_564, by decide +kernel⟩, w_563⟩
set_option maxRecDepth 100000 in
theorem qcX5_80 : g_cV RX5 80 mX4_previous 1 := ⟨rfl, ⟨w_794, w_41, w_797, by decide +kernel⟩, w_795, w_796⟩
set_option maxRecDepth 100000 in
theorem qcX5_83 : g_cS RX5 83 mX3_isBetween 5 := ⟨rfl, ⟨w_798, w_52, w_747, by decide +kernel⟩, w_746⟩
set_option maxRecDepth 100000 in
theorem qcX5_72 : g_cS RX5 72 mX5_foldsBack 2 := ⟨rfl, ⟨w_791, w_55, w_793, by decide +kernel⟩, w_792⟩
set_option maxRecDepth 100000 in
theorem qcX5_76 : g_cS RX5 76 mX3_meet 6 := ⟨rfl, ⟨w_799, w_52, w_740, by decide +kernel⟩, w_739⟩
set_option maxRecDepth 100000 in
theorem qcX5_94 : g_cS RX5 94 mX5_whereIs 4 := ⟨rfl, ⟨w_916, w_55, w_486, by decide +kernel⟩, w_485⟩
set_option maxRecDepth 100000 in
theorem qcX5_87 : g_cS RX5 87 mX3_passThrough 6 := ⟨rfl, ⟨w_912, w_52, w_743, by decide +kernel⟩, w_742⟩
set_option maxRecDepth 100000 in
theorem qcX5_90 : g_cS RX5 90 mX5_whereIsMiddle 3 := ⟨rfl, ⟨w_913, w_55, w_915, by decide +kernel⟩, w_914⟩
set_option maxRecDepth 100000 in
theorem qcX1_16 : g_cV RX1 16 mX4_xAt 1 := ⟨rfl, ⟨w_415, w_41, w_394, by decide +kernel⟩, w_392, w_393⟩
set_option maxRecDepth 100000 in
theorem qcX1_20 : g_cV RX1 20 mX4_yAt 1 := ⟨rfl, ⟨w_416, w_41, w_398, by decide +kernel⟩, w_396, w_397⟩
set_option maxRecDepth 100000 in
theorem qcX1_44 : g_cS RX1 44 mX3_twist 6 := ⟨rfl, ⟨w_427, w_52, w_429, by decide +kernel⟩, w_428⟩
set_option maxRecDepth 100000 in
theorem qcX1_12 : g_cV RX1 12 mX4_size 0 := ⟨rfl, ⟨w_414, w_41, w_317, by decide +kernel⟩, w_315, w_316⟩
set_option maxRecDepth 100000 in
theorem qcX1_32 : g_cV RX1 32 mX4_isAt 3 := ⟨rfl, ⟨w_420, w_41, w_423, by decide +kernel⟩, w_421, w_422⟩
set_option maxRecDepth 100000 in
theorem qcX1_36 : g_cS RX1 36 mX1_turnsLeft 4 := ⟨rfl, ⟨w_424, w_51, w_426, by decide +kernel⟩, w_425⟩
set_option maxRecDepth 100000 in
theorem qcX1_29 : g_cV RX1 29 mX4_shorten 0 := ⟨rfl, ⟨w_430, w_41, w_433, by decide +kernel⟩, w_431, w_432⟩
set_option maxRecDepth 100000 in
theorem qcX1_40 : g_cV RX1 40 mX4_append 3 := ⟨rfl, ⟨w_434, w_41, w_337, by decide +kernel⟩, w_335, w_336⟩
set_option maxRecDepth 100000 in
theorem qcX1_7 : g_cV RX1 7 mX4_reset 0 := ⟨rfl, ⟨w_413, w_41, w_386, by decide +kernel⟩, w_384, w_385⟩
set_option maxRecDepth 100000 in
theorem qcX1_23 : g_cS RX1 23 mX1_bendTo 4 := ⟨rfl, ⟨w_417, w_51, w_419, by decide +kernel⟩, w_418⟩
set_option maxRecDepth 100000 in
theorem qcX1_50 : g_cS RX1 50 mX1_wrap 2 := ⟨rfl, ⟨w_602, w_51, w_412, by decide +kernel⟩, w_411⟩
set_option maxRecDepth 100000 in
theorem qcX1_54 : g_cS RX1 54 mX5_whereIs 4 := ⟨rfl, ⟨w_603, w_55, w_486, by decide +kernel⟩, w_485⟩
set_option maxRecDepth 100000 in
theorem qcX1_60 : g_cV RX1 60 mX4_remove 1 := ⟨rfl, ⟨w_604, w_41, w_607, by decide +kernel⟩, w_605, w_606⟩
set_option maxRecDepth 100000 in
theorem qcX1_68 : g_cS RX1 68 mX5_runOf 2 := ⟨rfl, ⟨w_623, w_55, w_521, by decide +kernel⟩, w_520⟩
set_option maxRecDepth 100000 in
theorem qcX1_72 : g_cS RX1 72 mX5_riseOf 2 := ⟨rfl, ⟨w_624, w_55, w_524, by decide +kernel⟩, w_523⟩
set_option maxRecDepth 100000 in
theorem qcX1_75 : g_cS RX1 75 mX1_goesOut 2 := ⟨rfl, ⟨w_625, w_51, w_627, by decide +kernel⟩, w_626⟩
set_option maxRecDepth 100000 in
theorem qcX1_79 : g_cS RX1 79 mX3_signOf 1 := ⟨rfl, ⟨w_628, w_52, w_630, by decide +kernel⟩, w_629⟩
set_option maxRecDepth 100000 in
theorem qcX1_64 : g_cS RX1 64 mX1_compareEdges 4 := ⟨rfl, ⟨w_620, w_51, w_622, by decide +kernel⟩, w_621⟩
set_option maxRecDepth 100000 in
theorem qcX1_83 : g_cS RX1 83 mX1_hasCornerIn 2 := ⟨rfl, ⟨w_734, w_51, w_736, by decide +kernel⟩, w_735⟩
set_option maxRecDepth 100000 in
theorem qcX1_87 : g_cV RX1 87 mX4_next 1 := ⟨rfl, ⟨w_737, w_41, w_491, by decide +kernel⟩, w_489, w_490⟩
set_option maxRecDepth 100000 in
theorem qcX1_90 : g_cS RX1 90 mX3_meet 6 := ⟨rfl, ⟨w_738, w_52, w_740, by decide +kernel⟩, w_739⟩
set_option maxRecDepth 100000 in
theorem qcX6_11 : g_cI RX6 11 mX4_init 1 := ⟨rfl, ⟨w_78, w_41, w_80, by decide +kernel⟩, rfl, rfl, w_79⟩
set_option maxRecDepth 100000 in
theorem qcX6_30 : g_cV RX6 30 mX4_size 0 := ⟨rfl, ⟨w_358, w_41, w_317, by decide +kernel⟩, w_315, w_316⟩
set_option maxRecDepth 100000 in
theorem qcX6_34 : g_cV RX6 34 mX4_markAt 1 := ⟨rfl, ⟨w_359, w_41, w_362, by decide +kernel⟩, w_360, w_361⟩
set_option maxRecDepth 100000 in
theorem qcX6_38 : g_cV RX6 38 mX4_xAt 1 := ⟨rfl, ⟨w_391, w_41, w_394, by decide +kernel⟩, w_392, w_393⟩
set_option maxRecDepth 100000 in
theorem qcX6_41 : g_cV RX6 41 mX4_yAt 1 := ⟨rfl, ⟨w_395, w_41, w_398, by decide +kernel⟩, w_396, w_397⟩
set_option maxRecDepth 100000 in
theorem qcX6_44 : g_cV RX6 44 mX4_insertInOrder 3 := ⟨rfl, ⟨w_399, w_41, w_402, by decide +kernel⟩, w_400, w_401⟩
set_option maxRecDepth 100000 in
theorem qcX6_48 : g_cV RX6 48 mX6_squaredDistance 2 := ⟨rfl, ⟨w_660, w_40, w_663, by decide +kernel⟩, w_661, w_662⟩
set_option maxRecDepth 100000 in
theorem qcX6_52 : g_cS RX6 52 mX3_meet 6 := ⟨rfl, ⟨w_830, w_52, w_740, by decide +kernel⟩, w_739⟩
set_option maxRecDepth 100000 in
theorem qcX6_58 : g_cV RX6 58 mX4_copyFrom 1 := ⟨rfl, ⟨w_950, w_41, w_867, by decide +kernel⟩, w_865, w_866⟩
set_option maxRecDepth 100000 in
theorem qcX6_62 : g_cV RX6 62 mX6_polygonAt 1 := ⟨rfl, ⟨w_951, w_40, w_765, by decide +kernel⟩, w_763, w_764⟩
set_option maxRecDepth 100000 in
theorem qcX2_11 : g_cI RX2 11 mX4_init 1 := ⟨rfl, ⟨w_124, w_41, w_80, by decide +kernel⟩, rfl, rfl, w_79⟩
set_option maxRecDepth 100000 in
theorem qcX2_56 : g_cV RX2 56 mX4_previous 1 := ⟨rfl, ⟨w_881, w_41, w_797, by decide +kernel⟩, w_795, w_796⟩
set_option maxRecDepth 100000 in
theorem qcX2_59 : g_cV RX2 59 mX4_next 1 := ⟨rfl, ⟨w_882, w_41, w_491, by decide +kernel⟩, w_489, w_490⟩
set_option maxRecDepth 100000 in
theorem qcX2_86 : g_cS RX2 86 mX3_side 5 := ⟨rfl, ⟨w_883, w_52, w_715, by decide +kernel⟩, w_714⟩
set_option maxRecDepth 100000 in
theorem qcX2_48 : g_cV RX2 48 mX4_size 0 := ⟨rfl, ⟨w_872, w_41, w_317, by decide +kernel⟩, w_315, w_316⟩
set_option maxRecDepth 100000 in
theorem qcX2_82 : g_cV RX2 82 mX2_isEar 2 := ⟨rfl, ⟨w_877, w_43, w_880, by decide +kernel⟩, w_879, w_30⟩
set_option maxRecDepth 100000 in
theorem qcX2_69 : g_cV RX2 69 mX4_markAt 1 := ⟨rfl, ⟨w_888, w_41, w_362, by decide +kernel⟩, w_360, w_361⟩
set_option maxRecDepth 100000 in
theorem qcX2_72 : g_cS RX2 72 mX5_twistOf 4 := ⟨rfl, ⟨w_889, w_55, w_567, by decide +kernel⟩, w_566⟩
set_option maxRecDepth 100000 in
theorem qcX2_76 : g_MM RX2 76 Lib.MathLoose.abs_long.x Lib.MathLoose.abs_long.code 2 .long := ⟨w_890, w_529, w_42, w_530⟩
set_option maxRecDepth 100000 in
theorem qcX2_32 : g_cV RX2 32 mX4_copyFrom 1 := ⟨rfl, ⟨w_864, w_41, w_867, by decide +kernel⟩, w_865, w_866⟩
set_option maxRecDepth 100000 in
theorem qcX2_36 : g_cS RX2 36 mX5_doubledArea 1 := ⟨rfl, ⟨w_870, w_55, w_511, by decide +kernel⟩, w_510⟩
set_option maxRecDepth 100000 in
theorem qcX2_42 : g_cS RX2 42 mX3_signOf 1 := ⟨rfl, ⟨w_871, w_52, w_630, by decide +kernel⟩, w_629⟩
set_option maxRecDepth 100000 in
theorem qcX2_52 : g_cV RX2 52 mX2_firstEar 1 := ⟨rfl, ⟨w_873, w_43, w_876, by decide +kernel⟩, w_875, w_29⟩
set_option maxRecDepth 100000 in
theorem qcX2_62 : g_cV RX2 62 mX2_keepTriangle 3 := ⟨rfl, ⟨w_884, w_43, w_887, by decide +kernel⟩, w_886, w_31⟩
set_option maxRecDepth 100000 in
theorem qcX2_66 : g_cV RX2 66 mX4_remove 1 := ⟨rfl, ⟨w_891, w_41, w_607, by decide +kernel⟩, w_605, w_606⟩
set_option maxRecDepth 100000 in
theorem qcX0_11 : g_cI RX0 11 mX4_init 1 := ⟨rfl, ⟨w_145, w_41, w_80, by decide +kernel⟩, rfl, rfl, w_79⟩
set_option maxRecDepth 100000 in
theorem qcX0_37 : g_cV RX0 37 mX4_reset 0 := ⟨rfl, ⟨w_986, w_41, w_386, by decide +kernel⟩, w_384, w_385⟩
set_option maxRecDepth 100000 in
theorem qcX0_40 : g_cV RX0 40 mX4_size 0 := ⟨rfl, ⟨w_987, w_41, w_317, by decide +kernel⟩, w_315, w_316⟩
set_option maxRecDepth 100000 in
theorem qcX0_43 : g_cS RX0 43 mX5_riseOf 2 := ⟨rfl, ⟨w_988, w_55, w_524, by decide +kernel⟩, w_523⟩
set_option maxRecDepth 100000 in
theorem qcX0_46 : g_cV RX0 46 mX4_next 1 := ⟨rfl, ⟨w_989, w_41, w_491, by decide +kernel⟩, w_489, w_490⟩
set_option maxRecDepth 100000 in
theorem qcX0_50 : g_cV RX0 50 mX4_yAt 1 := ⟨rfl, ⟨w_990, w_41, w_398, by decide +kernel⟩, w_396, w_397⟩
set_option maxRecDepth 100000 in
theorem qcX0_53 : g_cV RX0 53 mX4_xAt 1 := ⟨rfl, ⟨w_991, w_41, w_394, by decide +kernel⟩, w_392, w_393⟩
set_option maxRecDepth 100000 in
theorem qcX0_56 : g_cS RX0 56 mJ9_floorDiv_7cf53 2 := ⟨rfl, ⟨w_992, w_42, w_994, by decide +kernel⟩, w_993⟩
set_option maxRecDepth 100000 in
theorem qcX0_62 : g_cV RX0 62 mX4_insertInOrder 3 := ⟨rfl, ⟨w_995, w_41, w_402, by decide +kernel⟩, w_400, w_401⟩
set_option maxRecDepth 100000 in
theorem qcX0_66 : g_cS RX0 66 mX0_firstInside 2 := ⟨rfl, ⟨w_1000, w_44, w_1002, by decide +kernel⟩, w_1001⟩
set_option maxRecDepth 100000 in
theorem qcX0_69 : g_MM RX0 69 Lib.Math.max.name Lib.Math.max.code 2 .int := ⟨w_1003, w_83, w_42, w_84⟩
set_option maxRecDepth 100000 in
theorem qcX0_72 : g_cS RX0 72 mX0_lastInside 2 := ⟨rfl, ⟨w_1004, w_44, w_1006, by decide +kernel⟩, w_1005⟩
set_option maxRecDepth 100000 in
theorem qcX0_75 : g_MM RX0 75 Lib.Math.min.name Lib.Math.min.code 2 .int := ⟨w_1007, w_597, w_42, w_598⟩
set_option maxRecDepth 100000 in
theorem qcX0_23 : g_cS RX0 23 mX5_bound 2 := ⟨rfl, ⟨w_982, w_55, w_575, by decide +kernel⟩, w_574⟩
set_option maxRecDepth 100000 in
theorem qcX0_29 : g_cS RX0 29 mX0_cut 4 := ⟨rfl, ⟨w_983, w_44, w_985, by decide +kernel⟩, w_984⟩
set_option maxRecDepth 100000 in
theorem qcX0_33 : g_cV RX0 33 mX0_countCommon 0 := ⟨rfl, ⟨w_996, w_44, w_999, by decide +kernel⟩, w_998, w_37⟩
set_option maxRecDepth 100000 in
theorem qcX7_11 : g_cI RX7 11 mX6_init 0 := ⟨rfl, ⟨w_72, w_40, w_74, by decide +kernel⟩, rfl, rfl, w_73⟩
set_option maxRecDepth 100000 in
theorem qcX7_25 : g_cI RX7 25 mX4_init 1 := ⟨rfl, ⟨w_116, w_41, w_80, by decide +kernel⟩, rfl, rfl, w_79⟩
set_option maxRecDepth 100000 in
theorem qcX7_58 : g_cS RX7 58 mX7_requireHeap 1 := ⟨rfl, ⟨w_238, w_39, w_240, by decide +kernel⟩, w_239⟩
set_option maxRecDepth 100000 in
theorem qcX7_61 : g_cS RX7 61 mX7_requireNear 2 := ⟨rfl, ⟨w_310, w_39, w_312, by decide +kernel⟩, w_311⟩
set_option maxRecDepth 100000 in
theorem qcX7_68 : g_cV RX7 68 mX4_size 0 := ⟨rfl, ⟨w_314, w_41, w_317, by decide +kernel⟩, w_315, w_316⟩
set_option maxRecDepth 100000 in
theorem qcX7_79 : g_cV RX7 79 mX4_append 3 := ⟨rfl, ⟨w_334, w_41, w_337, by decide +kernel⟩, w_335, w_336⟩
set_option maxRecDepth 100000 in
theorem qcX7_293 : g_cV RX7 293 mX6_hasPoint 1 := ⟨rfl, ⟨w_708, w_40, w_711, by decide +kernel⟩, w_709, w_710⟩
set_option maxRecDepth 100000 in
theorem qcX7_83 : g_cV RX7 83 mX7_requirePoint 1 := ⟨rfl, ⟨w_704, w_39, w_707, by decide +kernel⟩, w_706, w_20⟩
set_option maxRecDepth 100000 in
theorem qcX7_86 : g_cV RX7 86 mX4_markAt 1 := ⟨rfl, ⟨w_699, w_41, w_362, by decide +kernel⟩, w_360, w_361⟩
set_option maxRecDepth 100000 in
theorem qcX7_90 : g_cV RX7 90 mX4_mark 2 := ⟨rfl, ⟨w_956, w_41, w_959, by decide +kernel⟩, w_957, w_958⟩
set_option maxRecDepth 100000 in
theorem qcX7_93 : g_cV RX7 93 mX6_heapSize 1 := ⟨rfl, ⟨w_354, w_40, w_357, by decide +kernel⟩, w_355, w_356⟩
set_option maxRecDepth 100000 in
theorem qcX7_96 : g_cV RX7 96 mX4_xAt 1 := ⟨rfl, ⟨w_467, w_41, w_394, by decide +kernel⟩, w_392, w_393⟩
set_option maxRecDepth 100000 in
theorem qcX7_99 : g_cV RX7 99 mX4_yAt 1 := ⟨rfl, ⟨w_466, w_41, w_398, by decide +kernel⟩, w_396, w_397⟩
set_option maxRecDepth 100000 in
theorem qcX7_168 : g_cV RX7 168 mX4_reset 0 := ⟨rfl, ⟨w_383, w_41, w_386, by decide +kernel⟩, w_384, w_385⟩
set_option maxRecDepth 100000 in
theorem qcX7_137 : g_cV RX7 137 mX6_putInOrder 2 := ⟨rfl, ⟨w_387, w_40, w_390, by decide +kernel⟩, w_388, w_389⟩
set_option maxRecDepth 100000 in
theorem qcX7_107 : g_cV RX7 107 mX7_orderHeap 1 := ⟨rfl, ⟨w_379, w_39, w_382, by decide +kernel⟩, w_381, w_7⟩
set_option maxRecDepth 100000 in
theorem qcX7_115 : g_cV RX7 115 mX4_isAt 3 := ⟨rfl, ⟨w_693, w_41, w_423, by decide +kernel⟩, w_421, w_422⟩
set_option maxRecDepth 100000 in
theorem qcX7_119 : g_cS RX7 119 mX3_side 5 := ⟨rfl, ⟨w_713, w_52, w_715, by decide +kernel⟩, w_714⟩
set_option maxRecDepth 100000 in
theorem qcX7_125 : g_cV RX7 125 mX7_requireFilled 1 := ⟨rfl, ⟨w_350, w_39, w_353, by decide +kernel⟩, w_352, w_6⟩
set_option maxRecDepth 100000 in
theorem qcX7_128 : g_cS RX7 128 mX1_wrap 2 := ⟨rfl, ⟨w_410, w_51, w_412, by decide +kernel⟩, w_411⟩
set_option maxRecDepth 100000 in
theorem qcX7_134 : g_cV RX7 134 mX7_requireTwoFilled 2 := ⟨rfl, ⟨w_588, w_39, w_591, by decide +kernel⟩, w_590, w_13⟩
set_option maxRecDepth 100000 in
theorem qcX7_141 : g_cV RX7 141 mX7_wrapTwo 2 := ⟨rfl, ⟨w_613, w_39, w_616, by decide +kernel⟩, w_615, w_14⟩
set_option maxRecDepth 100000 in
theorem qcX7_144 : g_cS RX7 144 mX1_addUp 3 := ⟨rfl, ⟨w_617, w_51, w_619, by decide +kernel⟩, w_618⟩
set_option maxRecDepth 100000 in
theorem qcX7_148 : g_cS RX7 148 mX1_peel 2 := ⟨rfl, ⟨w_599, w_51, w_601, by decide +kernel⟩, w_600⟩
set_option maxRecDepth 100000 in
theorem qcX7_151 : g_MM RX7 151 Lib.Math.min.name Lib.Math.min.code 2 .int := ⟨w_596, w_597, w_42, w_598⟩
set_option maxRecDepth 100000 in
theorem qcX7_283 : g_cV RX7 283 mX6_polygonAt 1 := ⟨rfl, ⟨w_762, w_40, w_765, by decide +kernel⟩, w_763, w_764⟩
set_option maxRecDepth 100000 in
theorem qcX7_159 : g_cV RX7 159 mX7_requirePolygon 1 := ⟨rfl, ⟨w_757, w_39, w_760, by decide +kernel⟩, w_759, w_23⟩
set_option maxRecDepth 100000 in
theorem qcX7_171 : g_cV RX7 171 mX4_insertInOrder 3 := ⟨rfl, ⟨w_688, w_41, w_402, by decide +kernel⟩, w_400, w_401⟩
set_option maxRecDepth 100000 in
theorem qcX7_174 : g_cS RX7 174 mX7_requireCorner 2 := ⟨rfl, ⟨w_447, w_39, w_449, by decide +kernel⟩, w_448⟩
set_option maxRecDepth 100000 in
theorem qcX7_178 : g_cS RX7 178 mX5_doubledArea 1 := ⟨rfl, ⟨w_509, w_55, w_511, by decide +kernel⟩, w_510⟩
set_option maxRecDepth 100000 in
theorem qcX7_184 : g_cS RX7 184 mX5_stepsAlong 2 := ⟨rfl, ⟨w_516, w_55, w_518, by decide +kernel⟩, w_517⟩
set_option maxRecDepth 100000 in
theorem qcX7_188 : g_cS RX7 188 mX5_stepsRound 1 := ⟨rfl, ⟨w_531, w_55, w_533, by decide +kernel⟩, w_532⟩
set_option maxRecDepth 100000 in
theorem qcX7_191 : g_cS RX7 191 mX5_placesInside 1 := ⟨rfl, ⟨w_543, w_55, w_545, by decide +kernel⟩, w_544⟩
set_option maxRecDepth 100000 in
theorem qcX7_194 : g_cS RX7 194 mX5_whereIs 4 := ⟨rfl, ⟨w_484, w_55, w_486, by decide +kernel⟩, w_485⟩
set_option maxRecDepth 100000 in
theorem qcX7_200 : g_cS RX7 200 mX5_squaredWidth 2 := ⟨rfl, ⟨w_559, w_55, w_561, by decide +kernel⟩, w_560⟩
set_option maxRecDepth 100000 in
theorem qcX7_206 : g_cS RX7 206 mX5_closesSimply 1 := ⟨rfl, ⟨w_788, w_55, w_790, by decide +kernel⟩, w_789⟩
set_option maxRecDepth 100000 in
theorem qcX7_210 : g_cV RX7 210 mX7_requireSimple 1 := ⟨rfl, ⟨w_835, w_39, w_838, by decide +kernel⟩, w_837, w_27⟩
set_option maxRecDepth 100000 in
theorem qcX7_213 : g_cV RX7 213 mX2_part 1 := ⟨rfl, ⟨w_860, w_43, w_863, by decide +kernel⟩, w_861, w_862⟩
set_option maxRecDepth 100000 in
theorem qcX7_217 : g_cV RX7 217 mX2_made 0 := ⟨rfl, ⟨w_892, w_43, w_895, by decide +kernel⟩, w_893, w_894⟩
set_option maxRecDepth 100000 in
theorem qcX7_222 : g_cV RX7 222 mX2_tellTriangle 1 := ⟨rfl, ⟨w_901, w_43, w_904, by decide +kernel⟩, w_902, w_903⟩
set_option maxRecDepth 100000 in
theorem qcX7_225 : g_cS RX7 225 mX5_isOpenBetween 3 := ⟨rfl, ⟨w_909, w_55, w_911, by decide +kernel⟩, w_910⟩
set_option maxRecDepth 100000 in
theorem qcX7_229 : g_cV RX7 229 mX6_lineCount 0 := ⟨rfl, ⟨w_808, w_40, w_811, by decide +kernel⟩, w_809, w_810⟩
set_option maxRecDepth 100000 in
theorem qcX7_237 : g_cV RX7 237 mX7_requireLine 1 := ⟨rfl, ⟨w_821, w_39, w_824, by decide +kernel⟩, w_823, w_26⟩
set_option maxRecDepth 100000 in
theorem qcX7_240 : g_cV RX7 240 mX6_linesMeet 2 := ⟨rfl, ⟨w_826, w_40, w_829, by decide +kernel⟩, w_827, w_828⟩
set_option maxRecDepth 100000 in
theorem qcX7_246 : g_cV RX7 246 mX7_requireTwoPoints 1 := ⟨rfl, ⟨w_651, w_39, w_654, by decide +kernel⟩, w_653, w_18⟩
set_option maxRecDepth 100000 in
theorem qcX7_249 : g_cV RX7 249 mX6_extremePair 2 := ⟨rfl, ⟨w_656, w_40, w_659, by decide +kernel⟩, w_657, w_658⟩
set_option maxRecDepth 100000 in
theorem qcX7_253 : g_cV RX7 253 mX6_squaredDistance 2 := ⟨rfl, ⟨w_668, w_40, w_663, by decide +kernel⟩, w_661, w_662⟩
set_option maxRecDepth 100000 in
theorem qcX7_256 : g_cS RX7 256 mX5_bound 2 := ⟨rfl, ⟨w_573, w_55, w_575, by decide +kernel⟩, w_574⟩
set_option maxRecDepth 100000 in
theorem qcX7_263 : g_cV RX7 263 mX7_leastFenceFrom 2 := ⟨rfl, ⟨w_684, w_39, w_687, by decide +kernel⟩, w_686, w_19⟩
set_option maxRecDepth 100000 in
theorem qcX7_266 : g_cS RX7 266 mX1_touch 2 := ⟨rfl, ⟨w_731, w_51, w_733, by decide +kernel⟩, w_732⟩
set_option maxRecDepth 100000 in
theorem qcX7_270 : g_cV RX7 270 mX6_copyFrom 1 := ⟨rfl, ⟨w_946, w_40, w_949, by decide +kernel⟩, w_947, w_948⟩
set_option maxRecDepth 100000 in
theorem qcX7_276 : g_MM RX7 276 Lib.Math.abs.name Lib.Math.abs.code 1 .int := ⟨w_977, w_478, w_42, w_479⟩
set_option maxRecDepth 100000 in
theorem qcX7_310 : g_cV RX7 310 mX0_countInside 1 := ⟨rfl, ⟨w_978, w_44, w_981, by decide +kernel⟩, w_979, w_980⟩
set_option maxRecDepth 100000 in
theorem qcX7_313 : g_cV RX7 313 mX2_doubledAreas 0 := ⟨rfl, ⟨w_1008, w_43, w_1011, by decide +kernel⟩, w_1009, w_1010⟩
set_option maxRecDepth 100000 in
theorem qcX7_279 : g_cV RX7 279 mX7_hasStray 1 := ⟨rfl, ⟨w_969, w_39, w_972, by decide +kernel⟩, w_971, w_35⟩
set_option maxRecDepth 100000 in
theorem qcX7_286 : g_cV RX7 286 mX7_faultsOf 1 := ⟨rfl, ⟨w_973, w_39, w_976, by decide +kernel⟩, w_975, w_36⟩
set_option maxRecDepth 100000 in
theorem qcL_9 : g_cI RL 9 mX7_init 0 := ⟨rfl, ⟨w_66, w_39, w_68, by decide +kernel⟩, rfl, rfl, w_67⟩
set_option maxRecDepth 100000 in
theorem qcL_43 : g_MM RL 43 Lib.Math.abs.name Lib.Math.abs.code 1 .int := ⟨w_477, w_478, w_42, w_479⟩
set_option maxRecDepth 100000 in
theorem qcL_49 : g_cS RL 49 mJ6_signum_0f7a4 1 := ⟨rfl, ⟨w_471, w_54, w_473, by decide +kernel⟩, w_472⟩
set_option maxRecDepth 100000 in
theorem qcL_54 : g_cV RL 54 mL_next 1 := ⟨rfl, ⟨w_225, w_38, w_228, by decide +kernel⟩, w_227, w_1⟩
set_option maxRecDepth 100000 in
theorem qcL_60 : g_cV RL 60 mL_spread 0 := ⟨rfl, ⟨w_230, w_38, w_233, by decide +kernel⟩, w_232, w_2⟩
set_option maxRecDepth 100000 in
theorem qcL_64 : g_cV RL 64 mX7_point 3 := ⟨rfl, ⟨w_234, w_39, w_237, by decide +kernel⟩, w_235, w_236⟩
set_option maxRecDepth 100000 in
theorem qcL_104 : g_MM RL 104 Lib.MathLoose.max_long.x Lib.MathLoose.max_long.code 4 .long := ⟨w_553, w_501, w_42, w_502⟩
set_option maxRecDepth 100000 in
theorem qcL_108 : g_cV RL 108 mX7_width 1 := ⟨rfl, ⟨w_554, w_39, w_557, by decide +kernel⟩, w_555, w_556⟩
set_option maxRecDepth 100000 in
theorem qcL_112 : g_cV RL 112 mX7_fills 0 := ⟨rfl, ⟨w_569, w_39, w_572, by decide +kernel⟩, w_570, w_571⟩
set_option maxRecDepth 100000 in
theorem qcL_68 : g_cV RL 68 mX7_corners 0 := ⟨rfl, ⟨w_435, w_39, w_438, by decide +kernel⟩, w_436, w_437⟩
set_option maxRecDepth 100000 in
theorem qcL_73 : g_cV RL 73 mX7_corner 2 := ⟨rfl, ⟨w_443, w_39, w_446, by decide +kernel⟩, w_444, w_445⟩
set_option maxRecDepth 100000 in
theorem qcL_77 : g_cS RL 77 mL_turn 6 := ⟨rfl, ⟨w_468, w_38, w_470, by decide +kernel⟩, w_469⟩
set_option maxRecDepth 100000 in
theorem qcL_81 : g_cS RL 81 mL_common 2 := ⟨rfl, ⟨w_474, w_38, w_476, by decide +kernel⟩, w_475⟩
set_option maxRecDepth 100000 in
theorem qcL_85 : g_cV RL 85 mX7_lies 2 := ⟨rfl, ⟨w_480, w_39, w_483, by decide +kernel⟩, w_481, w_482⟩
set_option maxRecDepth 100000 in
theorem qcL_88 : g_cV RL 88 mX7_area 0 := ⟨rfl, ⟨w_505, w_39, w_508, by decide +kernel⟩, w_506, w_507⟩
set_option maxRecDepth 100000 in
theorem qcL_91 : g_cV RL 91 mX7_edge 0 := ⟨rfl, ⟨w_512, w_39, w_515, by decide +kernel⟩, w_513, w_514⟩
set_option maxRecDepth 100000 in
theorem qcL_94 : g_cV RL 94 mX7_checksum 0 := ⟨rfl, ⟨w_535, w_39, w_538, by decide +kernel⟩, w_536, w_537⟩
set_option maxRecDepth 100000 in
theorem qcL_97 : g_cV RL 97 mX7_inner 0 := ⟨rfl, ⟨w_539, w_39, w_542, by decide +kernel⟩, w_540, w_541⟩
set_option maxRecDepth 100000 in
theorem qcL_100 : g_cV RL 100 mL_isWide 1 := ⟨rfl, ⟨w_549, w_38, w_552, by decide +kernel⟩, w_551, w_10⟩
set_option maxRecDepth 100000 in
theorem qcL_116 : g_cV RL 116 mX7_hull 1 := ⟨rfl, ⟨w_346, w_39, w_349, by decide +kernel⟩, w_347, w_348⟩
set_option maxRecDepth 100000 in
theorem qcL_119 : g_cV RL 119 mL_isFigure 0 := ⟨rfl, ⟨w_439, w_38, w_442, by decide +kernel⟩, w_441, w_9⟩
set_option maxRecDepth 100000 in
theorem qcL_123 : g_cV RL 123 mL_holdsAll 1 := ⟨rfl, ⟨w_576, w_38, w_579, by decide +kernel⟩, w_578, w_11⟩
set_option maxRecDepth 100000 in
theorem qcL_126 : g_cV RL 126 mL_isOfPoints 2 := ⟨rfl, ⟨w_580, w_38, w_583, by decide +kernel⟩, w_582, w_12⟩
set_option maxRecDepth 100000 in
theorem qcL_130 : g_cV RL 130 mX7_join 2 := ⟨rfl, ⟨w_584, w_39, w_587, by decide +kernel⟩, w_585, w_586⟩
set_option maxRecDepth 100000 in
theorem qcL_133 : g_cV RL 133 mX7_layer 2 := ⟨rfl, ⟨w_592, w_39, w_595, by decide +kernel⟩, w_593, w_594⟩
set_option maxRecDepth 100000 in
theorem qcL_136 : g_cV RL 136 mX7_sum 2 := ⟨rfl, ⟨w_609, w_39, w_612, by decide +kernel⟩, w_610, w_611⟩
set_option maxRecDepth 100000 in
theorem qcL_139 : g_cV RL 139 mX7_layers 1 := ⟨rfl, ⟨w_635, w_39, w_638, by decide +kernel⟩, w_636, w_637⟩
set_option maxRecDepth 100000 in
theorem qcL_142 : g_cV RL 142 mL_many 1 := ⟨rfl, ⟨w_639, w_38, w_642, by decide +kernel⟩, w_641, w_16⟩
set_option maxRecDepth 100000 in
theorem qcL_145 : g_cV RL 145 mX7_pair 2 := ⟨rfl, ⟨w_647, w_39, w_650, by decide +kernel⟩, w_648, w_649⟩
set_option maxRecDepth 100000 in
theorem qcL_148 : g_cV RL 148 mX7_distance 2 := ⟨rfl, ⟨w_664, w_39, w_667, by decide +kernel⟩, w_665, w_666⟩
set_option maxRecDepth 100000 in
theorem qcL_151 : g_cV RL 151 mX7_box 2 := ⟨rfl, ⟨w_669, w_39, w_672, by decide +kernel⟩, w_670, w_671⟩
set_option maxRecDepth 100000 in
theorem qcL_154 : g_cV RL 154 mX7_count 1 := ⟨rfl, ⟨w_674, w_39, w_677, by decide +kernel⟩, w_675, w_676⟩
set_option maxRecDepth 100000 in
theorem qcL_157 : g_cV RL 157 mX7_fence 2 := ⟨rfl, ⟨w_678, w_39, w_681, by decide +kernel⟩, w_679, w_680⟩
set_option maxRecDepth 100000 in
theorem qcL_160 : g_cV RL 160 mX7_places 1 := ⟨rfl, ⟨w_689, w_39, w_692, by decide +kernel⟩, w_690, w_691⟩
set_option maxRecDepth 100000 in
theorem qcL_163 : g_cV RL 163 mX7_sorted 2 := ⟨rfl, ⟨w_694, w_39, w_697, by decide +kernel⟩, w_695, w_696⟩
set_option maxRecDepth 100000 in
theorem qcL_166 : g_cV RL 166 mX7_turn 3 := ⟨rfl, ⟨w_700, w_39, w_703, by decide +kernel⟩, w_701, w_702⟩
set_option maxRecDepth 100000 in
theorem qcL_168 : g_cV RL 168 mX7_pointOf 2 := ⟨rfl, ⟨w_719, w_39, w_722, by decide +kernel⟩, w_720, w_721⟩
set_option maxRecDepth 100000 in
theorem qcL_171 : g_cV RL 171 mX7_apart 2 := ⟨rfl, ⟨w_727, w_39, w_730, by decide +kernel⟩, w_728, w_729⟩
set_option maxRecDepth 100000 in
theorem qcL_177 : g_cV RL 177 mX7_clear 1 := ⟨rfl, ⟨w_753, w_39, w_756, by decide +kernel⟩, w_754, w_755⟩
set_option maxRecDepth 100000 in
theorem qcL_180 : g_cV RL 180 mX7_add 3 := ⟨rfl, ⟨w_766, w_39, w_769, by decide +kernel⟩, w_767, w_768⟩
set_option maxRecDepth 100000 in
theorem qcL_213 : g_cV RL 213 mX7_clearLines 0 := ⟨rfl, ⟨w_804, w_39, w_807, by decide +kernel⟩, w_805, w_806⟩
set_option maxRecDepth 100000 in
theorem qcL_216 : g_cV RL 216 mX7_line 4 := ⟨rfl, ⟨w_812, w_39, w_815, by decide +kernel⟩, w_813, w_814⟩
set_option maxRecDepth 100000 in
theorem qcL_220 : g_cV RL 220 mX7_cross 2 := ⟨rfl, ⟨w_817, w_39, w_820, by decide +kernel⟩, w_818, w_819⟩
set_option maxRecDepth 100000 in
theorem qcL_223 : g_cV RL 223 mX7_triangles 1 := ⟨rfl, ⟨w_856, w_39, w_859, by decide +kernel⟩, w_857, w_858⟩
set_option maxRecDepth 100000 in
theorem qcL_226 : g_cV RL 226 mX7_triangleAt 2 := ⟨rfl, ⟨w_896, w_39, w_899, by decide +kernel⟩, w_897, w_898⟩
set_option maxRecDepth 100000 in
theorem qcL_229 : g_cV RL 229 mX7_sees 3 := ⟨rfl, ⟨w_905, w_39, w_908, by decide +kernel⟩, w_906, w_907⟩
set_option maxRecDepth 100000 in
theorem qcL_201 : g_cV RL 201 mX7_polygonLies 3 := ⟨rfl, ⟨w_844, w_39, w_847, by decide +kernel⟩, w_845, w_846⟩
set_option maxRecDepth 100000 in
theorem qcL_233 : g_cV RL 233 mX7_view 2 := ⟨rfl, ⟨w_921, w_39, w_924, by decide +kernel⟩, w_922, w_923⟩
set_option maxRecDepth 100000 in
theorem qcL_183 : g_cV RL 183 mX7_polygonArea 1 := ⟨rfl, ⟨w_775, w_39, w_778, by decide +kernel⟩, w_776, w_777⟩
set_option maxRecDepth 100000 in
theorem qcL_186 : g_cV RL 186 mX7_hullOf 1 := ⟨rfl, ⟨w_779, w_39, w_782, by decide +kernel⟩, w_780, w_781⟩
set_option maxRecDepth 100000 in
theorem qcL_189 : g_cV RL 189 mX7_isSimple 1 := ⟨rfl, ⟨w_784, w_39, w_787, by decide +kernel⟩, w_785, w_786⟩
set_option maxRecDepth 100000 in
theorem qcL_192 : g_cV RL 192 mL_isTouched 0 := ⟨rfl, ⟨w_800, w_38, w_803, by decide +kernel⟩, w_802, w_25⟩
set_option maxRecDepth 100000 in
theorem qcL_195 : g_cV RL 195 mX7_polygonInner 1 := ⟨rfl, ⟨w_831, w_39, w_834, by decide +kernel⟩, w_832, w_833⟩
set_option maxRecDepth 100000 in
theorem qcL_198 : g_cV RL 198 mX7_polygonEdge 1 := ⟨rfl, ⟨w_840, w_39, w_843, by decide +kernel⟩, w_841, w_842⟩
set_option maxRecDepth 100000 in
theorem qcL_204 : g_cV RL 204 mX7_holds 2 := ⟨rfl, ⟨w_848, w_39, w_851, by decide +kernel⟩, w_849, w_850⟩
set_option maxRecDepth 100000 in
theorem qcL_207 : g_cV RL 207 mL_isParted 2 := ⟨rfl, ⟨w_852, w_38, w_855, by decide +kernel⟩, w_854, w_28⟩
set_option maxRecDepth 100000 in
theorem qcL_210 : g_cV RL 210 mL_isSeen 1 := ⟨rfl, ⟨w_917, w_38, w_920, by decide +kernel⟩, w_919, w_32⟩
set_option maxRecDepth 100000 in
theorem qcL_236 : g_cV RL 236 mX7_crossingAt 1 := ⟨rfl, ⟨w_929, w_39, w_932, by decide +kernel⟩, w_930, w_931⟩
set_option maxRecDepth 100000 in
theorem qcL_239 : g_cV RL 239 mX7_crossings 0 := ⟨rfl, ⟨w_934, w_39, w_937, by decide +kernel⟩, w_935, w_936⟩
set_option maxRecDepth 100000 in
theorem qcL_242 : g_cV RL 242 mX7_image 0 := ⟨rfl, ⟨w_942, w_39, w_945, by decide +kernel⟩, w_943, w_944⟩
set_option maxRecDepth 100000 in
theorem qcL_245 : g_cV RL 245 mX7_drop 1 := ⟨rfl, ⟨w_952, w_39, w_955, by decide +kernel⟩, w_953, w_954⟩
set_option maxRecDepth 100000 in
theorem qcL_248 : g_cV RL 248 mX7_restore 0 := ⟨rfl, ⟨w_960, w_39, w_963, by decide +kernel⟩, w_961, w_962⟩
set_option maxRecDepth 100000 in
theorem qcL_251 : g_cV RL 251 mX7_errors 0 := ⟨rfl, ⟨w_965, w_39, w_968, by decide +kernel⟩, w_966, w_967⟩
set_option maxRecDepth 100000 in
theorem qcL_255 : g_cI RL 255 mL_init 0 := ⟨rfl, ⟨w_58, w_38, w_60, by decide +kernel⟩, rfl, rfl, w_59⟩
set_option maxRecDepth 100000 in
theorem qcL_256 : g_cS RL 256 mL_stirred 1 := ⟨rfl, ⟨w_1012, w_38, w_1014, by decide +kernel⟩, w_1013⟩
set_option maxRecDepth 100000 in
theorem qcL_260 : g_cV RL 260 mL_come 0 := ⟨rfl, ⟨w_221, w_38, w_224, by decide +kernel⟩, w_223, w_0⟩
set_option maxRecDepth 100000 in
theorem qcL_263 : g_cV RL 263 mL_areHulls 0 := ⟨rfl, ⟨w_342, w_38, w_345, by decide +kernel⟩, w_344, w_5⟩
set_option maxRecDepth 100000 in
theorem qcL_266 : g_cV RL 266 mL_areLayers 0 := ⟨rfl, ⟨w_631, w_38, w_634, by decide +kernel⟩, w_633, w_15⟩
set_option maxRecDepth 100000 in
theorem qcL_269 : g_cV RL 269 mL_arePairs 0 := ⟨rfl, ⟨w_643, w_38, w_646, by decide +kernel⟩, w_645, w_17⟩
set_option maxRecDepth 100000 in
theorem qcL_272 : g_cV RL 272 mL_areApart 0 := ⟨rfl, ⟨w_723, w_38, w_726, by decide +kernel⟩, w_725, w_21⟩
set_option maxRecDepth 100000 in
theorem qcL_275 : g_cV RL 275 mL_isDrawn 1 := ⟨rfl, ⟨w_749, w_38, w_752, by decide +kernel⟩, w_751, w_22⟩
set_option maxRecDepth 100000 in
theorem qcL_278 : g_cV RL 278 mL_isPolygon 1 := ⟨rfl, ⟨w_771, w_38, w_774, by decide +kernel⟩, w_773, w_24⟩
set_option maxRecDepth 100000 in
theorem qcL_281 : g_cV RL 281 mL_areLines 0 := ⟨rfl, ⟨w_925, w_38, w_928, by decide +kernel⟩, w_927, w_33⟩
set_option maxRecDepth 100000 in
theorem qcL_284 : g_cV RL 284 mL_isRestored 0 := ⟨rfl, ⟨w_938, w_38, w_941, by decide +kernel⟩, w_940, w_34⟩
set_option maxRecDepth 100000 in
theorem ob_X4_1 : Cond.methodLink RX4 1 objectInit ∈ GW := w_81
set_option maxRecDepth 100000 in
theorem ob_X6_3 : Cond.methodLink RX6 3 objectInit ∈ GW := w_75
set_option maxRecDepth 100000 in
theorem ob_X2_3 : Cond.methodLink RX2 3 objectInit ∈ GW := w_122
set_option maxRecDepth 100000 in
theorem ob_X0_3 : Cond.methodLink RX0 3 objectInit ∈ GW := w_143
set_option maxRecDepth 100000 in
theorem ob_X7_3 : Cond.methodLink RX7 3 objectInit ∈ GW := w_69
set_option maxRecDepth 100000 in
theorem ob_L_1 : Cond.methodLink RL 1 objectInit ∈ GW := w_61
set_option maxRecDepth 100000 in
theorem ob_2 : Cond.instanceMethod objectInit ∈ GW := w_62
set_option maxRecDepth 100000 in
theorem ob_3 : Cond.code objectInit ⟨#[0xb1]⟩ 1 none ∈ GW := w_63
set_option maxRecDepth 100000 in
theorem t_102_106 : g_TS 102 106 "java/lang/IllegalArgumentException" := ⟨by decide +kernel, w_241, w_48, by decide +kernel, by decide +kernel, by decide +kernel⟩
set_option maxRecDepth 100000 in
theorem t_72_76 : g_TS 72 76 "java/lang/IllegalStateException" := ⟨by decide +kernel, w_318, w_49, by decide +kernel, by decide +kernel, by decide +kernel⟩
set_option maxRecDepth 100000 in
theorem t_110_114 : g_TS 110 114 "java/lang/IndexOutOfBoundsException" := ⟨by decide +kernel, w_450, w_53, by decide +kernel, by decide +kernel, by decide +kernel⟩
set_option maxRecDepth 100000 in
theorem t_163_167 : g_TN 163 167 "java/util/NoSuchElementException" := ⟨by decide +kernel, w_363, w_50, by decide +kernel, by decide +kernel, by decide +kernel⟩
theorem s_74 : (74, "60 points have come") ∈ g_strs := by decide +kernel
theorem s_104 : (104, "what is out of range") ∈ g_strs := by decide +kernel
theorem s_112 : (112, "there is no such place") ∈ g_strs := by decide +kernel
theorem s_157 : (157, "there is no such layer") ∈ g_strs := by decide +kernel
theorem s_165 : (165, "the polygon has no corners") ∈ g_strs := by decide +kernel
theorem s_198 : (198, "the figure has fewer than 3 corners") ∈ g_strs := by decide +kernel
theorem s_204 : (204, "the polygon has 16 corners") ∈ g_strs := by decide +kernel
theorem s_220 : (220, "there is no such triangle") ∈ g_strs := by decide +kernel
theorem s_232 : (232, "there are 20 lines") ∈ g_strs := by decide +kernel
theorem s_244 : (244, "there is no such pair") ∈ g_strs := by decide +kernel
theorem s_259 : (259, "points is below 1") ∈ g_strs := by decide +kernel
theorem s_261 : (261, "the heap has not so many points") ∈ g_strs := by decide +kernel
theorem s_274 : (274, "no image was taken") ∈ g_strs := by decide +kernel
theorem s_289 : (289, "heap is out of range") ∈ g_strs := by decide +kernel
theorem s_291 : (291, "x or y is out of range") ∈ g_strs := by decide +kernel
theorem s_296 : (296, "there is no such point") ∈ g_strs := by decide +kernel
theorem s_298 : (298, "there is no such line") ∈ g_strs := by decide +kernel
theorem s_300 : (300, "there is no such corner") ∈ g_strs := by decide +kernel
theorem s_302 : (302, "the heap is empty") ∈ g_strs := by decide +kernel
theorem s_304 : (304, "the heap has fewer than 2 points") ∈ g_strs := by decide +kernel
theorem s_306 : (306, "polygon is out of range") ∈ g_strs := by decide +kernel
theorem s_308 : (308, "the polygon is not simple") ∈ g_strs := by decide +kernel
