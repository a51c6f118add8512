theorem sl_X1_heldOrNull : Cond.selects yX1_heldOrNull.cls yX1_heldOrNull yX1_heldOrNull ∈ lw_tbl := List.mem_append_left _ (List.mem_of_getElem? (i := 0) (by decide +kernel))
theorem sl_X1_allotmentOrNull : Cond.selects yX1_allotmentOrNull.cls yX1_allotmentOrNull yX1_allotmentOrNull ∈ lw_tbl := List.mem_append_left _ (List.mem_of_getElem? (i := 1) (by decide +kernel))
theorem sl_X0_area : Cond.selects yX0_area.cls yX0_area yX0_area ∈ lw_tbl := List.mem_append_left _ (List.mem_of_getElem? (i := 2) (by decide +kernel))
theorem sl_X1_counted : Cond.selects yX1_counted.cls yX1_counted yX1_counted ∈ lw_tbl := List.mem_append_left _ (List.mem_of_getElem? (i := 3) (by decide +kernel))
theorem sl_X1_heldInAll : Cond.selects yX1_heldInAll.cls yX1_heldInAll yX1_heldInAll ∈ lw_tbl := List.mem_append_left _ (List.mem_of_getElem? (i := 4) (by decide +kernel))
theorem sl_X0_at : Cond.selects yX0_at.cls yX0_at yX0_at ∈ lw_tbl := List.mem_append_left _ (List.mem_of_getElem? (i := 5) (by decide +kernel))
theorem sl_X0_meets : Cond.selects yX0_meets.cls yX0_meets yX0_meets ∈ lw_tbl := List.mem_append_left _ (List.mem_of_getElem? (i := 6) (by decide +kernel))
theorem sl_X1_answerOf : Cond.selects yX1_answerOf.cls yX1_answerOf yX1_answerOf ∈ lw_tbl := List.mem_append_left _ (List.mem_of_getElem? (i := 7) (by decide +kernel))
theorem sl_X0_placeOf : Cond.selects yX0_placeOf.cls yX0_placeOf yX0_placeOf ∈ lw_tbl := List.mem_append_left _ (List.mem_of_getElem? (i := 8) (by decide +kernel))
theorem sl_X1_othersThatMeet : Cond.selects yX1_othersThatMeet.cls yX1_othersThatMeet yX1_othersThatMeet ∈ lw_tbl := List.mem_append_left _ (List.mem_of_getElem? (i := 9) (by decide +kernel))
theorem sl_X1_heldThatMeet : Cond.selects yX1_heldThatMeet.cls yX1_heldThatMeet yX1_heldThatMeet ∈ lw_tbl := List.mem_append_left _ (List.mem_of_getElem? (i := 10) (by decide +kernel))
theorem sl_X1_frameFor : Cond.selects yX1_frameFor.cls yX1_frameFor yX1_frameFor ∈ lw_tbl := List.mem_append_left _ (List.mem_of_getElem? (i := 12) (by decide +kernel))
theorem sl_X0_growthFor : Cond.selects yX0_growthFor.cls yX0_growthFor yX0_growthFor ∈ lw_tbl := List.mem_append_left _ (List.mem_of_getElem? (i := 13) (by decide +kernel))
theorem sl_X0_append : Cond.selects yX0_append.cls yX0_append yX0_append ∈ lw_tbl := List.mem_append_left _ (List.mem_of_getElem? (i := 14) (by decide +kernel))
theorem sl_X0_insert : Cond.selects yX0_insert.cls yX0_insert yX0_insert ∈ lw_tbl := List.mem_append_left _ (List.mem_of_getElem? (i := 15) (by decide +kernel))
theorem sl_X1_splitCrowdedAndTighten : Cond.selects yX1_splitCrowdedAndTighten.cls yX1_splitCrowdedAndTighten yX1_splitCrowdedAndTighten ∈ lw_tbl := List.mem_append_left _ (List.mem_of_getElem? (i := 16) (by decide +kernel))
theorem sl_X1_split : Cond.selects yX1_split.cls yX1_split yX1_split ∈ lw_tbl := List.mem_append_left _ (List.mem_of_getElem? (i := 17) (by decide +kernel))
theorem sl_X1_raiseTop : Cond.selects yX1_raiseTop.cls yX1_raiseTop yX1_raiseTop ∈ lw_tbl := List.mem_append_left _ (List.mem_of_getElem? (i := 18) (by decide +kernel))
theorem sl_X0_splitsAlongX : Cond.selects yX0_splitsAlongX.cls yX0_splitsAlongX yX0_splitsAlongX ∈ lw_tbl := List.mem_append_left _ (List.mem_of_getElem? (i := 19) (by decide +kernel))
theorem sl_X0_spreadOfLowerEdges : Cond.selects yX0_spreadOfLowerEdges.cls yX0_spreadOfLowerEdges yX0_spreadOfLowerEdges ∈ lw_tbl := List.mem_append_left _ (List.mem_of_getElem? (i := 20) (by decide +kernel))
theorem sl_X0_lowerEdgeAt : Cond.selects yX0_lowerEdgeAt.cls yX0_lowerEdgeAt yX0_lowerEdgeAt ∈ lw_tbl := List.mem_append_left _ (List.mem_of_getElem? (i := 21) (by decide +kernel))
theorem sl_X0_lowerEdge : Cond.selects yX0_lowerEdge.cls yX0_lowerEdge yX0_lowerEdge ∈ lw_tbl := List.mem_append_left _ (List.mem_of_getElem? (i := 22) (by decide +kernel))
theorem sl_X0_sortByLowerEdges : Cond.selects yX0_sortByLowerEdges.cls yX0_sortByLowerEdges yX0_sortByLowerEdges ∈ lw_tbl := List.mem_append_left _ (List.mem_of_getElem? (i := 23) (by decide +kernel))
theorem sl_X0_takeOut : Cond.selects yX0_takeOut.cls yX0_takeOut yX0_takeOut ∈ lw_tbl := List.mem_append_left _ (List.mem_of_getElem? (i := 24) (by decide +kernel))
theorem sl_X0_tighten : Cond.selects yX0_tighten.cls yX0_tighten yX0_tighten ∈ lw_tbl := List.mem_append_left _ (List.mem_of_getElem? (i := 25) (by decide +kernel))
theorem sl_X0_widenTo : Cond.selects yX0_widenTo.cls yX0_widenTo yX0_widenTo ∈ lw_tbl := List.mem_append_left _ (List.mem_of_getElem? (i := 26) (by decide +kernel))
theorem sl_X1_lowerTop : Cond.selects yX1_lowerTop.cls yX1_lowerTop yX1_lowerTop ∈ lw_tbl := List.mem_append_left _ (List.mem_of_getElem? (i := 27) (by decide +kernel))
theorem sl_X0_squaredDistance : Cond.selects yX0_squaredDistance.cls yX0_squaredDistance yX0_squaredDistance ∈ lw_tbl := List.mem_append_left _ (List.mem_of_getElem? (i := 28) (by decide +kernel))
theorem sl_X2_no : Cond.selects yX2_no.cls yX2_no yX2_no ∈ lw_tbl := List.mem_append_left _ (List.mem_of_getElem? (i := 29) (by decide +kernel))
theorem sl_X2_take : Cond.selects yX2_take.cls yX2_take yX2_take ∈ lw_tbl := List.mem_append_left _ (List.mem_of_getElem? (i := 30) (by decide +kernel))
theorem sl_X2_goDown : Cond.selects yX2_goDown.cls yX2_goDown yX2_goDown ∈ lw_tbl := List.mem_append_left _ (List.mem_of_getElem? (i := 31) (by decide +kernel))
theorem sl_X2_held : Cond.selects yX2_held.cls yX2_held yX2_held ∈ lw_tbl := List.mem_append_left _ (List.mem_of_getElem? (i := 32) (by decide +kernel))
theorem sl_X2_growth : Cond.selects yX2_growth.cls yX2_growth yX2_growth ∈ lw_tbl := List.mem_append_left _ (List.mem_of_getElem? (i := 33) (by decide +kernel))
theorem sl_X2_rectArea : Cond.selects yX2_rectArea.cls yX2_rectArea yX2_rectArea ∈ lw_tbl := List.mem_append_left _ (List.mem_of_getElem? (i := 34) (by decide +kernel))
theorem sl_X2_edge : Cond.selects yX2_edge.cls yX2_edge yX2_edge ∈ lw_tbl := List.mem_append_left _ (List.mem_of_getElem? (i := 35) (by decide +kernel))
theorem sl_X2_edgeOf : Cond.selects yX2_edgeOf.cls yX2_edgeOf yX2_edgeOf ∈ lw_tbl := List.mem_append_left _ (List.mem_of_getElem? (i := 36) (by decide +kernel))
theorem sl_X2_area_ : Cond.selects yX2_area_.cls yX2_area_ yX2_area_ ∈ lw_tbl := List.mem_append_left _ (List.mem_of_getElem? (i := 37) (by decide +kernel))
theorem sl_X2_put : Cond.selects yX2_put.cls yX2_put yX2_put ∈ lw_tbl := List.mem_append_left _ (List.mem_of_getElem? (i := 38) (by decide +kernel))
theorem sl_X2_splitOff : Cond.selects yX2_splitOff.cls yX2_splitOff yX2_splitOff ∈ lw_tbl := List.mem_append_left _ (List.mem_of_getElem? (i := 39) (by decide +kernel))
theorem sl_X2_spread : Cond.selects yX2_spread.cls yX2_spread yX2_spread ∈ lw_tbl := List.mem_append_left _ (List.mem_of_getElem? (i := 40) (by decide +kernel))
theorem sl_X2_sort : Cond.selects yX2_sort.cls yX2_sort yX2_sort ∈ lw_tbl := List.mem_append_left _ (List.mem_of_getElem? (i := 41) (by decide +kernel))
theorem sl_X2_growTop : Cond.selects yX2_growTop.cls yX2_growTop yX2_growTop ∈ lw_tbl := List.mem_append_left _ (List.mem_of_getElem? (i := 42) (by decide +kernel))
theorem sl_X2_isAllotment : Cond.selects yX2_isAllotment.cls yX2_isAllotment yX2_isAllotment ∈ lw_tbl := List.mem_append_left _ (List.mem_of_getElem? (i := 43) (by decide +kernel))
theorem sl_X2_find : Cond.selects yX2_find.cls yX2_find yX2_find ∈ lw_tbl := List.mem_append_left _ (List.mem_of_getElem? (i := 44) (by decide +kernel))
theorem sl_X2_remove : Cond.selects yX2_remove.cls yX2_remove yX2_remove ∈ lw_tbl := List.mem_append_left _ (List.mem_of_getElem? (i := 45) (by decide +kernel))
theorem sl_X2_areaOf : Cond.selects yX2_areaOf.cls yX2_areaOf yX2_areaOf ∈ lw_tbl := List.mem_append_left _ (List.mem_of_getElem? (i := 46) (by decide +kernel))
theorem sl_X2_allotmentTold : Cond.selects yX2_allotmentTold.cls yX2_allotmentTold yX2_allotmentTold ∈ lw_tbl := List.mem_append_left _ (List.mem_of_getElem? (i := 47) (by decide +kernel))
theorem sl_X2_all : Cond.selects yX2_all.cls yX2_all yX2_all ∈ lw_tbl := List.mem_append_left _ (List.mem_of_getElem? (i := 48) (by decide +kernel))
theorem sl_X2_meetsAllotment : Cond.selects yX2_meetsAllotment.cls yX2_meetsAllotment yX2_meetsAllotment ∈ lw_tbl := List.mem_append_left _ (List.mem_of_getElem? (i := 49) (by decide +kernel))
theorem sl_X2_meets : Cond.selects yX2_meets.cls yX2_meets yX2_meets ∈ lw_tbl := List.mem_append_left _ (List.mem_of_getElem? (i := 50) (by decide +kernel))
theorem sl_X2_looksFrom : Cond.selects yX2_looksFrom.cls yX2_looksFrom yX2_looksFrom ∈ lw_tbl := List.mem_append_left _ (List.mem_of_getElem? (i := 51) (by decide +kernel))
theorem sl_X2_meetsHedge : Cond.selects yX2_meetsHedge.cls yX2_meetsHedge yX2_meetsHedge ∈ lw_tbl := List.mem_append_left _ (List.mem_of_getElem? (i := 52) (by decide +kernel))
theorem sl_X2_farFrom : Cond.selects yX2_farFrom.cls yX2_farFrom yX2_farFrom ∈ lw_tbl := List.mem_append_left _ (List.mem_of_getElem? (i := 53) (by decide +kernel))
theorem sl_X2_counted : Cond.selects yX2_counted.cls yX2_counted yX2_counted ∈ lw_tbl := List.mem_append_left _ (List.mem_of_getElem? (i := 54) (by decide +kernel))
theorem sl_X2_heldNow : Cond.selects yX2_heldNow.cls yX2_heldNow yX2_heldNow ∈ lw_tbl := List.mem_append_left _ (List.mem_of_getElem? (i := 55) (by decide +kernel))
theorem sl_X2_sum : Cond.selects yX2_sum.cls yX2_sum yX2_sum ∈ lw_tbl := List.mem_append_left _ (List.mem_of_getElem? (i := 56) (by decide +kernel))
theorem sl_X2_digestFrom : Cond.selects yX2_digestFrom.cls yX2_digestFrom yX2_digestFrom ∈ lw_tbl := List.mem_append_left _ (List.mem_of_getElem? (i := 57) (by decide +kernel))
theorem ini_NestedFramesLaw : Cond.initialized RL ∈ lw_tbl := List.mem_append_right _ (List.mem_of_getElem? (i := 0) (by decide +kernel))
theorem ini_NestedFrames : Cond.initialized RX1 ∈ lw_tbl := List.mem_append_right _ (List.mem_of_getElem? (i := 1) (by decide +kernel))
theorem ini_NestedFrames_Piece : Cond.initialized RX0 ∈ lw_tbl := List.mem_append_right _ (List.mem_of_getElem? (i := 2) (by decide +kernel))
theorem ini_NestedFramesModel : Cond.initialized RX2 ∈ lw_tbl := List.mem_append_right _ (List.mem_of_getElem? (i := 3) (by decide +kernel))
theorem ini_java_lang_Throwable : Cond.initialized "java/lang/Throwable" ∈ lw_tbl := List.mem_append_right _ (List.mem_of_getElem? (i := 4) (by decide +kernel))
theorem ini_java_lang_Exception : Cond.initialized "java/lang/Exception" ∈ lw_tbl := List.mem_append_right _ (List.mem_of_getElem? (i := 5) (by decide +kernel))
theorem ini_java_lang_RuntimeException : Cond.initialized "java/lang/RuntimeException" ∈ lw_tbl := List.mem_append_right _ (List.mem_of_getElem? (i := 6) (by decide +kernel))
theorem ini_java_lang_IllegalArgumentException : Cond.initialized "java/lang/IllegalArgumentException" ∈ lw_tbl := List.mem_append_right _ (List.mem_of_getElem? (i := 7) (by decide +kernel))
theorem ini_java_lang_IllegalStateException : Cond.initialized "java/lang/IllegalStateException" ∈ lw_tbl := List.mem_append_right _ (List.mem_of_getElem? (i := 8) (by decide +kernel))
theorem ini_java_lang_Math : Cond.initialized "java/lang/Math" ∈ lw_tbl := List.mem_append_right _ (List.mem_of_getElem? (i := 9) (by decide +kernel))
theorem ini_java_lang_System : Cond.initialized "java/lang/System" ∈ lw_tbl := List.mem_append_right _ (List.mem_of_getElem? (i := 10) (by decide +kernel))
theorem ini_java_lang_IndexOutOfBoundsException : Cond.initialized "java/lang/IndexOutOfBoundsException" ∈ lw_tbl := List.mem_append_right _ (List.mem_of_getElem? (i := 11) (by decide +kernel))
theorem cl_L_8 : Cond.classLink RL 8 RX1 ∈ lw_tbl := List.mem_append_right _ (List.mem_of_getElem? (i := 12) (by decide +kernel))
theorem ins_NestedFrames : Cond.instantiable RX1 4 ∈ lw_tbl := List.mem_append_right _ (List.mem_of_getElem? (i := 13) (by decide +kernel))
theorem lk_L_48 : Cond.methodLink RL 48 yX1_init ∈ lw_tbl := List.mem_append_right _ (List.mem_of_getElem? (i := 14) (by decide +kernel))
theorem im_X1_init : Cond.instanceMethod yX1_init ∈ lw_tbl := List.mem_append_right _ (List.mem_of_getElem? (i := 15) (by decide +kernel))
theorem cd_X1_init : Cond.code yX1_init cX1_init 1 none ∈ lw_tbl := List.mem_append_right _ (List.mem_of_getElem? (i := 16) (by decide +kernel))
theorem lk_X1_1 : Cond.methodLink RX1 1 Lib.objectInit ∈ lw_tbl := List.mem_append_right _ (List.mem_of_getElem? (i := 17) (by decide +kernel))
theorem im_Lib_objectInit : Cond.instanceMethod Lib.objectInit ∈ lw_tbl := List.mem_append_right _ (List.mem_of_getElem? (i := 18) (by decide +kernel))
theorem cd_Lib_objectInit : Cond.code Lib.objectInit ⟨#[0xb1]⟩ 1 none ∈ lw_tbl := List.mem_append_right _ (List.mem_of_getElem? (i := 19) (by decide +kernel))
theorem cl_X1_9 : Cond.classLink RX1 9 RX0 ∈ lw_tbl := List.mem_append_right _ (List.mem_of_getElem? (i := 20) (by decide +kernel))
theorem ao_P : Cond.arrayOver (.object RX0) ∈ lw_tbl := List.mem_append_right _ (List.mem_of_getElem? (i := 21) (by decide +kernel))
theorem ins_NestedFrames_Piece : Cond.instantiable RX0 9 ∈ lw_tbl := List.mem_append_right _ (List.mem_of_getElem? (i := 22) (by decide +kernel))
theorem ln_X1_15 : Cond.methodLinkNest RX1 15 yX0_init_ RX1 ∈ lw_tbl := List.mem_append_right _ (List.mem_of_getElem? (i := 23) (by decide +kernel))
theorem im_X0_init_ : Cond.instanceMethod yX0_init_ ∈ lw_tbl := List.mem_append_right _ (List.mem_of_getElem? (i := 24) (by decide +kernel))
theorem cd_X0_init_ : Cond.code yX0_init_ cX0_init_ 2 none ∈ lw_tbl := List.mem_append_right _ (List.mem_of_getElem? (i := 25) (by decide +kernel))
theorem lk_X0_3 : Cond.methodLink RX0 3 Lib.objectInit ∈ lw_tbl := List.mem_append_right _ (List.mem_of_getElem? (i := 26) (by decide +kernel))
theorem cl_X0_10 : Cond.classLink RX0 10 RX0 ∈ lw_tbl := List.mem_append_right _ (List.mem_of_getElem? (i := 27) (by decide +kernel))
theorem fl_X0_9 : Cond.fieldLink RX0 9 RX0 "number" "I" ∈ lw_tbl := List.mem_append_right _ (List.mem_of_getElem? (i := 28) (by decide +kernel))
theorem fn_X1_56 : Cond.fieldLinkNest RX1 56 RX0 "number" "I" RX1 ∈ lw_tbl := List.mem_append_right _ (List.mem_of_getElem? (i := 29) (by decide +kernel))
theorem fl_X0_15 : Cond.fieldLink RX0 15 RX0 "level" "I" ∈ lw_tbl := List.mem_append_right _ (List.mem_of_getElem? (i := 30) (by decide +kernel))
theorem fn_X1_102 : Cond.fieldLinkNest RX1 102 RX0 "level" "I" RX1 ∈ lw_tbl := List.mem_append_right _ (List.mem_of_getElem? (i := 31) (by decide +kernel))
theorem fl_X0_18 : Cond.fieldLink RX0 18 RX0 "held" "[LNestedFrames$Piece;" ∈ lw_tbl := List.mem_append_right _ (List.mem_of_getElem? (i := 32) (by decide +kernel))
theorem fl_X0_47 : Cond.fieldLink RX0 47 RX0 "size" "I" ∈ lw_tbl := List.mem_append_right _ (List.mem_of_getElem? (i := 33) (by decide +kernel))
theorem fn_X1_133 : Cond.fieldLinkNest RX1 133 RX0 "size" "I" RX1 ∈ lw_tbl := List.mem_append_right _ (List.mem_of_getElem? (i := 34) (by decide +kernel))
theorem fn_X1_68 : Cond.fieldLinkNest RX1 68 RX0 "holder" "LNestedFrames$Piece;" RX1 ∈ lw_tbl := List.mem_append_right _ (List.mem_of_getElem? (i := 35) (by decide +kernel))
theorem fl_X0_54 : Cond.fieldLink RX0 54 RX0 "holder" "LNestedFrames$Piece;" ∈ lw_tbl := List.mem_append_right _ (List.mem_of_getElem? (i := 36) (by decide +kernel))
theorem fl_X0_22 : Cond.fieldLink RX0 22 RX0 "x1" "I" ∈ lw_tbl := List.mem_append_right _ (List.mem_of_getElem? (i := 37) (by decide +kernel))
theorem fn_X1_179 : Cond.fieldLinkNest RX1 179 RX0 "x1" "I" RX1 ∈ lw_tbl := List.mem_append_right _ (List.mem_of_getElem? (i := 38) (by decide +kernel))
theorem fl_X0_25 : Cond.fieldLink RX0 25 RX0 "y1" "I" ∈ lw_tbl := List.mem_append_right _ (List.mem_of_getElem? (i := 39) (by decide +kernel))
theorem fn_X1_182 : Cond.fieldLinkNest RX1 182 RX0 "y1" "I" RX1 ∈ lw_tbl := List.mem_append_right _ (List.mem_of_getElem? (i := 40) (by decide +kernel))
theorem fl_X0_28 : Cond.fieldLink RX0 28 RX0 "x2" "I" ∈ lw_tbl := List.mem_append_right _ (List.mem_of_getElem? (i := 41) (by decide +kernel))
theorem fn_X1_185 : Cond.fieldLinkNest RX1 185 RX0 "x2" "I" RX1 ∈ lw_tbl := List.mem_append_right _ (List.mem_of_getElem? (i := 42) (by decide +kernel))
theorem fl_X0_31 : Cond.fieldLink RX0 31 RX0 "y2" "I" ∈ lw_tbl := List.mem_append_right _ (List.mem_of_getElem? (i := 43) (by decide +kernel))
theorem fn_X1_188 : Cond.fieldLinkNest RX1 188 RX0 "y2" "I" RX1 ∈ lw_tbl := List.mem_append_right _ (List.mem_of_getElem? (i := 44) (by decide +kernel))
theorem fl_X1_11 : Cond.fieldLink RX1 11 RX1 "allotments" "[LNestedFrames$Piece;" ∈ lw_tbl := List.mem_append_right _ (List.mem_of_getElem? (i := 64) (by decide +kernel))
theorem fl_X1_33 : Cond.fieldLink RX1 33 RX1 "came" "I" ∈ lw_tbl := List.mem_append_right _ (List.mem_of_getElem? (i := 65) (by decide +kernel))
theorem fl_X1_176 : Cond.fieldLink RX1 176 RX1 "splitsInAll" "I" ∈ lw_tbl := List.mem_append_right _ (List.mem_of_getElem? (i := 66) (by decide +kernel))
theorem fl_X1_18 : Cond.fieldLink RX1 18 RX1 "top" "LNestedFrames$Piece;" ∈ lw_tbl := List.mem_append_right _ (List.mem_of_getElem? (i := 67) (by decide +kernel))
theorem lk_L_91 : Cond.methodLink RL 91 yX1_mean ∈ lw_tbl := List.mem_append_right _ (List.mem_of_getElem? (i := 77) (by decide +kernel))
theorem im_X1_mean : Cond.instanceMethod yX1_mean ∈ lw_tbl := List.mem_append_right _ (List.mem_of_getElem? (i := 78) (by decide +kernel))
theorem sl_X1_mean : Cond.selects yX1_mean.cls yX1_mean yX1_mean ∈ lw_tbl := List.mem_append_right _ (List.mem_of_getElem? (i := 79) (by decide +kernel))
theorem cd_X1_mean : Cond.code yX1_mean cX1_mean 5 (some .double) ∈ lw_tbl := List.mem_append_right _ (List.mem_of_getElem? (i := 80) (by decide +kernel))
theorem lk_X1_117 : Cond.methodLink RX1 117 yX1_heldOrNull ∈ lw_tbl := List.mem_append_right _ (List.mem_of_getElem? (i := 81) (by decide +kernel))
theorem im_X1_heldOrNull : Cond.instanceMethod yX1_heldOrNull ∈ lw_tbl := List.mem_append_right _ (List.mem_of_getElem? (i := 83) (by decide +kernel))
theorem cd_X1_heldOrNull : Cond.code yX1_heldOrNull cX1_heldOrNull 3 (some (.object "NestedFrames$Piece")) ∈ lw_tbl := List.mem_append_right _ (List.mem_of_getElem? (i := 84) (by decide +kernel))
theorem lk_X1_59 : Cond.methodLink RX1 59 yX1_allotmentOrNull ∈ lw_tbl := List.mem_append_right _ (List.mem_of_getElem? (i := 85) (by decide +kernel))
theorem im_X1_allotmentOrNull : Cond.instanceMethod yX1_allotmentOrNull ∈ lw_tbl := List.mem_append_right _ (List.mem_of_getElem? (i := 87) (by decide +kernel))
theorem cd_X1_allotmentOrNull : Cond.code yX1_allotmentOrNull cX1_allotmentOrNull 2 (some (.object "NestedFrames$Piece")) ∈ lw_tbl := List.mem_append_right _ (List.mem_of_getElem? (i := 88) (by decide +kernel))
theorem ln_X1_86 : Cond.methodLinkNest RX1 86 yX0_area RX1 ∈ lw_tbl := List.mem_append_right _ (List.mem_of_getElem? (i := 89) (by decide +kernel))
theorem im_X0_area : Cond.instanceMethod yX0_area ∈ lw_tbl := List.mem_append_right _ (List.mem_of_getElem? (i := 91) (by decide +kernel))
theorem cd_X0_area : Cond.code yX0_area cX0_area 1 (some .int) ∈ lw_tbl := List.mem_append_right _ (List.mem_of_getElem? (i := 92) (by decide +kernel))
theorem lk_L_96 : Cond.methodLink RL 96 yX1_digest ∈ lw_tbl := List.mem_append_right _ (List.mem_of_getElem? (i := 93) (by decide +kernel))
theorem im_X1_digest : Cond.instanceMethod yX1_digest ∈ lw_tbl := List.mem_append_right _ (List.mem_of_getElem? (i := 94) (by decide +kernel))
theorem sl_X1_digest : Cond.selects yX1_digest.cls yX1_digest yX1_digest ∈ lw_tbl := List.mem_append_right _ (List.mem_of_getElem? (i := 95) (by decide +kernel))
theorem cd_X1_digest : Cond.code yX1_digest cX1_digest 6 (some .long) ∈ lw_tbl := List.mem_append_right _ (List.mem_of_getElem? (i := 96) (by decide +kernel))
theorem kl_X1_136 : Cond.constantLong RX1 136 (1303 : Int64) ∈ lw_tbl := List.mem_append_right _ (List.mem_of_getElem? (i := 97) (by decide +kernel))
theorem kl_X1_138 : Cond.constantLong RX1 138 (31 : Int64) ∈ lw_tbl := List.mem_append_right _ (List.mem_of_getElem? (i := 98) (by decide +kernel))
theorem lk_X1_126 : Cond.methodLink RX1 126 yX1_counted ∈ lw_tbl := List.mem_append_right _ (List.mem_of_getElem? (i := 99) (by decide +kernel))
theorem im_X1_counted : Cond.instanceMethod yX1_counted ∈ lw_tbl := List.mem_append_right _ (List.mem_of_getElem? (i := 101) (by decide +kernel))
theorem cd_X1_counted : Cond.code yX1_counted cX1_counted 2 (some .int) ∈ lw_tbl := List.mem_append_right _ (List.mem_of_getElem? (i := 102) (by decide +kernel))
theorem lk_X1_198 : Cond.methodLink RX1 198 yX1_heldInAll ∈ lw_tbl := List.mem_append_right _ (List.mem_of_getElem? (i := 103) (by decide +kernel))
theorem im_X1_heldInAll : Cond.instanceMethod yX1_heldInAll ∈ lw_tbl := List.mem_append_right _ (List.mem_of_getElem? (i := 105) (by decide +kernel))
theorem cd_X1_heldInAll : Cond.code yX1_heldInAll cX1_heldInAll 3 (some .int) ∈ lw_tbl := List.mem_append_right _ (List.mem_of_getElem? (i := 106) (by decide +kernel))
theorem lk_X1_201 : Cond.methodLink RX1 201 yX1_framesIn ∈ lw_tbl := List.mem_append_right _ (List.mem_of_getElem? (i := 107) (by decide +kernel))
theorem stt_X1_framesIn : Cond.static yX1_framesIn ∈ lw_tbl := List.mem_append_right _ (List.mem_of_getElem? (i := 108) (by decide +kernel))
theorem cd_X1_framesIn : Cond.code yX1_framesIn cX1_framesIn 5 (some .int) ∈ lw_tbl := List.mem_append_right _ (List.mem_of_getElem? (i := 109) (by decide +kernel))
theorem lk_X1_210 : Cond.methodLink RX1 210 yX1_isBottom ∈ lw_tbl := List.mem_append_right _ (List.mem_of_getElem? (i := 110) (by decide +kernel))
theorem stt_X1_isBottom : Cond.static yX1_isBottom ∈ lw_tbl := List.mem_append_right _ (List.mem_of_getElem? (i := 111) (by decide +kernel))
theorem cd_X1_isBottom : Cond.code yX1_isBottom cX1_isBottom 2 (some .boolean) ∈ lw_tbl := List.mem_append_right _ (List.mem_of_getElem? (i := 112) (by decide +kernel))
theorem ln_X1_148 : Cond.methodLinkNest RX1 148 yX0_at RX1 ∈ lw_tbl := List.mem_append_right _ (List.mem_of_getElem? (i := 113) (by decide +kernel))
theorem im_X0_at : Cond.instanceMethod yX0_at ∈ lw_tbl := List.mem_append_right _ (List.mem_of_getElem? (i := 115) (by decide +kernel))
theorem cd_X0_at : Cond.code yX0_at cX0_at 2 (some (.object "NestedFrames$Piece")) ∈ lw_tbl := List.mem_append_right _ (List.mem_of_getElem? (i := 116) (by decide +kernel))
theorem lk_X1_204 : Cond.methodLink RX1 204 yX1_hedgeAreasIn ∈ lw_tbl := List.mem_append_right _ (List.mem_of_getElem? (i := 117) (by decide +kernel))
theorem stt_X1_hedgeAreasIn : Cond.static yX1_hedgeAreasIn ∈ lw_tbl := List.mem_append_right _ (List.mem_of_getElem? (i := 118) (by decide +kernel))
theorem cd_X1_hedgeAreasIn : Cond.code yX1_hedgeAreasIn cX1_hedgeAreasIn 5 (some .int) ∈ lw_tbl := List.mem_append_right _ (List.mem_of_getElem? (i := 119) (by decide +kernel))
theorem lk_X1_207 : Cond.methodLink RX1 207 yX1_meetingPairsIn ∈ lw_tbl := List.mem_append_right _ (List.mem_of_getElem? (i := 120) (by decide +kernel))
theorem stt_X1_meetingPairsIn : Cond.static yX1_meetingPairsIn ∈ lw_tbl := List.mem_append_right _ (List.mem_of_getElem? (i := 121) (by decide +kernel))
theorem cd_X1_meetingPairsIn : Cond.code yX1_meetingPairsIn cX1_meetingPairsIn 5 (some .int) ∈ lw_tbl := List.mem_append_right _ (List.mem_of_getElem? (i := 122) (by decide +kernel))
theorem lk_X1_214 : Cond.methodLink RX1 214 yX1_meetingsBehind ∈ lw_tbl := List.mem_append_right _ (List.mem_of_getElem? (i := 123) (by decide +kernel))
theorem stt_X1_meetingsBehind : Cond.static yX1_meetingsBehind ∈ lw_tbl := List.mem_append_right _ (List.mem_of_getElem? (i := 124) (by decide +kernel))
theorem cd_X1_meetingsBehind : Cond.code yX1_meetingsBehind cX1_meetingsBehind 6 (some .int) ∈ lw_tbl := List.mem_append_right _ (List.mem_of_getElem? (i := 125) (by decide +kernel))
theorem ln_X1_194 : Cond.methodLinkNest RX1 194 yX0_meets RX1 ∈ lw_tbl := List.mem_append_right _ (List.mem_of_getElem? (i := 126) (by decide +kernel))
theorem im_X0_meets : Cond.instanceMethod yX0_meets ∈ lw_tbl := List.mem_append_right _ (List.mem_of_getElem? (i := 128) (by decide +kernel))
theorem cd_X0_meets : Cond.code yX0_meets cX0_meets 2 (some .boolean) ∈ lw_tbl := List.mem_append_right _ (List.mem_of_getElem? (i := 129) (by decide +kernel))
theorem lk_X1_96 : Cond.methodLink RX1 96 yX1_answerOf ∈ lw_tbl := List.mem_append_right _ (List.mem_of_getElem? (i := 130) (by decide +kernel))
theorem im_X1_answerOf : Cond.instanceMethod yX1_answerOf ∈ lw_tbl := List.mem_append_right _ (List.mem_of_getElem? (i := 132) (by decide +kernel))
theorem cd_X1_answerOf : Cond.code yX1_answerOf cX1_answerOf 4 (some .int) ∈ lw_tbl := List.mem_append_right _ (List.mem_of_getElem? (i := 133) (by decide +kernel))
theorem lk_X1_105 : Cond.methodLink RX1 105 yX1_placeBesideOthers ∈ lw_tbl := List.mem_append_right _ (List.mem_of_getElem? (i := 134) (by decide +kernel))
theorem stt_X1_placeBesideOthers : Cond.static yX1_placeBesideOthers ∈ lw_tbl := List.mem_append_right _ (List.mem_of_getElem? (i := 135) (by decide +kernel))
theorem cd_X1_placeBesideOthers : Cond.code yX1_placeBesideOthers cX1_placeBesideOthers 1 (some .int) ∈ lw_tbl := List.mem_append_right _ (List.mem_of_getElem? (i := 136) (by decide +kernel))
theorem ln_X1_73 : Cond.methodLinkNest RX1 73 yX0_placeOf RX1 ∈ lw_tbl := List.mem_append_right _ (List.mem_of_getElem? (i := 137) (by decide +kernel))
theorem im_X0_placeOf : Cond.instanceMethod yX0_placeOf ∈ lw_tbl := List.mem_append_right _ (List.mem_of_getElem? (i := 139) (by decide +kernel))
theorem cd_X0_placeOf : Cond.code yX0_placeOf cX0_placeOf 3 (some .int) ∈ lw_tbl := List.mem_append_right _ (List.mem_of_getElem? (i := 140) (by decide +kernel))
theorem lk_X0_50 : Cond.methodLink RX0 50 yX0_at ∈ lw_tbl := List.mem_append_right _ (List.mem_of_getElem? (i := 141) (by decide +kernel))
theorem lk_X1_191 : Cond.methodLink RX1 191 yX1_othersThatMeet ∈ lw_tbl := List.mem_append_right _ (List.mem_of_getElem? (i := 142) (by decide +kernel))
theorem im_X1_othersThatMeet : Cond.instanceMethod yX1_othersThatMeet ∈ lw_tbl := List.mem_append_right _ (List.mem_of_getElem? (i := 144) (by decide +kernel))
theorem cd_X1_othersThatMeet : Cond.code yX1_othersThatMeet cX1_othersThatMeet 3 (some .int) ∈ lw_tbl := List.mem_append_right _ (List.mem_of_getElem? (i := 145) (by decide +kernel))
theorem lk_X1_108 : Cond.methodLink RX1 108 yX1_heldThatMeet ∈ lw_tbl := List.mem_append_right _ (List.mem_of_getElem? (i := 146) (by decide +kernel))
theorem im_X1_heldThatMeet : Cond.instanceMethod yX1_heldThatMeet ∈ lw_tbl := List.mem_append_right _ (List.mem_of_getElem? (i := 148) (by decide +kernel))
theorem cd_X1_heldThatMeet : Cond.code yX1_heldThatMeet cX1_heldThatMeet 5 (some .int) ∈ lw_tbl := List.mem_append_right _ (List.mem_of_getElem? (i := 149) (by decide +kernel))
theorem lk_X1_140 : Cond.methodLink RX1 140 yX1_digestOfFrames ∈ lw_tbl := List.mem_append_right _ (List.mem_of_getElem? (i := 150) (by decide +kernel))
theorem stt_X1_digestOfFrames : Cond.static yX1_digestOfFrames ∈ lw_tbl := List.mem_append_right _ (List.mem_of_getElem? (i := 151) (by decide +kernel))
theorem cd_X1_digestOfFrames : Cond.code yX1_digestOfFrames cX1_digestOfFrames 8 (some .long) ∈ lw_tbl := List.mem_append_right _ (List.mem_of_getElem? (i := 152) (by decide +kernel))
theorem lk_X1_218 : Cond.methodLink RX1 218 yX1_digestOfFrame ∈ lw_tbl := List.mem_append_right _ (List.mem_of_getElem? (i := 153) (by decide +kernel))
theorem stt_X1_digestOfFrame : Cond.static yX1_digestOfFrame ∈ lw_tbl := List.mem_append_right _ (List.mem_of_getElem? (i := 154) (by decide +kernel))
theorem cd_X1_digestOfFrame : Cond.code yX1_digestOfFrame cX1_digestOfFrame 6 (some .long) ∈ lw_tbl := List.mem_append_right _ (List.mem_of_getElem? (i := 155) (by decide +kernel))
theorem lk_L_52 : Cond.methodLink RL 52 yL_come ∈ lw_tbl := List.mem_append_right _ (List.mem_of_getElem? (i := 156) (by decide +kernel))
theorem stt_L_come : Cond.static yL_come ∈ lw_tbl := List.mem_append_right _ (List.mem_of_getElem? (i := 157) (by decide +kernel))
theorem cl_L_13 : Cond.classLink RL 13 "java/lang/IllegalArgumentException" ∈ lw_tbl := List.mem_append_right _ (List.mem_of_getElem? (i := 159) (by decide +kernel))
theorem cl_L_15 : Cond.classLink RL 15 "java/lang/IllegalStateException" ∈ lw_tbl := List.mem_append_right _ (List.mem_of_getElem? (i := 160) (by decide +kernel))
theorem lk_L_7 : Cond.methodLink RL 7 yX1_come ∈ lw_tbl := List.mem_append_right _ (List.mem_of_getElem? (i := 161) (by decide +kernel))
theorem im_X1_come : Cond.instanceMethod yX1_come ∈ lw_tbl := List.mem_append_right _ (List.mem_of_getElem? (i := 162) (by decide +kernel))
theorem sl_X1_come : Cond.selects yX1_come.cls yX1_come yX1_come ∈ lw_tbl := List.mem_append_right _ (List.mem_of_getElem? (i := 163) (by decide +kernel))
theorem cd_X1_come : Cond.code yX1_come cX1_come 7 (some .int) ∈ lw_tbl := List.mem_append_right _ (List.mem_of_getElem? (i := 164) (by decide +kernel))
theorem lk_X1_22 : Cond.methodLink RX1 22 yX1_isRectangle ∈ lw_tbl := List.mem_append_right _ (List.mem_of_getElem? (i := 165) (by decide +kernel))
theorem stt_X1_isRectangle : Cond.static yX1_isRectangle ∈ lw_tbl := List.mem_append_right _ (List.mem_of_getElem? (i := 166) (by decide +kernel))
theorem cd_X1_isRectangle : Cond.code yX1_isRectangle cX1_isRectangle 4 (some .boolean) ∈ lw_tbl := List.mem_append_right _ (List.mem_of_getElem? (i := 167) (by decide +kernel))
theorem cl_X1_26 : Cond.classLink RX1 26 "java/lang/IllegalArgumentException" ∈ lw_tbl := List.mem_append_right _ (List.mem_of_getElem? (i := 168) (by decide +kernel))
theorem ins_java_lang_IllegalArgumentException : Cond.instantiable "java/lang/IllegalArgumentException" 6 ∈ lw_tbl := List.mem_append_right _ (List.mem_of_getElem? (i := 169) (by decide +kernel))
theorem ins_java_lang_Throwable : Cond.instantiable "java/lang/Throwable" 6 ∈ lw_tbl := List.mem_append_right _ (List.mem_of_getElem? (i := 207) (by decide +kernel))
theorem ac_byte : Cond.arrayClass .byte ∈ lw_tbl := List.mem_append_right _ (List.mem_of_getElem? (i := 235) (by decide +kernel))
theorem cl_X1_37 : Cond.classLink RX1 37 "java/lang/IllegalStateException" ∈ lw_tbl := List.mem_append_right _ (List.mem_of_getElem? (i := 236) (by decide +kernel))
theorem ins_java_lang_IllegalStateException : Cond.instantiable "java/lang/IllegalStateException" 6 ∈ lw_tbl := List.mem_append_right _ (List.mem_of_getElem? (i := 237) (by decide +kernel))
theorem ln_X1_42 : Cond.methodLinkNest RX1 42 yX0_init RX1 ∈ lw_tbl := List.mem_append_right _ (List.mem_of_getElem? (i := 252) (by decide +kernel))
theorem im_X0_init : Cond.instanceMethod yX0_init ∈ lw_tbl := List.mem_append_right _ (List.mem_of_getElem? (i := 253) (by decide +kernel))
theorem cd_X0_init : Cond.code yX0_init cX0_init 6 none ∈ lw_tbl := List.mem_append_right _ (List.mem_of_getElem? (i := 254) (by decide +kernel))
theorem lk_X1_45 : Cond.methodLink RX1 45 yX1_frameFor ∈ lw_tbl := List.mem_append_right _ (List.mem_of_getElem? (i := 255) (by decide +kernel))
theorem im_X1_frameFor : Cond.instanceMethod yX1_frameFor ∈ lw_tbl := List.mem_append_right _ (List.mem_of_getElem? (i := 257) (by decide +kernel))
theorem cd_X1_frameFor : Cond.code yX1_frameFor cX1_frameFor 5 (some (.object "NestedFrames$Piece")) ∈ lw_tbl := List.mem_append_right _ (List.mem_of_getElem? (i := 258) (by decide +kernel))
theorem lk_X1_144 : Cond.methodLink RX1 144 yX1_leastGrowing ∈ lw_tbl := List.mem_append_right _ (List.mem_of_getElem? (i := 259) (by decide +kernel))
theorem stt_X1_leastGrowing : Cond.static yX1_leastGrowing ∈ lw_tbl := List.mem_append_right _ (List.mem_of_getElem? (i := 260) (by decide +kernel))
theorem cd_X1_leastGrowing : Cond.code yX1_leastGrowing cX1_leastGrowing 5 (some (.object "NestedFrames$Piece")) ∈ lw_tbl := List.mem_append_right _ (List.mem_of_getElem? (i := 261) (by decide +kernel))
theorem lk_X1_151 : Cond.methodLink RX1 151 yX1_isBetterFor ∈ lw_tbl := List.mem_append_right _ (List.mem_of_getElem? (i := 262) (by decide +kernel))
theorem stt_X1_isBetterFor : Cond.static yX1_isBetterFor ∈ lw_tbl := List.mem_append_right _ (List.mem_of_getElem? (i := 263) (by decide +kernel))
theorem cd_X1_isBetterFor : Cond.code yX1_isBetterFor cX1_isBetterFor 5 (some .boolean) ∈ lw_tbl := List.mem_append_right _ (List.mem_of_getElem? (i := 264) (by decide +kernel))
theorem ln_X1_130 : Cond.methodLinkNest RX1 130 yX0_growthFor RX1 ∈ lw_tbl := List.mem_append_right _ (List.mem_of_getElem? (i := 265) (by decide +kernel))
theorem im_X0_growthFor : Cond.instanceMethod yX0_growthFor ∈ lw_tbl := List.mem_append_right _ (List.mem_of_getElem? (i := 267) (by decide +kernel))
theorem cd_X0_growthFor : Cond.code yX0_growthFor cX0_growthFor 4 (some .int) ∈ lw_tbl := List.mem_append_right _ (List.mem_of_getElem? (i := 268) (by decide +kernel))
theorem lk_X0_34 : Cond.methodLink RX0 34 yX0_area ∈ lw_tbl := List.mem_append_right _ (List.mem_of_getElem? (i := 269) (by decide +kernel))
theorem lk_X0_38 : Cond.methodLink RX0 38 Lib.Math.max.name ∈ lw_tbl := List.mem_append_right _ (List.mem_of_getElem? (i := 270) (by decide +kernel))
theorem stt_Lib_Math_max_name : Cond.static Lib.Math.max.name ∈ lw_tbl := List.mem_append_right _ (List.mem_of_getElem? (i := 271) (by decide +kernel))
theorem cd_Lib_Math_max_name : Cond.code Lib.Math.max.name Lib.Math.max.code 2 (some .int) ∈ lw_tbl := List.mem_append_right _ (List.mem_of_getElem? (i := 272) (by decide +kernel))
theorem lk_X0_44 : Cond.methodLink RX0 44 Lib.Math.min.name ∈ lw_tbl := List.mem_append_right _ (List.mem_of_getElem? (i := 273) (by decide +kernel))
theorem stt_Lib_Math_min_name : Cond.static Lib.Math.min.name ∈ lw_tbl := List.mem_append_right _ (List.mem_of_getElem? (i := 274) (by decide +kernel))
theorem cd_Lib_Math_min_name : Cond.code Lib.Math.min.name Lib.Math.min.code 2 (some .int) ∈ lw_tbl := List.mem_append_right _ (List.mem_of_getElem? (i := 275) (by decide +kernel))
theorem ln_X1_49 : Cond.methodLinkNest RX1 49 yX0_append RX1 ∈ lw_tbl := List.mem_append_right _ (List.mem_of_getElem? (i := 276) (by decide +kernel))
theorem im_X0_append : Cond.instanceMethod yX0_append ∈ lw_tbl := List.mem_append_right _ (List.mem_of_getElem? (i := 278) (by decide +kernel))
theorem cd_X0_append : Cond.code yX0_append cX0_append 2 none ∈ lw_tbl := List.mem_append_right _ (List.mem_of_getElem? (i := 279) (by decide +kernel))
theorem lk_X0_58 : Cond.methodLink RX0 58 yX0_insert ∈ lw_tbl := List.mem_append_right _ (List.mem_of_getElem? (i := 280) (by decide +kernel))
theorem im_X0_insert : Cond.instanceMethod yX0_insert ∈ lw_tbl := List.mem_append_right _ (List.mem_of_getElem? (i := 282) (by decide +kernel))
theorem cd_X0_insert : Cond.code yX0_insert cX0_insert 4 none ∈ lw_tbl := List.mem_append_right _ (List.mem_of_getElem? (i := 283) (by decide +kernel))
theorem lk_X1_53 : Cond.methodLink RX1 53 yX1_splitCrowdedAndTighten ∈ lw_tbl := List.mem_append_right _ (List.mem_of_getElem? (i := 284) (by decide +kernel))
theorem im_X1_splitCrowdedAndTighten : Cond.instanceMethod yX1_splitCrowdedAndTighten ∈ lw_tbl := List.mem_append_right _ (List.mem_of_getElem? (i := 286) (by decide +kernel))
theorem cd_X1_splitCrowdedAndTighten : Cond.code yX1_splitCrowdedAndTighten cX1_splitCrowdedAndTighten 4 none ∈ lw_tbl := List.mem_append_right _ (List.mem_of_getElem? (i := 287) (by decide +kernel))
theorem lk_X1_155 : Cond.methodLink RX1 155 yX1_split ∈ lw_tbl := List.mem_append_right _ (List.mem_of_getElem? (i := 288) (by decide +kernel))
theorem im_X1_split : Cond.instanceMethod yX1_split ∈ lw_tbl := List.mem_append_right _ (List.mem_of_getElem? (i := 290) (by decide +kernel))
theorem cd_X1_split : Cond.code yX1_split cX1_split 6 none ∈ lw_tbl := List.mem_append_right _ (List.mem_of_getElem? (i := 291) (by decide +kernel))
theorem lk_X1_161 : Cond.methodLink RX1 161 yX1_raiseTop ∈ lw_tbl := List.mem_append_right _ (List.mem_of_getElem? (i := 292) (by decide +kernel))
theorem im_X1_raiseTop : Cond.instanceMethod yX1_raiseTop ∈ lw_tbl := List.mem_append_right _ (List.mem_of_getElem? (i := 294) (by decide +kernel))
theorem cd_X1_raiseTop : Cond.code yX1_raiseTop cX1_raiseTop 2 none ∈ lw_tbl := List.mem_append_right _ (List.mem_of_getElem? (i := 295) (by decide +kernel))
theorem ln_X1_164 : Cond.methodLinkNest RX1 164 yX0_splitsAlongX RX1 ∈ lw_tbl := List.mem_append_right _ (List.mem_of_getElem? (i := 296) (by decide +kernel))
theorem im_X0_splitsAlongX : Cond.instanceMethod yX0_splitsAlongX ∈ lw_tbl := List.mem_append_right _ (List.mem_of_getElem? (i := 298) (by decide +kernel))
theorem cd_X0_splitsAlongX : Cond.code yX0_splitsAlongX cX0_splitsAlongX 1 (some .boolean) ∈ lw_tbl := List.mem_append_right _ (List.mem_of_getElem? (i := 299) (by decide +kernel))
theorem lk_X0_74 : Cond.methodLink RX0 74 yX0_spreadOfLowerEdges ∈ lw_tbl := List.mem_append_right _ (List.mem_of_getElem? (i := 300) (by decide +kernel))
theorem im_X0_spreadOfLowerEdges : Cond.instanceMethod yX0_spreadOfLowerEdges ∈ lw_tbl := List.mem_append_right _ (List.mem_of_getElem? (i := 302) (by decide +kernel))
theorem cd_X0_spreadOfLowerEdges : Cond.code yX0_spreadOfLowerEdges cX0_spreadOfLowerEdges 6 (some .int) ∈ lw_tbl := List.mem_append_right _ (List.mem_of_getElem? (i := 303) (by decide +kernel))
theorem lk_X0_70 : Cond.methodLink RX0 70 yX0_lowerEdgeAt ∈ lw_tbl := List.mem_append_right _ (List.mem_of_getElem? (i := 304) (by decide +kernel))
theorem im_X0_lowerEdgeAt : Cond.instanceMethod yX0_lowerEdgeAt ∈ lw_tbl := List.mem_append_right _ (List.mem_of_getElem? (i := 306) (by decide +kernel))
theorem cd_X0_lowerEdgeAt : Cond.code yX0_lowerEdgeAt cX0_lowerEdgeAt 4 (some .int) ∈ lw_tbl := List.mem_append_right _ (List.mem_of_getElem? (i := 307) (by decide +kernel))
theorem lk_X0_66 : Cond.methodLink RX0 66 yX0_lowerEdge ∈ lw_tbl := List.mem_append_right _ (List.mem_of_getElem? (i := 308) (by decide +kernel))
theorem im_X0_lowerEdge : Cond.instanceMethod yX0_lowerEdge ∈ lw_tbl := List.mem_append_right _ (List.mem_of_getElem? (i := 310) (by decide +kernel))
theorem cd_X0_lowerEdge : Cond.code yX0_lowerEdge cX0_lowerEdge 2 (some .int) ∈ lw_tbl := List.mem_append_right _ (List.mem_of_getElem? (i := 311) (by decide +kernel))
theorem ln_X1_168 : Cond.methodLinkNest RX1 168 yX0_sortByLowerEdges RX1 ∈ lw_tbl := List.mem_append_right _ (List.mem_of_getElem? (i := 312) (by decide +kernel))
theorem im_X0_sortByLowerEdges : Cond.instanceMethod yX0_sortByLowerEdges ∈ lw_tbl := List.mem_append_right _ (List.mem_of_getElem? (i := 314) (by decide +kernel))
theorem cd_X0_sortByLowerEdges : Cond.code yX0_sortByLowerEdges cX0_sortByLowerEdges 6 none ∈ lw_tbl := List.mem_append_right _ (List.mem_of_getElem? (i := 315) (by decide +kernel))
theorem lk_X0_77 : Cond.methodLink RX0 77 yX0_takeOut ∈ lw_tbl := List.mem_append_right _ (List.mem_of_getElem? (i := 316) (by decide +kernel))
theorem im_X0_takeOut : Cond.instanceMethod yX0_takeOut ∈ lw_tbl := List.mem_append_right _ (List.mem_of_getElem? (i := 318) (by decide +kernel))
theorem cd_X0_takeOut : Cond.code yX0_takeOut cX0_takeOut 4 (some (.object "NestedFrames$Piece")) ∈ lw_tbl := List.mem_append_right _ (List.mem_of_getElem? (i := 319) (by decide +kernel))
theorem ln_X1_77 : Cond.methodLinkNest RX1 77 yX0_takeOut RX1 ∈ lw_tbl := List.mem_append_right _ (List.mem_of_getElem? (i := 320) (by decide +kernel))
theorem ln_X1_158 : Cond.methodLinkNest RX1 158 yX0_tighten RX1 ∈ lw_tbl := List.mem_append_right _ (List.mem_of_getElem? (i := 321) (by decide +kernel))
theorem im_X0_tighten : Cond.instanceMethod yX0_tighten ∈ lw_tbl := List.mem_append_right _ (List.mem_of_getElem? (i := 323) (by decide +kernel))
theorem cd_X0_tighten : Cond.code yX0_tighten cX0_tighten 4 none ∈ lw_tbl := List.mem_append_right _ (List.mem_of_getElem? (i := 324) (by decide +kernel))
theorem lk_X0_62 : Cond.methodLink RX0 62 yX0_widenTo ∈ lw_tbl := List.mem_append_right _ (List.mem_of_getElem? (i := 325) (by decide +kernel))
theorem im_X0_widenTo : Cond.instanceMethod yX0_widenTo ∈ lw_tbl := List.mem_append_right _ (List.mem_of_getElem? (i := 327) (by decide +kernel))
theorem cd_X0_widenTo : Cond.code yX0_widenTo cX0_widenTo 2 none ∈ lw_tbl := List.mem_append_right _ (List.mem_of_getElem? (i := 328) (by decide +kernel))
theorem ln_X1_172 : Cond.methodLinkNest RX1 172 yX0_insert RX1 ∈ lw_tbl := List.mem_append_right _ (List.mem_of_getElem? (i := 329) (by decide +kernel))
theorem lk_L_62 : Cond.methodLink RL 62 yL_go ∈ lw_tbl := List.mem_append_right _ (List.mem_of_getElem? (i := 330) (by decide +kernel))
theorem stt_L_go : Cond.static yL_go ∈ lw_tbl := List.mem_append_right _ (List.mem_of_getElem? (i := 331) (by decide +kernel))
theorem cl_L_21 : Cond.classLink RL 21 "java/lang/IndexOutOfBoundsException" ∈ lw_tbl := List.mem_append_right _ (List.mem_of_getElem? (i := 333) (by decide +kernel))
theorem lk_L_17 : Cond.methodLink RL 17 yX1_go ∈ lw_tbl := List.mem_append_right _ (List.mem_of_getElem? (i := 334) (by decide +kernel))
theorem im_X1_go : Cond.instanceMethod yX1_go ∈ lw_tbl := List.mem_append_right _ (List.mem_of_getElem? (i := 335) (by decide +kernel))
theorem sl_X1_go : Cond.selects yX1_go.cls yX1_go yX1_go ∈ lw_tbl := List.mem_append_right _ (List.mem_of_getElem? (i := 336) (by decide +kernel))
theorem cd_X1_go : Cond.code yX1_go cX1_go 4 (some .int) ∈ lw_tbl := List.mem_append_right _ (List.mem_of_getElem? (i := 337) (by decide +kernel))
theorem cl_X1_63 : Cond.classLink RX1 63 "java/lang/IndexOutOfBoundsException" ∈ lw_tbl := List.mem_append_right _ (List.mem_of_getElem? (i := 338) (by decide +kernel))
theorem ins_java_lang_IndexOutOfBoundsException : Cond.instantiable "java/lang/IndexOutOfBoundsException" 6 ∈ lw_tbl := List.mem_append_right _ (List.mem_of_getElem? (i := 339) (by decide +kernel))
theorem lk_X1_80 : Cond.methodLink RX1 80 yX1_dropEmptyAndTighten ∈ lw_tbl := List.mem_append_right _ (List.mem_of_getElem? (i := 355) (by decide +kernel))
theorem stt_X1_dropEmptyAndTighten : Cond.static yX1_dropEmptyAndTighten ∈ lw_tbl := List.mem_append_right _ (List.mem_of_getElem? (i := 356) (by decide +kernel))
theorem cd_X1_dropEmptyAndTighten : Cond.code yX1_dropEmptyAndTighten cX1_dropEmptyAndTighten 3 none ∈ lw_tbl := List.mem_append_right _ (List.mem_of_getElem? (i := 357) (by decide +kernel))
theorem lk_X1_83 : Cond.methodLink RX1 83 yX1_lowerTop ∈ lw_tbl := List.mem_append_right _ (List.mem_of_getElem? (i := 358) (by decide +kernel))
theorem im_X1_lowerTop : Cond.instanceMethod yX1_lowerTop ∈ lw_tbl := List.mem_append_right _ (List.mem_of_getElem? (i := 360) (by decide +kernel))
theorem cd_X1_lowerTop : Cond.code yX1_lowerTop cX1_lowerTop 3 none ∈ lw_tbl := List.mem_append_right _ (List.mem_of_getElem? (i := 361) (by decide +kernel))
theorem lk_L_66 : Cond.methodLink RL 66 yL_told ∈ lw_tbl := List.mem_append_right _ (List.mem_of_getElem? (i := 362) (by decide +kernel))
theorem stt_L_told : Cond.static yL_told ∈ lw_tbl := List.mem_append_right _ (List.mem_of_getElem? (i := 363) (by decide +kernel))
theorem lk_L_23 : Cond.methodLink RL 23 yX1_told ∈ lw_tbl := List.mem_append_right _ (List.mem_of_getElem? (i := 365) (by decide +kernel))
theorem im_X1_told : Cond.instanceMethod yX1_told ∈ lw_tbl := List.mem_append_right _ (List.mem_of_getElem? (i := 366) (by decide +kernel))
theorem sl_X1_told : Cond.selects yX1_told.cls yX1_told yX1_told ∈ lw_tbl := List.mem_append_right _ (List.mem_of_getElem? (i := 367) (by decide +kernel))
theorem cd_X1_told : Cond.code yX1_told cX1_told 4 (some .int) ∈ lw_tbl := List.mem_append_right _ (List.mem_of_getElem? (i := 368) (by decide +kernel))
theorem lk_X1_90 : Cond.methodLink RX1 90 yX1_isQuestion ∈ lw_tbl := List.mem_append_right _ (List.mem_of_getElem? (i := 369) (by decide +kernel))
theorem stt_X1_isQuestion : Cond.static yX1_isQuestion ∈ lw_tbl := List.mem_append_right _ (List.mem_of_getElem? (i := 370) (by decide +kernel))
theorem cd_X1_isQuestion : Cond.code yX1_isQuestion cX1_isQuestion 1 (some .boolean) ∈ lw_tbl := List.mem_append_right _ (List.mem_of_getElem? (i := 371) (by decide +kernel))
theorem lk_L_70 : Cond.methodLink RL 70 yL_way ∈ lw_tbl := List.mem_append_right _ (List.mem_of_getElem? (i := 373) (by decide +kernel))
theorem stt_L_way : Cond.static yL_way ∈ lw_tbl := List.mem_append_right _ (List.mem_of_getElem? (i := 374) (by decide +kernel))
theorem lk_L_27 : Cond.methodLink RL 27 yX1_way ∈ lw_tbl := List.mem_append_right _ (List.mem_of_getElem? (i := 376) (by decide +kernel))
theorem im_X1_way : Cond.instanceMethod yX1_way ∈ lw_tbl := List.mem_append_right _ (List.mem_of_getElem? (i := 377) (by decide +kernel))
theorem sl_X1_way : Cond.selects yX1_way.cls yX1_way yX1_way ∈ lw_tbl := List.mem_append_right _ (List.mem_of_getElem? (i := 378) (by decide +kernel))
theorem cd_X1_way : Cond.code yX1_way cX1_way 6 (some .int) ∈ lw_tbl := List.mem_append_right _ (List.mem_of_getElem? (i := 379) (by decide +kernel))
theorem lk_L_73 : Cond.methodLink RL 73 yL_overlaps ∈ lw_tbl := List.mem_append_right _ (List.mem_of_getElem? (i := 381) (by decide +kernel))
theorem stt_L_overlaps : Cond.static yL_overlaps ∈ lw_tbl := List.mem_append_right _ (List.mem_of_getElem? (i := 382) (by decide +kernel))
theorem lk_L_30 : Cond.methodLink RL 30 yX1_overlaps ∈ lw_tbl := List.mem_append_right _ (List.mem_of_getElem? (i := 384) (by decide +kernel))
theorem im_X1_overlaps : Cond.instanceMethod yX1_overlaps ∈ lw_tbl := List.mem_append_right _ (List.mem_of_getElem? (i := 385) (by decide +kernel))
theorem sl_X1_overlaps : Cond.selects yX1_overlaps.cls yX1_overlaps yX1_overlaps ∈ lw_tbl := List.mem_append_right _ (List.mem_of_getElem? (i := 386) (by decide +kernel))
theorem cd_X1_overlaps : Cond.code yX1_overlaps cX1_overlaps 5 (some .int) ∈ lw_tbl := List.mem_append_right _ (List.mem_of_getElem? (i := 387) (by decide +kernel))
theorem lk_L_76 : Cond.methodLink RL 76 yL_looks ∈ lw_tbl := List.mem_append_right _ (List.mem_of_getElem? (i := 388) (by decide +kernel))
theorem stt_L_looks : Cond.static yL_looks ∈ lw_tbl := List.mem_append_right _ (List.mem_of_getElem? (i := 389) (by decide +kernel))
theorem lk_L_33 : Cond.methodLink RL 33 yX1_looks ∈ lw_tbl := List.mem_append_right _ (List.mem_of_getElem? (i := 391) (by decide +kernel))
theorem im_X1_looks : Cond.instanceMethod yX1_looks ∈ lw_tbl := List.mem_append_right _ (List.mem_of_getElem? (i := 392) (by decide +kernel))
theorem sl_X1_looks : Cond.selects yX1_looks.cls yX1_looks yX1_looks ∈ lw_tbl := List.mem_append_right _ (List.mem_of_getElem? (i := 393) (by decide +kernel))
theorem cd_X1_looks : Cond.code yX1_looks cX1_looks 5 (some .int) ∈ lw_tbl := List.mem_append_right _ (List.mem_of_getElem? (i := 394) (by decide +kernel))
theorem lk_X1_111 : Cond.methodLink RX1 111 yX1_framesLookedAt ∈ lw_tbl := List.mem_append_right _ (List.mem_of_getElem? (i := 395) (by decide +kernel))
theorem stt_X1_framesLookedAt : Cond.static yX1_framesLookedAt ∈ lw_tbl := List.mem_append_right _ (List.mem_of_getElem? (i := 396) (by decide +kernel))
theorem cd_X1_framesLookedAt : Cond.code yX1_framesLookedAt cX1_framesLookedAt 6 (some .int) ∈ lw_tbl := List.mem_append_right _ (List.mem_of_getElem? (i := 397) (by decide +kernel))
theorem lk_L_79 : Cond.methodLink RL 79 yL_nearest ∈ lw_tbl := List.mem_append_right _ (List.mem_of_getElem? (i := 398) (by decide +kernel))
theorem stt_L_nearest : Cond.static yL_nearest ∈ lw_tbl := List.mem_append_right _ (List.mem_of_getElem? (i := 399) (by decide +kernel))
theorem lk_L_36 : Cond.methodLink RL 36 yX1_nearest ∈ lw_tbl := List.mem_append_right _ (List.mem_of_getElem? (i := 401) (by decide +kernel))
theorem im_X1_nearest : Cond.instanceMethod yX1_nearest ∈ lw_tbl := List.mem_append_right _ (List.mem_of_getElem? (i := 402) (by decide +kernel))
theorem sl_X1_nearest : Cond.selects yX1_nearest.cls yX1_nearest yX1_nearest ∈ lw_tbl := List.mem_append_right _ (List.mem_of_getElem? (i := 403) (by decide +kernel))
theorem cd_X1_nearest : Cond.code yX1_nearest cX1_nearest 6 (some .int) ∈ lw_tbl := List.mem_append_right _ (List.mem_of_getElem? (i := 404) (by decide +kernel))
theorem ln_X1_120 : Cond.methodLinkNest RX1 120 yX0_squaredDistance RX1 ∈ lw_tbl := List.mem_append_right _ (List.mem_of_getElem? (i := 406) (by decide +kernel))
theorem im_X0_squaredDistance : Cond.instanceMethod yX0_squaredDistance ∈ lw_tbl := List.mem_append_right _ (List.mem_of_getElem? (i := 408) (by decide +kernel))
theorem cd_X0_squaredDistance : Cond.code yX0_squaredDistance cX0_squaredDistance 5 (some .int) ∈ lw_tbl := List.mem_append_right _ (List.mem_of_getElem? (i := 409) (by decide +kernel))
theorem lk_L_82 : Cond.methodLink RL 82 yL_count ∈ lw_tbl := List.mem_append_right _ (List.mem_of_getElem? (i := 410) (by decide +kernel))
theorem stt_L_count : Cond.static yL_count ∈ lw_tbl := List.mem_append_right _ (List.mem_of_getElem? (i := 411) (by decide +kernel))
theorem lk_L_39 : Cond.methodLink RL 39 yX1_count ∈ lw_tbl := List.mem_append_right _ (List.mem_of_getElem? (i := 413) (by decide +kernel))
theorem im_X1_count : Cond.instanceMethod yX1_count ∈ lw_tbl := List.mem_append_right _ (List.mem_of_getElem? (i := 414) (by decide +kernel))
theorem sl_X1_count : Cond.selects yX1_count.cls yX1_count yX1_count ∈ lw_tbl := List.mem_append_right _ (List.mem_of_getElem? (i := 415) (by decide +kernel))
theorem cd_X1_count : Cond.code yX1_count cX1_count 2 (some .int) ∈ lw_tbl := List.mem_append_right _ (List.mem_of_getElem? (i := 416) (by decide +kernel))
theorem lk_L_85 : Cond.methodLink RL 85 yL_grows ∈ lw_tbl := List.mem_append_right _ (List.mem_of_getElem? (i := 418) (by decide +kernel))
theorem stt_L_grows : Cond.static yL_grows ∈ lw_tbl := List.mem_append_right _ (List.mem_of_getElem? (i := 419) (by decide +kernel))
theorem lk_L_42 : Cond.methodLink RL 42 yX1_grows ∈ lw_tbl := List.mem_append_right _ (List.mem_of_getElem? (i := 421) (by decide +kernel))
theorem im_X1_grows : Cond.instanceMethod yX1_grows ∈ lw_tbl := List.mem_append_right _ (List.mem_of_getElem? (i := 422) (by decide +kernel))
theorem sl_X1_grows : Cond.selects yX1_grows.cls yX1_grows yX1_grows ∈ lw_tbl := List.mem_append_right _ (List.mem_of_getElem? (i := 423) (by decide +kernel))
theorem cd_X1_grows : Cond.code yX1_grows cX1_grows 8 (some .int) ∈ lw_tbl := List.mem_append_right _ (List.mem_of_getElem? (i := 424) (by decide +kernel))
theorem lk_L_88 : Cond.methodLink RL 88 yL_splits ∈ lw_tbl := List.mem_append_right _ (List.mem_of_getElem? (i := 425) (by decide +kernel))
theorem stt_L_splits : Cond.static yL_splits ∈ lw_tbl := List.mem_append_right _ (List.mem_of_getElem? (i := 426) (by decide +kernel))
theorem lk_L_45 : Cond.methodLink RL 45 yX1_splits ∈ lw_tbl := List.mem_append_right _ (List.mem_of_getElem? (i := 428) (by decide +kernel))
theorem im_X1_splits : Cond.instanceMethod yX1_splits ∈ lw_tbl := List.mem_append_right _ (List.mem_of_getElem? (i := 429) (by decide +kernel))
theorem sl_X1_splits : Cond.selects yX1_splits.cls yX1_splits yX1_splits ∈ lw_tbl := List.mem_append_right _ (List.mem_of_getElem? (i := 430) (by decide +kernel))
theorem cd_X1_splits : Cond.code yX1_splits cX1_splits 7 (some .int) ∈ lw_tbl := List.mem_append_right _ (List.mem_of_getElem? (i := 431) (by decide +kernel))
theorem cl_L_49 : Cond.classLink RL 49 RX2 ∈ lw_tbl := List.mem_append_right _ (List.mem_of_getElem? (i := 432) (by decide +kernel))
theorem ins_NestedFramesModel : Cond.instantiable RX2 14 ∈ lw_tbl := List.mem_append_right _ (List.mem_of_getElem? (i := 433) (by decide +kernel))
theorem lk_L_51 : Cond.methodLink RL 51 yX2_init ∈ lw_tbl := List.mem_append_right _ (List.mem_of_getElem? (i := 434) (by decide +kernel))
theorem im_X2_init : Cond.instanceMethod yX2_init ∈ lw_tbl := List.mem_append_right _ (List.mem_of_getElem? (i := 435) (by decide +kernel))
theorem cd_X2_init : Cond.code yX2_init cX2_init 1 none ∈ lw_tbl := List.mem_append_right _ (List.mem_of_getElem? (i := 436) (by decide +kernel))
theorem lk_X2_1 : Cond.methodLink RX2 1 Lib.objectInit ∈ lw_tbl := List.mem_append_right _ (List.mem_of_getElem? (i := 437) (by decide +kernel))
theorem fl_X2_38 : Cond.fieldLink RX2 38 RX2 "thrown" "I" ∈ lw_tbl := List.mem_append_right _ (List.mem_of_getElem? (i := 438) (by decide +kernel))
theorem fl_X2_41 : Cond.fieldLink RX2 41 RX2 "came" "I" ∈ lw_tbl := List.mem_append_right _ (List.mem_of_getElem? (i := 439) (by decide +kernel))
theorem fl_X2_97 : Cond.fieldLink RX2 97 RX2 "split" "I" ∈ lw_tbl := List.mem_append_right _ (List.mem_of_getElem? (i := 440) (by decide +kernel))
theorem fl_X2_9 : Cond.fieldLink RX2 9 RX2 "edges" "[I" ∈ lw_tbl := List.mem_append_right _ (List.mem_of_getElem? (i := 441) (by decide +kernel))
theorem fl_X2_13 : Cond.fieldLink RX2 13 RX2 "held" "[I" ∈ lw_tbl := List.mem_append_right _ (List.mem_of_getElem? (i := 442) (by decide +kernel))
theorem fl_X2_16 : Cond.fieldLink RX2 16 RX2 "made" "I" ∈ lw_tbl := List.mem_append_right _ (List.mem_of_getElem? (i := 443) (by decide +kernel))
theorem fl_X2_80 : Cond.fieldLink RX2 80 RX2 "top" "I" ∈ lw_tbl := List.mem_append_right _ (List.mem_of_getElem? (i := 444) (by decide +kernel))
theorem fl_X2_20 : Cond.fieldLink RX2 20 RX2 "many" "[I" ∈ lw_tbl := List.mem_append_right _ (List.mem_of_getElem? (i := 445) (by decide +kernel))
theorem fl_X2_23 : Cond.fieldLink RX2 23 RX2 "holds" "[I" ∈ lw_tbl := List.mem_append_right _ (List.mem_of_getElem? (i := 446) (by decide +kernel))
theorem fl_X2_26 : Cond.fieldLink RX2 26 RX2 "high" "[I" ∈ lw_tbl := List.mem_append_right _ (List.mem_of_getElem? (i := 447) (by decide +kernel))
theorem fl_X2_29 : Cond.fieldLink RX2 29 RX2 "way" "[I" ∈ lw_tbl := List.mem_append_right _ (List.mem_of_getElem? (i := 448) (by decide +kernel))
theorem fl_X2_32 : Cond.fieldLink RX2 32 RX2 "places" "[I" ∈ lw_tbl := List.mem_append_right _ (List.mem_of_getElem? (i := 449) (by decide +kernel))
theorem fl_X2_77 : Cond.fieldLink RX2 77 RX2 "steps" "I" ∈ lw_tbl := List.mem_append_right _ (List.mem_of_getElem? (i := 450) (by decide +kernel))
theorem fl_X2_35 : Cond.fieldLink RX2 35 RX2 "rect" "[I" ∈ lw_tbl := List.mem_append_right _ (List.mem_of_getElem? (i := 451) (by decide +kernel))
theorem ac_int : Cond.arrayClass .int ∈ lw_tbl := List.mem_append_right _ (List.mem_of_getElem? (i := 481) (by decide +kernel))
theorem lk_L_58 : Cond.methodLink RL 58 yX2_thrown ∈ lw_tbl := List.mem_append_right _ (List.mem_of_getElem? (i := 482) (by decide +kernel))
theorem im_X2_thrown : Cond.instanceMethod yX2_thrown ∈ lw_tbl := List.mem_append_right _ (List.mem_of_getElem? (i := 483) (by decide +kernel))
theorem sl_X2_thrown : Cond.selects yX2_thrown.cls yX2_thrown yX2_thrown ∈ lw_tbl := List.mem_append_right _ (List.mem_of_getElem? (i := 484) (by decide +kernel))
theorem cd_X2_thrown : Cond.code yX2_thrown cX2_thrown 1 (some .int) ∈ lw_tbl := List.mem_append_right _ (List.mem_of_getElem? (i := 485) (by decide +kernel))
theorem lk_L_57 : Cond.methodLink RL 57 yX2_come ∈ lw_tbl := List.mem_append_right _ (List.mem_of_getElem? (i := 486) (by decide +kernel))
theorem im_X2_come : Cond.instanceMethod yX2_come ∈ lw_tbl := List.mem_append_right _ (List.mem_of_getElem? (i := 487) (by decide +kernel))
theorem sl_X2_come : Cond.selects yX2_come.cls yX2_come yX2_come ∈ lw_tbl := List.mem_append_right _ (List.mem_of_getElem? (i := 488) (by decide +kernel))
theorem cd_X2_come : Cond.code yX2_come cX2_come 7 (some .int) ∈ lw_tbl := List.mem_append_right _ (List.mem_of_getElem? (i := 489) (by decide +kernel))
theorem lk_X2_100 : Cond.methodLink RX2 100 yX2_isRect ∈ lw_tbl := List.mem_append_right _ (List.mem_of_getElem? (i := 490) (by decide +kernel))
theorem stt_X2_isRect : Cond.static yX2_isRect ∈ lw_tbl := List.mem_append_right _ (List.mem_of_getElem? (i := 491) (by decide +kernel))
theorem cd_X2_isRect : Cond.code yX2_isRect cX2_isRect 4 (some .boolean) ∈ lw_tbl := List.mem_append_right _ (List.mem_of_getElem? (i := 492) (by decide +kernel))
theorem lk_X2_103 : Cond.methodLink RX2 103 yX2_no ∈ lw_tbl := List.mem_append_right _ (List.mem_of_getElem? (i := 493) (by decide +kernel))
theorem im_X2_no : Cond.instanceMethod yX2_no ∈ lw_tbl := List.mem_append_right _ (List.mem_of_getElem? (i := 495) (by decide +kernel))
theorem cd_X2_no : Cond.code yX2_no cX2_no 2 (some .int) ∈ lw_tbl := List.mem_append_right _ (List.mem_of_getElem? (i := 496) (by decide +kernel))
theorem lk_X2_106 : Cond.methodLink RX2 106 yX2_take ∈ lw_tbl := List.mem_append_right _ (List.mem_of_getElem? (i := 497) (by decide +kernel))
theorem im_X2_take : Cond.instanceMethod yX2_take ∈ lw_tbl := List.mem_append_right _ (List.mem_of_getElem? (i := 499) (by decide +kernel))
theorem cd_X2_take : Cond.code yX2_take cX2_take 5 none ∈ lw_tbl := List.mem_append_right _ (List.mem_of_getElem? (i := 500) (by decide +kernel))
theorem lk_X2_110 : Cond.methodLink RX2 110 yX2_goDown ∈ lw_tbl := List.mem_append_right _ (List.mem_of_getElem? (i := 501) (by decide +kernel))
theorem im_X2_goDown : Cond.instanceMethod yX2_goDown ∈ lw_tbl := List.mem_append_right _ (List.mem_of_getElem? (i := 503) (by decide +kernel))
theorem cd_X2_goDown : Cond.code yX2_goDown cX2_goDown 5 none ∈ lw_tbl := List.mem_append_right _ (List.mem_of_getElem? (i := 504) (by decide +kernel))
theorem lk_X2_44 : Cond.methodLink RX2 44 yX2_held ∈ lw_tbl := List.mem_append_right _ (List.mem_of_getElem? (i := 505) (by decide +kernel))
theorem im_X2_held : Cond.instanceMethod yX2_held ∈ lw_tbl := List.mem_append_right _ (List.mem_of_getElem? (i := 507) (by decide +kernel))
theorem cd_X2_held : Cond.code yX2_held cX2_held 3 (some .int) ∈ lw_tbl := List.mem_append_right _ (List.mem_of_getElem? (i := 508) (by decide +kernel))
theorem lk_X2_83 : Cond.methodLink RX2 83 yX2_growth ∈ lw_tbl := List.mem_append_right _ (List.mem_of_getElem? (i := 509) (by decide +kernel))
theorem im_X2_growth : Cond.instanceMethod yX2_growth ∈ lw_tbl := List.mem_append_right _ (List.mem_of_getElem? (i := 511) (by decide +kernel))
theorem cd_X2_growth : Cond.code yX2_growth cX2_growth 2 (some .int) ∈ lw_tbl := List.mem_append_right _ (List.mem_of_getElem? (i := 512) (by decide +kernel))
theorem lk_X2_66 : Cond.methodLink RX2 66 yX2_rectArea ∈ lw_tbl := List.mem_append_right _ (List.mem_of_getElem? (i := 513) (by decide +kernel))
theorem im_X2_rectArea : Cond.instanceMethod yX2_rectArea ∈ lw_tbl := List.mem_append_right _ (List.mem_of_getElem? (i := 515) (by decide +kernel))
theorem cd_X2_rectArea : Cond.code yX2_rectArea cX2_rectArea 1 (some .int) ∈ lw_tbl := List.mem_append_right _ (List.mem_of_getElem? (i := 516) (by decide +kernel))
theorem lk_X2_62 : Cond.methodLink RX2 62 yX2_area ∈ lw_tbl := List.mem_append_right _ (List.mem_of_getElem? (i := 517) (by decide +kernel))
theorem stt_X2_area : Cond.static yX2_area ∈ lw_tbl := List.mem_append_right _ (List.mem_of_getElem? (i := 518) (by decide +kernel))
theorem cd_X2_area : Cond.code yX2_area cX2_area 4 (some .int) ∈ lw_tbl := List.mem_append_right _ (List.mem_of_getElem? (i := 519) (by decide +kernel))
theorem lk_X2_47 : Cond.methodLink RX2 47 yX2_edge ∈ lw_tbl := List.mem_append_right _ (List.mem_of_getElem? (i := 520) (by decide +kernel))
theorem im_X2_edge : Cond.instanceMethod yX2_edge ∈ lw_tbl := List.mem_append_right _ (List.mem_of_getElem? (i := 522) (by decide +kernel))
theorem cd_X2_edge : Cond.code yX2_edge cX2_edge 6 (some .int) ∈ lw_tbl := List.mem_append_right _ (List.mem_of_getElem? (i := 523) (by decide +kernel))
theorem lk_X2_50 : Cond.methodLink RX2 50 yX2_edgeOf ∈ lw_tbl := List.mem_append_right _ (List.mem_of_getElem? (i := 524) (by decide +kernel))
theorem im_X2_edgeOf : Cond.instanceMethod yX2_edgeOf ∈ lw_tbl := List.mem_append_right _ (List.mem_of_getElem? (i := 526) (by decide +kernel))
theorem cd_X2_edgeOf : Cond.code yX2_edgeOf cX2_edgeOf 5 (some .int) ∈ lw_tbl := List.mem_append_right _ (List.mem_of_getElem? (i := 527) (by decide +kernel))
theorem lk_X2_54 : Cond.methodLink RX2 54 Lib.Math.min.name ∈ lw_tbl := List.mem_append_right _ (List.mem_of_getElem? (i := 528) (by decide +kernel))
theorem lk_X2_59 : Cond.methodLink RX2 59 Lib.Math.max.name ∈ lw_tbl := List.mem_append_right _ (List.mem_of_getElem? (i := 529) (by decide +kernel))
theorem lk_X2_70 : Cond.methodLink RX2 70 yX2_area_ ∈ lw_tbl := List.mem_append_right _ (List.mem_of_getElem? (i := 530) (by decide +kernel))
theorem im_X2_area_ : Cond.instanceMethod yX2_area_ ∈ lw_tbl := List.mem_append_right _ (List.mem_of_getElem? (i := 532) (by decide +kernel))
theorem cd_X2_area_ : Cond.code yX2_area_ cX2_area_ 2 (some .int) ∈ lw_tbl := List.mem_append_right _ (List.mem_of_getElem? (i := 533) (by decide +kernel))
theorem lk_X2_113 : Cond.methodLink RX2 113 arraycopyName ∈ lw_tbl := List.mem_append_right _ (List.mem_of_getElem? (i := 534) (by decide +kernel))
theorem stt_arraycopyName : Cond.static arraycopyName ∈ lw_tbl := List.mem_append_right _ (List.mem_of_getElem? (i := 535) (by decide +kernel))
theorem nat_arraycopyName : Cond.native arraycopyName ∈ lw_tbl := List.mem_append_right _ (List.mem_of_getElem? (i := 536) (by decide +kernel))
theorem lk_X2_93 : Cond.methodLink RX2 93 yX2_put ∈ lw_tbl := List.mem_append_right _ (List.mem_of_getElem? (i := 537) (by decide +kernel))
theorem im_X2_put : Cond.instanceMethod yX2_put ∈ lw_tbl := List.mem_append_right _ (List.mem_of_getElem? (i := 539) (by decide +kernel))
theorem cd_X2_put : Cond.code yX2_put cX2_put 5 none ∈ lw_tbl := List.mem_append_right _ (List.mem_of_getElem? (i := 540) (by decide +kernel))
theorem lk_X2_119 : Cond.methodLink RX2 119 yX2_splitOff ∈ lw_tbl := List.mem_append_right _ (List.mem_of_getElem? (i := 541) (by decide +kernel))
theorem im_X2_splitOff : Cond.instanceMethod yX2_splitOff ∈ lw_tbl := List.mem_append_right _ (List.mem_of_getElem? (i := 543) (by decide +kernel))
theorem cd_X2_splitOff : Cond.code yX2_splitOff cX2_splitOff 4 (some .int) ∈ lw_tbl := List.mem_append_right _ (List.mem_of_getElem? (i := 544) (by decide +kernel))
theorem lk_X2_86 : Cond.methodLink RX2 86 yX2_spread ∈ lw_tbl := List.mem_append_right _ (List.mem_of_getElem? (i := 545) (by decide +kernel))
theorem im_X2_spread : Cond.instanceMethod yX2_spread ∈ lw_tbl := List.mem_append_right _ (List.mem_of_getElem? (i := 547) (by decide +kernel))
theorem cd_X2_spread : Cond.code yX2_spread cX2_spread 6 (some .int) ∈ lw_tbl := List.mem_append_right _ (List.mem_of_getElem? (i := 548) (by decide +kernel))
theorem lk_X2_89 : Cond.methodLink RX2 89 yX2_sort ∈ lw_tbl := List.mem_append_right _ (List.mem_of_getElem? (i := 549) (by decide +kernel))
theorem im_X2_sort : Cond.instanceMethod yX2_sort ∈ lw_tbl := List.mem_append_right _ (List.mem_of_getElem? (i := 551) (by decide +kernel))
theorem cd_X2_sort : Cond.code yX2_sort cX2_sort 6 none ∈ lw_tbl := List.mem_append_right _ (List.mem_of_getElem? (i := 552) (by decide +kernel))
theorem lk_X2_122 : Cond.methodLink RX2 122 yX2_growTop ∈ lw_tbl := List.mem_append_right _ (List.mem_of_getElem? (i := 553) (by decide +kernel))
theorem im_X2_growTop : Cond.instanceMethod yX2_growTop ∈ lw_tbl := List.mem_append_right _ (List.mem_of_getElem? (i := 555) (by decide +kernel))
theorem cd_X2_growTop : Cond.code yX2_growTop cX2_growTop 2 none ∈ lw_tbl := List.mem_append_right _ (List.mem_of_getElem? (i := 556) (by decide +kernel))
theorem lk_L_65 : Cond.methodLink RL 65 yX2_go ∈ lw_tbl := List.mem_append_right _ (List.mem_of_getElem? (i := 557) (by decide +kernel))
theorem im_X2_go : Cond.instanceMethod yX2_go ∈ lw_tbl := List.mem_append_right _ (List.mem_of_getElem? (i := 558) (by decide +kernel))
theorem sl_X2_go : Cond.selects yX2_go.cls yX2_go yX2_go ∈ lw_tbl := List.mem_append_right _ (List.mem_of_getElem? (i := 559) (by decide +kernel))
theorem cd_X2_go : Cond.code yX2_go cX2_go 4 (some .int) ∈ lw_tbl := List.mem_append_right _ (List.mem_of_getElem? (i := 560) (by decide +kernel))
theorem lk_X2_128 : Cond.methodLink RX2 128 yX2_isAllotment ∈ lw_tbl := List.mem_append_right _ (List.mem_of_getElem? (i := 561) (by decide +kernel))
theorem im_X2_isAllotment : Cond.instanceMethod yX2_isAllotment ∈ lw_tbl := List.mem_append_right _ (List.mem_of_getElem? (i := 563) (by decide +kernel))
theorem cd_X2_isAllotment : Cond.code yX2_isAllotment cX2_isAllotment 2 (some .boolean) ∈ lw_tbl := List.mem_append_right _ (List.mem_of_getElem? (i := 564) (by decide +kernel))
theorem lk_X2_125 : Cond.methodLink RX2 125 yX2_find ∈ lw_tbl := List.mem_append_right _ (List.mem_of_getElem? (i := 565) (by decide +kernel))
theorem im_X2_find : Cond.instanceMethod yX2_find ∈ lw_tbl := List.mem_append_right _ (List.mem_of_getElem? (i := 567) (by decide +kernel))
theorem cd_X2_find : Cond.code yX2_find cX2_find 6 (some .int) ∈ lw_tbl := List.mem_append_right _ (List.mem_of_getElem? (i := 568) (by decide +kernel))
theorem lk_X2_132 : Cond.methodLink RX2 132 yX2_remove ∈ lw_tbl := List.mem_append_right _ (List.mem_of_getElem? (i := 569) (by decide +kernel))
theorem im_X2_remove : Cond.instanceMethod yX2_remove ∈ lw_tbl := List.mem_append_right _ (List.mem_of_getElem? (i := 571) (by decide +kernel))
theorem cd_X2_remove : Cond.code yX2_remove cX2_remove 4 none ∈ lw_tbl := List.mem_append_right _ (List.mem_of_getElem? (i := 572) (by decide +kernel))
theorem lk_X2_135 : Cond.methodLink RX2 135 yX2_areaOf ∈ lw_tbl := List.mem_append_right _ (List.mem_of_getElem? (i := 573) (by decide +kernel))
theorem im_X2_areaOf : Cond.instanceMethod yX2_areaOf ∈ lw_tbl := List.mem_append_right _ (List.mem_of_getElem? (i := 575) (by decide +kernel))
theorem cd_X2_areaOf : Cond.code yX2_areaOf cX2_areaOf 2 (some .int) ∈ lw_tbl := List.mem_append_right _ (List.mem_of_getElem? (i := 576) (by decide +kernel))
theorem lk_L_69 : Cond.methodLink RL 69 yX2_told ∈ lw_tbl := List.mem_append_right _ (List.mem_of_getElem? (i := 577) (by decide +kernel))
theorem im_X2_told : Cond.instanceMethod yX2_told ∈ lw_tbl := List.mem_append_right _ (List.mem_of_getElem? (i := 578) (by decide +kernel))
theorem sl_X2_told : Cond.selects yX2_told.cls yX2_told yX2_told ∈ lw_tbl := List.mem_append_right _ (List.mem_of_getElem? (i := 579) (by decide +kernel))
theorem cd_X2_told : Cond.code yX2_told cX2_told 3 (some .int) ∈ lw_tbl := List.mem_append_right _ (List.mem_of_getElem? (i := 580) (by decide +kernel))
theorem lk_X2_141 : Cond.methodLink RX2 141 yX2_allotmentTold ∈ lw_tbl := List.mem_append_right _ (List.mem_of_getElem? (i := 581) (by decide +kernel))
theorem im_X2_allotmentTold : Cond.instanceMethod yX2_allotmentTold ∈ lw_tbl := List.mem_append_right _ (List.mem_of_getElem? (i := 583) (by decide +kernel))
theorem cd_X2_allotmentTold : Cond.code yX2_allotmentTold cX2_allotmentTold 4 (some .int) ∈ lw_tbl := List.mem_append_right _ (List.mem_of_getElem? (i := 584) (by decide +kernel))
theorem lk_X2_138 : Cond.methodLink RX2 138 yX2_all ∈ lw_tbl := List.mem_append_right _ (List.mem_of_getElem? (i := 585) (by decide +kernel))
theorem im_X2_all : Cond.instanceMethod yX2_all ∈ lw_tbl := List.mem_append_right _ (List.mem_of_getElem? (i := 587) (by decide +kernel))
theorem cd_X2_all : Cond.code yX2_all cX2_all 3 (some .int) ∈ lw_tbl := List.mem_append_right _ (List.mem_of_getElem? (i := 588) (by decide +kernel))
theorem lk_X2_144 : Cond.methodLink RX2 144 yX2_meetsAllotment ∈ lw_tbl := List.mem_append_right _ (List.mem_of_getElem? (i := 589) (by decide +kernel))
theorem im_X2_meetsAllotment : Cond.instanceMethod yX2_meetsAllotment ∈ lw_tbl := List.mem_append_right _ (List.mem_of_getElem? (i := 591) (by decide +kernel))
theorem cd_X2_meetsAllotment : Cond.code yX2_meetsAllotment cX2_meetsAllotment 2 (some .boolean) ∈ lw_tbl := List.mem_append_right _ (List.mem_of_getElem? (i := 592) (by decide +kernel))
theorem lk_X2_73 : Cond.methodLink RX2 73 yX2_meets ∈ lw_tbl := List.mem_append_right _ (List.mem_of_getElem? (i := 593) (by decide +kernel))
theorem im_X2_meets : Cond.instanceMethod yX2_meets ∈ lw_tbl := List.mem_append_right _ (List.mem_of_getElem? (i := 595) (by decide +kernel))
theorem cd_X2_meets : Cond.code yX2_meets cX2_meets 5 (some .boolean) ∈ lw_tbl := List.mem_append_right _ (List.mem_of_getElem? (i := 596) (by decide +kernel))
theorem lk_L_72 : Cond.methodLink RL 72 yX2_way ∈ lw_tbl := List.mem_append_right _ (List.mem_of_getElem? (i := 597) (by decide +kernel))
theorem im_X2_way : Cond.instanceMethod yX2_way ∈ lw_tbl := List.mem_append_right _ (List.mem_of_getElem? (i := 598) (by decide +kernel))
theorem sl_X2_way : Cond.selects yX2_way.cls yX2_way yX2_way ∈ lw_tbl := List.mem_append_right _ (List.mem_of_getElem? (i := 599) (by decide +kernel))
theorem cd_X2_way : Cond.code yX2_way cX2_way 3 (some .int) ∈ lw_tbl := List.mem_append_right _ (List.mem_of_getElem? (i := 600) (by decide +kernel))
theorem lk_L_75 : Cond.methodLink RL 75 yX2_overlaps ∈ lw_tbl := List.mem_append_right _ (List.mem_of_getElem? (i := 601) (by decide +kernel))
theorem im_X2_overlaps : Cond.instanceMethod yX2_overlaps ∈ lw_tbl := List.mem_append_right _ (List.mem_of_getElem? (i := 602) (by decide +kernel))
theorem sl_X2_overlaps : Cond.selects yX2_overlaps.cls yX2_overlaps yX2_overlaps ∈ lw_tbl := List.mem_append_right _ (List.mem_of_getElem? (i := 603) (by decide +kernel))
theorem cd_X2_overlaps : Cond.code yX2_overlaps cX2_overlaps 5 (some .int) ∈ lw_tbl := List.mem_append_right _ (List.mem_of_getElem? (i := 604) (by decide +kernel))
theorem lk_L_78 : Cond.methodLink RL 78 yX2_looks ∈ lw_tbl := List.mem_append_right _ (List.mem_of_getElem? (i := 605) (by decide +kernel))
theorem im_X2_looks : Cond.instanceMethod yX2_looks ∈ lw_tbl := List.mem_append_right _ (List.mem_of_getElem? (i := 606) (by decide +kernel))
theorem sl_X2_looks : Cond.selects yX2_looks.cls yX2_looks yX2_looks ∈ lw_tbl := List.mem_append_right _ (List.mem_of_getElem? (i := 607) (by decide +kernel))
theorem cd_X2_looks : Cond.code yX2_looks cX2_looks 5 (some .int) ∈ lw_tbl := List.mem_append_right _ (List.mem_of_getElem? (i := 608) (by decide +kernel))
theorem lk_X2_150 : Cond.methodLink RX2 150 yX2_looksFrom ∈ lw_tbl := List.mem_append_right _ (List.mem_of_getElem? (i := 609) (by decide +kernel))
theorem im_X2_looksFrom : Cond.instanceMethod yX2_looksFrom ∈ lw_tbl := List.mem_append_right _ (List.mem_of_getElem? (i := 611) (by decide +kernel))
theorem cd_X2_looksFrom : Cond.code yX2_looksFrom cX2_looksFrom 4 (some .int) ∈ lw_tbl := List.mem_append_right _ (List.mem_of_getElem? (i := 612) (by decide +kernel))
theorem lk_X2_147 : Cond.methodLink RX2 147 yX2_meetsHedge ∈ lw_tbl := List.mem_append_right _ (List.mem_of_getElem? (i := 613) (by decide +kernel))
theorem im_X2_meetsHedge : Cond.instanceMethod yX2_meetsHedge ∈ lw_tbl := List.mem_append_right _ (List.mem_of_getElem? (i := 615) (by decide +kernel))
theorem cd_X2_meetsHedge : Cond.code yX2_meetsHedge cX2_meetsHedge 2 (some .boolean) ∈ lw_tbl := List.mem_append_right _ (List.mem_of_getElem? (i := 616) (by decide +kernel))
theorem lk_L_81 : Cond.methodLink RL 81 yX2_nearest ∈ lw_tbl := List.mem_append_right _ (List.mem_of_getElem? (i := 617) (by decide +kernel))
theorem im_X2_nearest : Cond.instanceMethod yX2_nearest ∈ lw_tbl := List.mem_append_right _ (List.mem_of_getElem? (i := 618) (by decide +kernel))
theorem sl_X2_nearest : Cond.selects yX2_nearest.cls yX2_nearest yX2_nearest ∈ lw_tbl := List.mem_append_right _ (List.mem_of_getElem? (i := 619) (by decide +kernel))
theorem cd_X2_nearest : Cond.code yX2_nearest cX2_nearest 5 (some .int) ∈ lw_tbl := List.mem_append_right _ (List.mem_of_getElem? (i := 620) (by decide +kernel))
theorem lk_X2_156 : Cond.methodLink RX2 156 yX2_farFrom ∈ lw_tbl := List.mem_append_right _ (List.mem_of_getElem? (i := 621) (by decide +kernel))
theorem im_X2_farFrom : Cond.instanceMethod yX2_farFrom ∈ lw_tbl := List.mem_append_right _ (List.mem_of_getElem? (i := 623) (by decide +kernel))
theorem cd_X2_farFrom : Cond.code yX2_farFrom cX2_farFrom 6 (some .int) ∈ lw_tbl := List.mem_append_right _ (List.mem_of_getElem? (i := 624) (by decide +kernel))
theorem lk_X2_153 : Cond.methodLink RX2 153 yX2_off ∈ lw_tbl := List.mem_append_right _ (List.mem_of_getElem? (i := 625) (by decide +kernel))
theorem stt_X2_off : Cond.static yX2_off ∈ lw_tbl := List.mem_append_right _ (List.mem_of_getElem? (i := 626) (by decide +kernel))
theorem cd_X2_off : Cond.code yX2_off cX2_off 3 (some .int) ∈ lw_tbl := List.mem_append_right _ (List.mem_of_getElem? (i := 627) (by decide +kernel))
theorem lk_L_84 : Cond.methodLink RL 84 yX2_count ∈ lw_tbl := List.mem_append_right _ (List.mem_of_getElem? (i := 628) (by decide +kernel))
theorem im_X2_count : Cond.instanceMethod yX2_count ∈ lw_tbl := List.mem_append_right _ (List.mem_of_getElem? (i := 629) (by decide +kernel))
theorem sl_X2_count : Cond.selects yX2_count.cls yX2_count yX2_count ∈ lw_tbl := List.mem_append_right _ (List.mem_of_getElem? (i := 630) (by decide +kernel))
theorem cd_X2_count : Cond.code yX2_count cX2_count 2 (some .int) ∈ lw_tbl := List.mem_append_right _ (List.mem_of_getElem? (i := 631) (by decide +kernel))
theorem lk_X2_165 : Cond.methodLink RX2 165 yX2_counted ∈ lw_tbl := List.mem_append_right _ (List.mem_of_getElem? (i := 632) (by decide +kernel))
theorem im_X2_counted : Cond.instanceMethod yX2_counted ∈ lw_tbl := List.mem_append_right _ (List.mem_of_getElem? (i := 634) (by decide +kernel))
theorem cd_X2_counted : Cond.code yX2_counted cX2_counted 2 (some .int) ∈ lw_tbl := List.mem_append_right _ (List.mem_of_getElem? (i := 635) (by decide +kernel))
theorem lk_X2_162 : Cond.methodLink RX2 162 yX2_heldNow ∈ lw_tbl := List.mem_append_right _ (List.mem_of_getElem? (i := 636) (by decide +kernel))
theorem im_X2_heldNow : Cond.instanceMethod yX2_heldNow ∈ lw_tbl := List.mem_append_right _ (List.mem_of_getElem? (i := 638) (by decide +kernel))
theorem cd_X2_heldNow : Cond.code yX2_heldNow cX2_heldNow 3 (some .int) ∈ lw_tbl := List.mem_append_right _ (List.mem_of_getElem? (i := 639) (by decide +kernel))
theorem lk_X2_159 : Cond.methodLink RX2 159 yX2_sum ∈ lw_tbl := List.mem_append_right _ (List.mem_of_getElem? (i := 640) (by decide +kernel))
theorem im_X2_sum : Cond.instanceMethod yX2_sum ∈ lw_tbl := List.mem_append_right _ (List.mem_of_getElem? (i := 642) (by decide +kernel))
theorem cd_X2_sum : Cond.code yX2_sum cX2_sum 7 (some .int) ∈ lw_tbl := List.mem_append_right _ (List.mem_of_getElem? (i := 643) (by decide +kernel))
theorem lk_L_87 : Cond.methodLink RL 87 yX2_grows ∈ lw_tbl := List.mem_append_right _ (List.mem_of_getElem? (i := 644) (by decide +kernel))
theorem im_X2_grows : Cond.instanceMethod yX2_grows ∈ lw_tbl := List.mem_append_right _ (List.mem_of_getElem? (i := 645) (by decide +kernel))
theorem sl_X2_grows : Cond.selects yX2_grows.cls yX2_grows yX2_grows ∈ lw_tbl := List.mem_append_right _ (List.mem_of_getElem? (i := 646) (by decide +kernel))
theorem cd_X2_grows : Cond.code yX2_grows cX2_grows 7 (some .int) ∈ lw_tbl := List.mem_append_right _ (List.mem_of_getElem? (i := 647) (by decide +kernel))
theorem lk_L_90 : Cond.methodLink RL 90 yX2_splits ∈ lw_tbl := List.mem_append_right _ (List.mem_of_getElem? (i := 648) (by decide +kernel))
theorem im_X2_splits : Cond.instanceMethod yX2_splits ∈ lw_tbl := List.mem_append_right _ (List.mem_of_getElem? (i := 649) (by decide +kernel))
theorem sl_X2_splits : Cond.selects yX2_splits.cls yX2_splits yX2_splits ∈ lw_tbl := List.mem_append_right _ (List.mem_of_getElem? (i := 650) (by decide +kernel))
theorem cd_X2_splits : Cond.code yX2_splits cX2_splits 7 (some .int) ∈ lw_tbl := List.mem_append_right _ (List.mem_of_getElem? (i := 651) (by decide +kernel))
theorem lk_L_95 : Cond.methodLink RL 95 yX2_mean ∈ lw_tbl := List.mem_append_right _ (List.mem_of_getElem? (i := 652) (by decide +kernel))
theorem im_X2_mean : Cond.instanceMethod yX2_mean ∈ lw_tbl := List.mem_append_right _ (List.mem_of_getElem? (i := 653) (by decide +kernel))
theorem sl_X2_mean : Cond.selects yX2_mean.cls yX2_mean yX2_mean ∈ lw_tbl := List.mem_append_right _ (List.mem_of_getElem? (i := 654) (by decide +kernel))
theorem cd_X2_mean : Cond.code yX2_mean cX2_mean 3 (some .double) ∈ lw_tbl := List.mem_append_right _ (List.mem_of_getElem? (i := 655) (by decide +kernel))
theorem lk_L_100 : Cond.methodLink RL 100 yX2_digest ∈ lw_tbl := List.mem_append_right _ (List.mem_of_getElem? (i := 656) (by decide +kernel))
theorem im_X2_digest : Cond.instanceMethod yX2_digest ∈ lw_tbl := List.mem_append_right _ (List.mem_of_getElem? (i := 657) (by decide +kernel))
theorem sl_X2_digest : Cond.selects yX2_digest.cls yX2_digest yX2_digest ∈ lw_tbl := List.mem_append_right _ (List.mem_of_getElem? (i := 658) (by decide +kernel))
theorem cd_X2_digest : Cond.code yX2_digest cX2_digest 5 (some .long) ∈ lw_tbl := List.mem_append_right _ (List.mem_of_getElem? (i := 659) (by decide +kernel))
theorem kl_X2_174 : Cond.constantLong RX2 174 (1303 : Int64) ∈ lw_tbl := List.mem_append_right _ (List.mem_of_getElem? (i := 660) (by decide +kernel))
theorem kl_X2_168 : Cond.constantLong RX2 168 (31 : Int64) ∈ lw_tbl := List.mem_append_right _ (List.mem_of_getElem? (i := 661) (by decide +kernel))
theorem lk_X2_170 : Cond.methodLink RX2 170 yX2_digestFrom ∈ lw_tbl := List.mem_append_right _ (List.mem_of_getElem? (i := 662) (by decide +kernel))
theorem im_X2_digestFrom : Cond.instanceMethod yX2_digestFrom ∈ lw_tbl := List.mem_append_right _ (List.mem_of_getElem? (i := 664) (by decide +kernel))
theorem cd_X2_digestFrom : Cond.code yX2_digestFrom cX2_digestFrom 7 (some .long) ∈ lw_tbl := List.mem_append_right _ (List.mem_of_getElem? (i := 665) (by decide +kernel))
theorem ac_long : Cond.arrayClass .long ∈ lw_tbl := List.mem_append_right _ (List.mem_of_getElem? (i := 666) (by decide +kernel))
theorem cw_X1_init : CWd yX1_init cX1_init 1 none 0 := ⟨cd_X1_init, ini_NestedFrames, ⟨by decide +kernel, by decide +kernel⟩, by decide +kernel⟩
theorem cw_X0_init_ : CWd yX0_init_ cX0_init_ 2 none 1 := ⟨cd_X0_init_, ini_NestedFrames_Piece, ⟨by decide +kernel, by decide +kernel⟩, by decide +kernel⟩
theorem cw_X1_mean : CWd yX1_mean cX1_mean 5 (some .double) 0 := ⟨cd_X1_mean, ini_NestedFrames, ⟨by decide +kernel, by decide +kernel⟩, by decide +kernel⟩
theorem cv_X1_mean : CWv yX1_mean := ⟨im_X1_mean, sl_X1_mean⟩
theorem cw_X1_heldOrNull : CWd yX1_heldOrNull cX1_heldOrNull 3 (some (.object "NestedFrames$Piece")) 1 := ⟨cd_X1_heldOrNull, ini_NestedFrames, ⟨by decide +kernel, by decide +kernel⟩, by decide +kernel⟩
theorem cv_X1_heldOrNull : CWv yX1_heldOrNull := ⟨im_X1_heldOrNull, sl_X1_heldOrNull⟩
theorem cw_X1_allotmentOrNull : CWd yX1_allotmentOrNull cX1_allotmentOrNull 2 (some (.object "NestedFrames$Piece")) 1 := ⟨cd_X1_allotmentOrNull, ini_NestedFrames, ⟨by decide +kernel, by decide +kernel⟩, by decide +kernel⟩
theorem cv_X1_allotmentOrNull : CWv yX1_allotmentOrNull := ⟨im_X1_allotmentOrNull, sl_X1_allotmentOrNull⟩
theorem cw_X0_area : CWd yX0_area cX0_area 1 (some .int) 0 := ⟨cd_X0_area, ini_NestedFrames_Piece, ⟨by decide +kernel, by decide +kernel⟩, by decide +kernel⟩
theorem cv_X0_area : CWv yX0_area := ⟨im_X0_area, sl_X0_area⟩
theorem cw_X1_digest : CWd yX1_digest cX1_digest 6 (some .long) 0 := ⟨cd_X1_digest, ini_NestedFrames, ⟨by decide +kernel, by decide +kernel⟩, by decide +kernel⟩
theorem cv_X1_digest : CWv yX1_digest := ⟨im_X1_digest, sl_X1_digest⟩
theorem cw_X1_counted : CWd yX1_counted cX1_counted 2 (some .int) 1 := ⟨cd_X1_counted, ini_NestedFrames, ⟨by decide +kernel, by decide +kernel⟩, by decide +kernel⟩
theorem cv_X1_counted : CWv yX1_counted := ⟨im_X1_counted, sl_X1_counted⟩
theorem cw_X1_heldInAll : CWd yX1_heldInAll cX1_heldInAll 3 (some .int) 0 := ⟨cd_X1_heldInAll, ini_NestedFrames, ⟨by decide +kernel, by decide +kernel⟩, by decide +kernel⟩
theorem cv_X1_heldInAll : CWv yX1_heldInAll := ⟨im_X1_heldInAll, sl_X1_heldInAll⟩
theorem cw_X1_framesIn : CWd yX1_framesIn cX1_framesIn 5 (some .int) 2 := ⟨cd_X1_framesIn, ini_NestedFrames, ⟨by decide +kernel, by decide +kernel⟩, by decide +kernel⟩
theorem cw_X1_isBottom : CWd yX1_isBottom cX1_isBottom 2 (some .boolean) 2 := ⟨cd_X1_isBottom, ini_NestedFrames, ⟨by decide +kernel, by decide +kernel⟩, by decide +kernel⟩
theorem cw_X0_at : CWd yX0_at cX0_at 2 (some (.object "NestedFrames$Piece")) 1 := ⟨cd_X0_at, ini_NestedFrames_Piece, ⟨by decide +kernel, by decide +kernel⟩, by decide +kernel⟩
theorem cv_X0_at : CWv yX0_at := ⟨im_X0_at, sl_X0_at⟩
theorem cw_X1_hedgeAreasIn : CWd yX1_hedgeAreasIn cX1_hedgeAreasIn 5 (some .int) 2 := ⟨cd_X1_hedgeAreasIn, ini_NestedFrames, ⟨by decide +kernel, by decide +kernel⟩, by decide +kernel⟩
theorem cw_X1_meetingPairsIn : CWd yX1_meetingPairsIn cX1_meetingPairsIn 5 (some .int) 2 := ⟨cd_X1_meetingPairsIn, ini_NestedFrames, ⟨by decide +kernel, by decide +kernel⟩, by decide +kernel⟩
theorem cw_X1_meetingsBehind : CWd yX1_meetingsBehind cX1_meetingsBehind 6 (some .int) 3 := ⟨cd_X1_meetingsBehind, ini_NestedFrames, ⟨by decide +kernel, by decide +kernel⟩, by decide +kernel⟩
theorem cw_X0_meets : CWd yX0_meets cX0_meets 2 (some .boolean) 1 := ⟨cd_X0_meets, ini_NestedFrames_Piece, ⟨by decide +kernel, by decide +kernel⟩, by decide +kernel⟩
theorem cv_X0_meets : CWv yX0_meets := ⟨im_X0_meets, sl_X0_meets⟩
theorem cw_X1_answerOf : CWd yX1_answerOf cX1_answerOf 4 (some .int) 2 := ⟨cd_X1_answerOf, ini_NestedFrames, ⟨by decide +kernel, by decide +kernel⟩, by decide +kernel⟩
theorem cv_X1_answerOf : CWv yX1_answerOf := ⟨im_X1_answerOf, sl_X1_answerOf⟩
theorem cw_X1_placeBesideOthers : CWd yX1_placeBesideOthers cX1_placeBesideOthers 1 (some .int) 1 := ⟨cd_X1_placeBesideOthers, ini_NestedFrames, ⟨by decide +kernel, by decide +kernel⟩, by decide +kernel⟩
theorem cw_X0_placeOf : CWd yX0_placeOf cX0_placeOf 3 (some .int) 1 := ⟨cd_X0_placeOf, ini_NestedFrames_Piece, ⟨by decide +kernel, by decide +kernel⟩, by decide +kernel⟩
theorem cv_X0_placeOf : CWv yX0_placeOf := ⟨im_X0_placeOf, sl_X0_placeOf⟩
theorem cw_X1_othersThatMeet : CWd yX1_othersThatMeet cX1_othersThatMeet 3 (some .int) 1 := ⟨cd_X1_othersThatMeet, ini_NestedFrames, ⟨by decide +kernel, by decide +kernel⟩, by decide +kernel⟩
theorem cv_X1_othersThatMeet : CWv yX1_othersThatMeet := ⟨im_X1_othersThatMeet, sl_X1_othersThatMeet⟩
theorem cw_X1_heldThatMeet : CWd yX1_heldThatMeet cX1_heldThatMeet 5 (some .int) 1 := ⟨cd_X1_heldThatMeet, ini_NestedFrames, ⟨by decide +kernel, by decide +kernel⟩, by decide +kernel⟩
theorem cv_X1_heldThatMeet : CWv yX1_heldThatMeet := ⟨im_X1_heldThatMeet, sl_X1_heldThatMeet⟩
theorem cw_X1_digestOfFrames : CWd yX1_digestOfFrames cX1_digestOfFrames 8 (some .long) 3 := ⟨cd_X1_digestOfFrames, ini_NestedFrames, ⟨by decide +kernel, by decide +kernel⟩, by decide +kernel⟩
theorem cw_X1_digestOfFrame : CWd yX1_digestOfFrame cX1_digestOfFrame 6 (some .long) 2 := ⟨cd_X1_digestOfFrame, ini_NestedFrames, ⟨by decide +kernel, by decide +kernel⟩, by decide +kernel⟩
theorem cw_X1_come : CWd yX1_come cX1_come 7 (some .int) 4 := ⟨cd_X1_come, ini_NestedFrames, ⟨by decide +kernel, by decide +kernel⟩, by decide +kernel⟩
theorem cv_X1_come : CWv yX1_come := ⟨im_X1_come, sl_X1_come⟩
theorem cw_X1_isRectangle : CWd yX1_isRectangle cX1_isRectangle 4 (some .boolean) 4 := ⟨cd_X1_isRectangle, ini_NestedFrames, ⟨by decide +kernel, by decide +kernel⟩, by decide +kernel⟩
theorem cw_X0_init : CWd yX0_init cX0_init 6 none 5 := ⟨cd_X0_init, ini_NestedFrames_Piece, ⟨by decide +kernel, by decide +kernel⟩, by decide +kernel⟩
theorem cw_X1_frameFor : CWd yX1_frameFor cX1_frameFor 5 (some (.object "NestedFrames$Piece")) 1 := ⟨cd_X1_frameFor, ini_NestedFrames, ⟨by decide +kernel, by decide +kernel⟩, by decide +kernel⟩
theorem cv_X1_frameFor : CWv yX1_frameFor := ⟨im_X1_frameFor, sl_X1_frameFor⟩
theorem cw_X1_leastGrowing : CWd yX1_leastGrowing cX1_leastGrowing 5 (some (.object "NestedFrames$Piece")) 2 := ⟨cd_X1_leastGrowing, ini_NestedFrames, ⟨by decide +kernel, by decide +kernel⟩, by decide +kernel⟩
theorem cw_X1_isBetterFor : CWd yX1_isBetterFor cX1_isBetterFor 5 (some .boolean) 3 := ⟨cd_X1_isBetterFor, ini_NestedFrames, ⟨by decide +kernel, by decide +kernel⟩, by decide +kernel⟩
theorem cw_X0_growthFor : CWd yX0_growthFor cX0_growthFor 4 (some .int) 1 := ⟨cd_X0_growthFor, ini_NestedFrames_Piece, ⟨by decide +kernel, by decide +kernel⟩, by decide +kernel⟩
theorem cv_X0_growthFor : CWv yX0_growthFor := ⟨im_X0_growthFor, sl_X0_growthFor⟩
theorem cw_X0_append : CWd yX0_append cX0_append 2 none 1 := ⟨cd_X0_append, ini_NestedFrames_Piece, ⟨by decide +kernel, by decide +kernel⟩, by decide +kernel⟩
theorem cv_X0_append : CWv yX0_append := ⟨im_X0_append, sl_X0_append⟩
theorem cw_X0_insert : CWd yX0_insert cX0_insert 4 none 2 := ⟨cd_X0_insert, ini_NestedFrames_Piece, ⟨by decide +kernel, by decide +kernel⟩, by decide +kernel⟩
theorem cv_X0_insert : CWv yX0_insert := ⟨im_X0_insert, sl_X0_insert⟩
theorem cw_X1_splitCrowdedAndTighten : CWd yX1_splitCrowdedAndTighten cX1_splitCrowdedAndTighten 4 none 1 := ⟨cd_X1_splitCrowdedAndTighten, ini_NestedFrames, ⟨by decide +kernel, by decide +kernel⟩, by decide +kernel⟩
theorem cv_X1_splitCrowdedAndTighten : CWv yX1_splitCrowdedAndTighten := ⟨im_X1_splitCrowdedAndTighten, sl_X1_splitCrowdedAndTighten⟩
theorem cw_X1_split : CWd yX1_split cX1_split 6 none 1 := ⟨cd_X1_split, ini_NestedFrames, ⟨by decide +kernel, by decide +kernel⟩, by decide +kernel⟩
theorem cv_X1_split : CWv yX1_split := ⟨im_X1_split, sl_X1_split⟩
theorem cw_X1_raiseTop : CWd yX1_raiseTop cX1_raiseTop 2 none 0 := ⟨cd_X1_raiseTop, ini_NestedFrames, ⟨by decide +kernel, by decide +kernel⟩, by decide +kernel⟩
theorem cv_X1_raiseTop : CWv yX1_raiseTop := ⟨im_X1_raiseTop, sl_X1_raiseTop⟩
theorem cw_X0_splitsAlongX : CWd yX0_splitsAlongX cX0_splitsAlongX 1 (some .boolean) 0 := ⟨cd_X0_splitsAlongX, ini_NestedFrames_Piece, ⟨by decide +kernel, by decide +kernel⟩, by decide +kernel⟩
theorem cv_X0_splitsAlongX : CWv yX0_splitsAlongX := ⟨im_X0_splitsAlongX, sl_X0_splitsAlongX⟩
theorem cw_X0_spreadOfLowerEdges : CWd yX0_spreadOfLowerEdges cX0_spreadOfLowerEdges 6 (some .int) 1 := ⟨cd_X0_spreadOfLowerEdges, ini_NestedFrames_Piece, ⟨by decide +kernel, by decide +kernel⟩, by decide +kernel⟩
theorem cv_X0_spreadOfLowerEdges : CWv yX0_spreadOfLowerEdges := ⟨im_X0_spreadOfLowerEdges, sl_X0_spreadOfLowerEdges⟩
theorem cw_X0_lowerEdgeAt : CWd yX0_lowerEdgeAt cX0_lowerEdgeAt 4 (some .int) 2 := ⟨cd_X0_lowerEdgeAt, ini_NestedFrames_Piece, ⟨by decide +kernel, by decide +kernel⟩, by decide +kernel⟩
theorem cv_X0_lowerEdgeAt : CWv yX0_lowerEdgeAt := ⟨im_X0_lowerEdgeAt, sl_X0_lowerEdgeAt⟩
theorem cw_X0_lowerEdge : CWd yX0_lowerEdge cX0_lowerEdge 2 (some .int) 1 := ⟨cd_X0_lowerEdge, ini_NestedFrames_Piece, ⟨by decide +kernel, by decide +kernel⟩, by decide +kernel⟩
theorem cv_X0_lowerEdge : CWv yX0_lowerEdge := ⟨im_X0_lowerEdge, sl_X0_lowerEdge⟩
theorem cw_X0_sortByLowerEdges : CWd yX0_sortByLowerEdges cX0_sortByLowerEdges 6 none 1 := ⟨cd_X0_sortByLowerEdges, ini_NestedFrames_Piece, ⟨by decide +kernel, by decide +kernel⟩, by decide +kernel⟩
theorem cv_X0_sortByLowerEdges : CWv yX0_sortByLowerEdges := ⟨im_X0_sortByLowerEdges, sl_X0_sortByLowerEdges⟩
theorem cw_X0_takeOut : CWd yX0_takeOut cX0_takeOut 4 (some (.object "NestedFrames$Piece")) 1 := ⟨cd_X0_takeOut, ini_NestedFrames_Piece, ⟨by decide +kernel, by decide +kernel⟩, by decide +kernel⟩
theorem cv_X0_takeOut : CWv yX0_takeOut := ⟨im_X0_takeOut, sl_X0_takeOut⟩
theorem cw_X0_tighten : CWd yX0_tighten cX0_tighten 4 none 0 := ⟨cd_X0_tighten, ini_NestedFrames_Piece, ⟨by decide +kernel, by decide +kernel⟩, by decide +kernel⟩
theorem cv_X0_tighten : CWv yX0_tighten := ⟨im_X0_tighten, sl_X0_tighten⟩
theorem cw_X0_widenTo : CWd yX0_widenTo cX0_widenTo 2 none 1 := ⟨cd_X0_widenTo, ini_NestedFrames_Piece, ⟨by decide +kernel, by decide +kernel⟩, by decide +kernel⟩
theorem cv_X0_widenTo : CWv yX0_widenTo := ⟨im_X0_widenTo, sl_X0_widenTo⟩
theorem cw_X1_go : CWd yX1_go cX1_go 4 (some .int) 1 := ⟨cd_X1_go, ini_NestedFrames, ⟨by decide +kernel, by decide +kernel⟩, by decide +kernel⟩
theorem cv_X1_go : CWv yX1_go := ⟨im_X1_go, sl_X1_go⟩
theorem cw_X1_dropEmptyAndTighten : CWd yX1_dropEmptyAndTighten cX1_dropEmptyAndTighten 3 none 1 := ⟨cd_X1_dropEmptyAndTighten, ini_NestedFrames, ⟨by decide +kernel, by decide +kernel⟩, by decide +kernel⟩
theorem cw_X1_lowerTop : CWd yX1_lowerTop cX1_lowerTop 3 none 0 := ⟨cd_X1_lowerTop, ini_NestedFrames, ⟨by decide +kernel, by decide +kernel⟩, by decide +kernel⟩
theorem cv_X1_lowerTop : CWv yX1_lowerTop := ⟨im_X1_lowerTop, sl_X1_lowerTop⟩
theorem cw_X1_told : CWd yX1_told cX1_told 4 (some .int) 2 := ⟨cd_X1_told, ini_NestedFrames, ⟨by decide +kernel, by decide +kernel⟩, by decide +kernel⟩
theorem cv_X1_told : CWv yX1_told := ⟨im_X1_told, sl_X1_told⟩
theorem cw_X1_isQuestion : CWd yX1_isQuestion cX1_isQuestion 1 (some .boolean) 1 := ⟨cd_X1_isQuestion, ini_NestedFrames, ⟨by decide +kernel, by decide +kernel⟩, by decide +kernel⟩
theorem cw_X1_way : CWd yX1_way cX1_way 6 (some .int) 2 := ⟨cd_X1_way, ini_NestedFrames, ⟨by decide +kernel, by decide +kernel⟩, by decide +kernel⟩
theorem cv_X1_way : CWv yX1_way := ⟨im_X1_way, sl_X1_way⟩
theorem cw_X1_overlaps : CWd yX1_overlaps cX1_overlaps 5 (some .int) 4 := ⟨cd_X1_overlaps, ini_NestedFrames, ⟨by decide +kernel, by decide +kernel⟩, by decide +kernel⟩
theorem cv_X1_overlaps : CWv yX1_overlaps := ⟨im_X1_overlaps, sl_X1_overlaps⟩
theorem cw_X1_looks : CWd yX1_looks cX1_looks 5 (some .int) 4 := ⟨cd_X1_looks, ini_NestedFrames, ⟨by decide +kernel, by decide +kernel⟩, by decide +kernel⟩
theorem cv_X1_looks : CWv yX1_looks := ⟨im_X1_looks, sl_X1_looks⟩
theorem cw_X1_framesLookedAt : CWd yX1_framesLookedAt cX1_framesLookedAt 6 (some .int) 3 := ⟨cd_X1_framesLookedAt, ini_NestedFrames, ⟨by decide +kernel, by decide +kernel⟩, by decide +kernel⟩
theorem cw_X1_nearest : CWd yX1_nearest cX1_nearest 6 (some .int) 2 := ⟨cd_X1_nearest, ini_NestedFrames, ⟨by decide +kernel, by decide +kernel⟩, by decide +kernel⟩
theorem cv_X1_nearest : CWv yX1_nearest := ⟨im_X1_nearest, sl_X1_nearest⟩
theorem cw_X0_squaredDistance : CWd yX0_squaredDistance cX0_squaredDistance 5 (some .int) 2 := ⟨cd_X0_squaredDistance, ini_NestedFrames_Piece, ⟨by decide +kernel, by decide +kernel⟩, by decide +kernel⟩
theorem cv_X0_squaredDistance : CWv yX0_squaredDistance := ⟨im_X0_squaredDistance, sl_X0_squaredDistance⟩
theorem cw_X1_count : CWd yX1_count cX1_count 2 (some .int) 1 := ⟨cd_X1_count, ini_NestedFrames, ⟨by decide +kernel, by decide +kernel⟩, by decide +kernel⟩
theorem cv_X1_count : CWv yX1_count := ⟨im_X1_count, sl_X1_count⟩
theorem cw_X1_grows : CWd yX1_grows cX1_grows 8 (some .int) 4 := ⟨cd_X1_grows, ini_NestedFrames, ⟨by decide +kernel, by decide +kernel⟩, by decide +kernel⟩
theorem cv_X1_grows : CWv yX1_grows := ⟨im_X1_grows, sl_X1_grows⟩
theorem cw_X1_splits : CWd yX1_splits cX1_splits 7 (some .int) 4 := ⟨cd_X1_splits, ini_NestedFrames, ⟨by decide +kernel, by decide +kernel⟩, by decide +kernel⟩
theorem cv_X1_splits : CWv yX1_splits := ⟨im_X1_splits, sl_X1_splits⟩
theorem cw_X2_init : CWd yX2_init cX2_init 1 none 0 := ⟨cd_X2_init, ini_NestedFramesModel, ⟨by decide +kernel, by decide +kernel⟩, by decide +kernel⟩
theorem cw_X2_thrown : CWd yX2_thrown cX2_thrown 1 (some .int) 0 := ⟨cd_X2_thrown, ini_NestedFramesModel, ⟨by decide +kernel, by decide +kernel⟩, by decide +kernel⟩
theorem cv_X2_thrown : CWv yX2_thrown := ⟨im_X2_thrown, sl_X2_thrown⟩
theorem cw_X2_come : CWd yX2_come cX2_come 7 (some .int) 4 := ⟨cd_X2_come, ini_NestedFramesModel, ⟨by decide +kernel, by decide +kernel⟩, by decide +kernel⟩
theorem cv_X2_come : CWv yX2_come := ⟨im_X2_come, sl_X2_come⟩
theorem cw_X2_isRect : CWd yX2_isRect cX2_isRect 4 (some .boolean) 4 := ⟨cd_X2_isRect, ini_NestedFramesModel, ⟨by decide +kernel, by decide +kernel⟩, by decide +kernel⟩
theorem cw_X2_no : CWd yX2_no cX2_no 2 (some .int) 1 := ⟨cd_X2_no, ini_NestedFramesModel, ⟨by decide +kernel, by decide +kernel⟩, by decide +kernel⟩
theorem cv_X2_no : CWv yX2_no := ⟨im_X2_no, sl_X2_no⟩
theorem cw_X2_take : CWd yX2_take cX2_take 5 none 4 := ⟨cd_X2_take, ini_NestedFramesModel, ⟨by decide +kernel, by decide +kernel⟩, by decide +kernel⟩
theorem cv_X2_take : CWv yX2_take := ⟨im_X2_take, sl_X2_take⟩
theorem cw_X2_goDown : CWd yX2_goDown cX2_goDown 5 none 0 := ⟨cd_X2_goDown, ini_NestedFramesModel, ⟨by decide +kernel, by decide +kernel⟩, by decide +kernel⟩
theorem cv_X2_goDown : CWv yX2_goDown := ⟨im_X2_goDown, sl_X2_goDown⟩
theorem cw_X2_held : CWd yX2_held cX2_held 3 (some .int) 2 := ⟨cd_X2_held, ini_NestedFramesModel, ⟨by decide +kernel, by decide +kernel⟩, by decide +kernel⟩
theorem cv_X2_held : CWv yX2_held := ⟨im_X2_held, sl_X2_held⟩
theorem cw_X2_growth : CWd yX2_growth cX2_growth 2 (some .int) 1 := ⟨cd_X2_growth, ini_NestedFramesModel, ⟨by decide +kernel, by decide +kernel⟩, by decide +kernel⟩
theorem cv_X2_growth : CWv yX2_growth := ⟨im_X2_growth, sl_X2_growth⟩
theorem cw_X2_rectArea : CWd yX2_rectArea cX2_rectArea 1 (some .int) 0 := ⟨cd_X2_rectArea, ini_NestedFramesModel, ⟨by decide +kernel, by decide +kernel⟩, by decide +kernel⟩
theorem cv_X2_rectArea : CWv yX2_rectArea := ⟨im_X2_rectArea, sl_X2_rectArea⟩
theorem cw_X2_area : CWd yX2_area cX2_area 4 (some .int) 4 := ⟨cd_X2_area, ini_NestedFramesModel, ⟨by decide +kernel, by decide +kernel⟩, by decide +kernel⟩
theorem cw_X2_edge : CWd yX2_edge cX2_edge 6 (some .int) 2 := ⟨cd_X2_edge, ini_NestedFramesModel, ⟨by decide +kernel, by decide +kernel⟩, by decide +kernel⟩
theorem cv_X2_edge : CWv yX2_edge := ⟨im_X2_edge, sl_X2_edge⟩
theorem cw_X2_edgeOf : CWd yX2_edgeOf cX2_edgeOf 5 (some .int) 3 := ⟨cd_X2_edgeOf, ini_NestedFramesModel, ⟨by decide +kernel, by decide +kernel⟩, by decide +kernel⟩
theorem cv_X2_edgeOf : CWv yX2_edgeOf := ⟨im_X2_edgeOf, sl_X2_edgeOf⟩
theorem cw_X2_area_ : CWd yX2_area_ cX2_area_ 2 (some .int) 1 := ⟨cd_X2_area_, ini_NestedFramesModel, ⟨by decide +kernel, by decide +kernel⟩, by decide +kernel⟩
theorem cv_X2_area_ : CWv yX2_area_ := ⟨im_X2_area_, sl_X2_area_⟩
theorem cw_X2_put : CWd yX2_put cX2_put 5 none 3 := ⟨cd_X2_put, ini_NestedFramesModel, ⟨by decide +kernel, by decide +kernel⟩, by decide +kernel⟩
theorem cv_X2_put : CWv yX2_put := ⟨im_X2_put, sl_X2_put⟩
theorem cw_X2_splitOff : CWd yX2_splitOff cX2_splitOff 4 (some .int) 1 := ⟨cd_X2_splitOff, ini_NestedFramesModel, ⟨by decide +kernel, by decide +kernel⟩, by decide +kernel⟩
theorem cv_X2_splitOff : CWv yX2_splitOff := ⟨im_X2_splitOff, sl_X2_splitOff⟩
theorem cw_X2_spread : CWd yX2_spread cX2_spread 6 (some .int) 2 := ⟨cd_X2_spread, ini_NestedFramesModel, ⟨by decide +kernel, by decide +kernel⟩, by decide +kernel⟩
theorem cv_X2_spread : CWv yX2_spread := ⟨im_X2_spread, sl_X2_spread⟩
theorem cw_X2_sort : CWd yX2_sort cX2_sort 6 none 2 := ⟨cd_X2_sort, ini_NestedFramesModel, ⟨by decide +kernel, by decide +kernel⟩, by decide +kernel⟩
theorem cv_X2_sort : CWv yX2_sort := ⟨im_X2_sort, sl_X2_sort⟩
theorem cw_X2_growTop : CWd yX2_growTop cX2_growTop 2 none 0 := ⟨cd_X2_growTop, ini_NestedFramesModel, ⟨by decide +kernel, by decide +kernel⟩, by decide +kernel⟩
theorem cv_X2_growTop : CWv yX2_growTop := ⟨im_X2_growTop, sl_X2_growTop⟩
theorem cw_X2_go : CWd yX2_go cX2_go 4 (some .int) 1 := ⟨cd_X2_go, ini_NestedFramesModel, ⟨by decide +kernel, by decide +kernel⟩, by decide +kernel⟩
theorem cv_X2_go : CWv yX2_go := ⟨im_X2_go, sl_X2_go⟩
theorem cw_X2_isAllotment : CWd yX2_isAllotment cX2_isAllotment 2 (some .boolean) 1 := ⟨cd_X2_isAllotment, ini_NestedFramesModel, ⟨by decide +kernel, by decide +kernel⟩, by decide +kernel⟩
theorem cv_X2_isAllotment : CWv yX2_isAllotment := ⟨im_X2_isAllotment, sl_X2_isAllotment⟩
theorem cw_X2_find : CWd yX2_find cX2_find 6 (some .int) 3 := ⟨cd_X2_find, ini_NestedFramesModel, ⟨by decide +kernel, by decide +kernel⟩, by decide +kernel⟩
theorem cv_X2_find : CWv yX2_find := ⟨im_X2_find, sl_X2_find⟩
theorem cw_X2_remove : CWd yX2_remove cX2_remove 4 none 2 := ⟨cd_X2_remove, ini_NestedFramesModel, ⟨by decide +kernel, by decide +kernel⟩, by decide +kernel⟩
theorem cv_X2_remove : CWv yX2_remove := ⟨im_X2_remove, sl_X2_remove⟩
theorem cw_X2_areaOf : CWd yX2_areaOf cX2_areaOf 2 (some .int) 1 := ⟨cd_X2_areaOf, ini_NestedFramesModel, ⟨by decide +kernel, by decide +kernel⟩, by decide +kernel⟩
theorem cv_X2_areaOf : CWv yX2_areaOf := ⟨im_X2_areaOf, sl_X2_areaOf⟩
theorem cw_X2_told : CWd yX2_told cX2_told 3 (some .int) 2 := ⟨cd_X2_told, ini_NestedFramesModel, ⟨by decide +kernel, by decide +kernel⟩, by decide +kernel⟩
theorem cv_X2_told : CWv yX2_told := ⟨im_X2_told, sl_X2_told⟩
theorem cw_X2_allotmentTold : CWd yX2_allotmentTold cX2_allotmentTold 4 (some .int) 2 := ⟨cd_X2_allotmentTold, ini_NestedFramesModel, ⟨by decide +kernel, by decide +kernel⟩, by decide +kernel⟩
theorem cv_X2_allotmentTold : CWv yX2_allotmentTold := ⟨im_X2_allotmentTold, sl_X2_allotmentTold⟩
theorem cw_X2_all : CWd yX2_all cX2_all 3 (some .int) 0 := ⟨cd_X2_all, ini_NestedFramesModel, ⟨by decide +kernel, by decide +kernel⟩, by decide +kernel⟩
theorem cv_X2_all : CWv yX2_all := ⟨im_X2_all, sl_X2_all⟩
theorem cw_X2_meetsAllotment : CWd yX2_meetsAllotment cX2_meetsAllotment 2 (some .boolean) 1 := ⟨cd_X2_meetsAllotment, ini_NestedFramesModel, ⟨by decide +kernel, by decide +kernel⟩, by decide +kernel⟩
theorem cv_X2_meetsAllotment : CWv yX2_meetsAllotment := ⟨im_X2_meetsAllotment, sl_X2_meetsAllotment⟩
theorem cw_X2_meets : CWd yX2_meets cX2_meets 5 (some .boolean) 4 := ⟨cd_X2_meets, ini_NestedFramesModel, ⟨by decide +kernel, by decide +kernel⟩, by decide +kernel⟩
theorem cv_X2_meets : CWv yX2_meets := ⟨im_X2_meets, sl_X2_meets⟩
theorem cw_X2_way : CWd yX2_way cX2_way 3 (some .int) 2 := ⟨cd_X2_way, ini_NestedFramesModel, ⟨by decide +kernel, by decide +kernel⟩, by decide +kernel⟩
theorem cv_X2_way : CWv yX2_way := ⟨im_X2_way, sl_X2_way⟩
theorem cw_X2_overlaps : CWd yX2_overlaps cX2_overlaps 5 (some .int) 4 := ⟨cd_X2_overlaps, ini_NestedFramesModel, ⟨by decide +kernel, by decide +kernel⟩, by decide +kernel⟩
theorem cv_X2_overlaps : CWv yX2_overlaps := ⟨im_X2_overlaps, sl_X2_overlaps⟩
theorem cw_X2_looks : CWd yX2_looks cX2_looks 5 (some .int) 4 := ⟨cd_X2_looks, ini_NestedFramesModel, ⟨by decide +kernel, by decide +kernel⟩, by decide +kernel⟩
theorem cv_X2_looks : CWv yX2_looks := ⟨im_X2_looks, sl_X2_looks⟩
theorem cw_X2_looksFrom : CWd yX2_looksFrom cX2_looksFrom 4 (some .int) 1 := ⟨cd_X2_looksFrom, ini_NestedFramesModel, ⟨by decide +kernel, by decide +kernel⟩, by decide +kernel⟩
theorem cv_X2_looksFrom : CWv yX2_looksFrom := ⟨im_X2_looksFrom, sl_X2_looksFrom⟩
theorem cw_X2_meetsHedge : CWd yX2_meetsHedge cX2_meetsHedge 2 (some .boolean) 1 := ⟨cd_X2_meetsHedge, ini_NestedFramesModel, ⟨by decide +kernel, by decide +kernel⟩, by decide +kernel⟩
theorem cv_X2_meetsHedge : CWv yX2_meetsHedge := ⟨im_X2_meetsHedge, sl_X2_meetsHedge⟩
theorem cw_X2_nearest : CWd yX2_nearest cX2_nearest 5 (some .int) 2 := ⟨cd_X2_nearest, ini_NestedFramesModel, ⟨by decide +kernel, by decide +kernel⟩, by decide +kernel⟩
theorem cv_X2_nearest : CWv yX2_nearest := ⟨im_X2_nearest, sl_X2_nearest⟩
theorem cw_X2_farFrom : CWd yX2_farFrom cX2_farFrom 6 (some .int) 3 := ⟨cd_X2_farFrom, ini_NestedFramesModel, ⟨by decide +kernel, by decide +kernel⟩, by decide +kernel⟩
theorem cv_X2_farFrom : CWv yX2_farFrom := ⟨im_X2_farFrom, sl_X2_farFrom⟩
theorem cw_X2_off : CWd yX2_off cX2_off 3 (some .int) 3 := ⟨cd_X2_off, ini_NestedFramesModel, ⟨by decide +kernel, by decide +kernel⟩, by decide +kernel⟩
theorem cw_X2_count : CWd yX2_count cX2_count 2 (some .int) 1 := ⟨cd_X2_count, ini_NestedFramesModel, ⟨by decide +kernel, by decide +kernel⟩, by decide +kernel⟩
theorem cv_X2_count : CWv yX2_count := ⟨im_X2_count, sl_X2_count⟩
theorem cw_X2_counted : CWd yX2_counted cX2_counted 2 (some .int) 1 := ⟨cd_X2_counted, ini_NestedFramesModel, ⟨by decide +kernel, by decide +kernel⟩, by decide +kernel⟩
theorem cv_X2_counted : CWv yX2_counted := ⟨im_X2_counted, sl_X2_counted⟩
theorem cw_X2_heldNow : CWd yX2_heldNow cX2_heldNow 3 (some .int) 0 := ⟨cd_X2_heldNow, ini_NestedFramesModel, ⟨by decide +kernel, by decide +kernel⟩, by decide +kernel⟩
theorem cv_X2_heldNow : CWv yX2_heldNow := ⟨im_X2_heldNow, sl_X2_heldNow⟩
theorem cw_X2_sum : CWd yX2_sum cX2_sum 7 (some .int) 2 := ⟨cd_X2_sum, ini_NestedFramesModel, ⟨by decide +kernel, by decide +kernel⟩, by decide +kernel⟩
theorem cv_X2_sum : CWv yX2_sum := ⟨im_X2_sum, sl_X2_sum⟩
theorem cw_X2_grows : CWd yX2_grows cX2_grows 7 (some .int) 4 := ⟨cd_X2_grows, ini_NestedFramesModel, ⟨by decide +kernel, by decide +kernel⟩, by decide +kernel⟩
theorem cv_X2_grows : CWv yX2_grows := ⟨im_X2_grows, sl_X2_grows⟩
theorem cw_X2_splits : CWd yX2_splits cX2_splits 7 (some .int) 4 := ⟨cd_X2_splits, ini_NestedFramesModel, ⟨by decide +kernel, by decide +kernel⟩, by decide +kernel⟩
theorem cv_X2_splits : CWv yX2_splits := ⟨im_X2_splits, sl_X2_splits⟩
theorem cw_X2_mean : CWd yX2_mean cX2_mean 3 (some .double) 0 := ⟨cd_X2_mean, ini_NestedFramesModel, ⟨by decide +kernel, by decide +kernel⟩, by decide +kernel⟩
theorem cv_X2_mean : CWv yX2_mean := ⟨im_X2_mean, sl_X2_mean⟩
theorem cw_X2_digest : CWd yX2_digest cX2_digest 5 (some .long) 0 := ⟨cd_X2_digest, ini_NestedFramesModel, ⟨by decide +kernel, by decide +kernel⟩, by decide +kernel⟩
theorem cv_X2_digest : CWv yX2_digest := ⟨im_X2_digest, sl_X2_digest⟩
theorem cw_X2_digestFrom : CWd yX2_digestFrom cX2_digestFrom 7 (some .long) 2 := ⟨cd_X2_digestFrom, ini_NestedFramesModel, ⟨by decide +kernel, by decide +kernel⟩, by decide +kernel⟩
theorem cv_X2_digestFrom : CWv yX2_digestFrom := ⟨im_X2_digestFrom, sl_X2_digestFrom⟩
theorem fin_X0 : InW (u_ws RX0 TX0 9) := by
  show ∀ w ∈ u_ws RX0 TX0 9, w ∈ lw_tbl ∧ okw w = true
  decide +kernel
theorem fld_X0 : Fld RX0 TX0 9 tyX0 := ⟨fin_X0, tyX0_ok, nmX0⟩
theorem fin_X1 : InW (u_ws RX1 TX1 4) := by
  show ∀ w ∈ u_ws RX1 TX1 4, w ∈ lw_tbl ∧ okw w = true
  decide +kernel
theorem fld_X1 : Fld RX1 TX1 4 tyX1 := ⟨fin_X1, tyX1_ok, nmX1⟩
theorem fin_X2 : InW (u_ws RX2 TX2 14) := by
  show ∀ w ∈ u_ws RX2 TX2 14, w ∈ lw_tbl ∧ okw w = true
  decide +kernel
theorem fld_X2 : Fld RX2 TX2 14 tyX2 := ⟨fin_X2, tyX2_ok, nmX2⟩
