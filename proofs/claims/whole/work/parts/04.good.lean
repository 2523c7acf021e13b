set_option maxRecDepth 20000 in
theorem ggX0_findNearestPair_X0_comparePair : GoodIn wsX0_findNearestPair wsX0_comparePair := goodIn_r _ [7, 8, 2, 9, 10, 11, 12, 13, 14, 15, 16, 17, 18, 19, 20, 21, 22, 23, 30, 31, 32, 33, 34, 35, 36, 37, 38, 24, 25, 26, 27, 28, 29, 39, 40, 41, 42] rfl (by decide +kernel)
set_option maxRecDepth 20000 in
theorem gX0_findNearestPair_X0_comparePair : GoodIn wsX0_findNearestPair (wsV RX0 33 RX0 yX0_comparePair wsX0_comparePair) := goodIn_app (goodIn_of _ (by decide +kernel)) ggX0_findNearestPair_X0_comparePair
set_option maxRecDepth 20000 in
theorem ggX0_comparePair_X3_distanceTo : GoodIn wsX0_comparePair wsX3_distanceTo := goodIn_r _ [10, 11, 12, 13, 14, 15, 16, 9, 17, 33, 34, 35, 36] rfl (by decide +kernel)
set_option maxRecDepth 20000 in
theorem gX0_comparePair_X3_distanceTo : GoodIn wsX0_comparePair (wsV RX0 41 RX3 yX3_distanceTo wsX3_distanceTo) := goodIn_app (goodIn_of _ (by decide +kernel)) ggX0_comparePair_X3_distanceTo
set_option maxRecDepth 20000 in
theorem ggX0_joinAll_X0_gather : GoodIn wsX0_joinAll wsX0_gather := goodIn_r _ [9, 1, 4, 39, 40, 41, 42, 43, 44] rfl (by decide +kernel)
set_option maxRecDepth 20000 in
theorem gX0_joinAll_X0_gather : GoodIn wsX0_joinAll (wsV RX0 56 RX0 yX0_gather wsX0_gather) := goodIn_app (goodIn_of _ (by decide +kernel)) ggX0_joinAll_X0_gather
set_option maxRecDepth 20000 in
theorem ggX0_joinAll_X0_reachFrom : GoodIn wsX0_joinAll wsX0_reachFrom := goodIn_r _ [13, 1, 4, 2, 14, 15, 16, 17, 18, 19, 20, 21, 22, 23, 24, 25, 26, 27, 28, 29, 30, 39, 40, 41, 42, 43, 44, 45, 46, 47, 48, 49, 50, 51, 52, 53, 54, 55, 56, 57] rfl (by decide +kernel)
set_option maxRecDepth 20000 in
theorem gX0_joinAll_X0_reachFrom : GoodIn wsX0_joinAll (wsV RX0 60 RX0 yX0_reachFrom wsX0_reachFrom) := goodIn_app (goodIn_of _ (by decide +kernel)) ggX0_joinAll_X0_reachFrom
set_option maxRecDepth 20000 in
theorem ggX0_joinAll_X0_leastFrom : GoodIn wsX0_joinAll wsX0_leastFrom := goodIn_r _ [34, 1, 2, 39, 40, 41, 42, 43, 44] rfl (by decide +kernel)
set_option maxRecDepth 20000 in
theorem gX0_joinAll_X0_leastFrom : GoodIn wsX0_joinAll (wsV RX0 64 RX0 yX0_leastFrom wsX0_leastFrom) := goodIn_app (goodIn_of _ (by decide +kernel)) ggX0_joinAll_X0_leastFrom
set_option maxRecDepth 20000 in
theorem ggX0_joinAll_X0_swap : GoodIn wsX0_joinAll wsX0_swap := goodIn_r _ [38, 4, 2, 39, 40, 41, 42, 43, 44] rfl (by decide +kernel)
set_option maxRecDepth 20000 in
theorem gX0_joinAll_X0_swap : GoodIn wsX0_joinAll (wsV RX0 68 RX0 yX0_swap wsX0_swap) := goodIn_app (goodIn_of _ (by decide +kernel)) ggX0_joinAll_X0_swap
set_option maxRecDepth 20000 in
theorem ggX0_reachFrom_X3_distanceTo : GoodIn wsX0_reachFrom wsX3_distanceTo := goodIn_r _ [13, 14, 15, 16, 17, 18, 19, 12, 20, 36, 37, 38, 39] rfl (by decide +kernel)
set_option maxRecDepth 20000 in
theorem gX0_reachFrom_X3_distanceTo : GoodIn wsX0_reachFrom (wsV RX0 41 RX3 yX3_distanceTo wsX3_distanceTo) := goodIn_app (goodIn_of _ (by decide +kernel)) ggX0_reachFrom_X3_distanceTo
set_option maxRecDepth 20000 in
theorem ggX1_offer_X1_isFull : GoodIn wsX1_offer wsX1_isFull := goodIn_r _ [9, 2, 1, 14, 15, 16, 17] rfl (by decide +kernel)
set_option maxRecDepth 20000 in
theorem gX1_offer_X1_isFull : GoodIn wsX1_offer (wsV RX1 35 RX1 yX1_isFull wsX1_isFull) := goodIn_app (goodIn_of _ (by decide +kernel)) ggX1_offer_X1_isFull
set_option maxRecDepth 20000 in
theorem ggX1_offer_X1_isAhead : GoodIn wsX1_offer wsX1_isAhead := goodIn_r _ [13, 4, 3, 14, 15, 16, 17] rfl (by decide +kernel)
set_option maxRecDepth 20000 in
theorem gX1_offer_X1_isAhead : GoodIn wsX1_offer (wsV RX1 39 RX1 yX1_isAhead wsX1_isAhead) := goodIn_app (goodIn_of _ (by decide +kernel)) ggX1_offer_X1_isAhead
set_option maxRecDepth 20000 in
theorem ggX1_shutsOut_X1_isFull : GoodIn wsX1_shutsOut wsX1_isFull := goodIn_r _ [7, 1, 8, 9, 10, 11, 12] rfl (by decide +kernel)
set_option maxRecDepth 20000 in
theorem gX1_shutsOut_X1_isFull : GoodIn wsX1_shutsOut (wsV RX1 35 RX1 yX1_isFull wsX1_isFull) := goodIn_app (goodIn_of _ (by decide +kernel)) ggX1_shutsOut_X1_isFull
set_option maxRecDepth 20000 in
theorem ggX2_isLess_X3_number : GoodIn wsX2_isLess wsX3_number := goodIn_r _ [7, 8, 9, 10, 11, 21, 22, 23, 24] rfl (by decide +kernel)
set_option maxRecDepth 20000 in
theorem gX2_isLess_X3_number : GoodIn wsX2_isLess (wsV RX2 20 RX3 yX3_number wsX3_number) := goodIn_app (goodIn_of _ (by decide +kernel)) ggX2_isLess_X3_number
set_option maxRecDepth 20000 in
theorem ggX2_sideOf_X2_isLess : GoodIn wsX2_sideOf wsX2_isLess := goodIn_r _ [8, 9, 10, 11, 12, 13, 14, 15, 16, 17, 18, 19, 20, 21, 22, 23, 24, 25, 26, 27, 28, 29, 30, 31, 32] rfl (by decide +kernel)
set_option maxRecDepth 20000 in
theorem gX2_sideOf_X2_isLess : GoodIn wsX2_sideOf (wsV RX2 29 RX2 yX2_isLess wsX2_isLess) := goodIn_app (goodIn_of _ (by decide +kernel)) ggX2_sideOf_X2_isLess
set_option maxRecDepth 20000 in
theorem ggX2_leans_X2_sizeOf : GoodIn wsX2_leans wsX2_sizeOf := goodIn_r _ [11, 7, 12, 13, 14, 15, 16, 17, 18, 19, 20] rfl (by decide +kernel)
set_option maxRecDepth 20000 in
theorem gX2_leans_X2_sizeOf : GoodIn wsX2_leans (va_wsS RX2 40 yX2_sizeOf wsX2_sizeOf) := goodIn_app (goodIn_of _ (by decide +kernel)) ggX2_leans_X2_sizeOf
set_option maxRecDepth 20000 in
theorem ggX3_distanceTo_X3_square : GoodIn wsX3_distanceTo wsX3_square := goodIn_r _ [8] rfl (by decide +kernel)
set_option maxRecDepth 20000 in
theorem gX3_distanceTo_X3_square : GoodIn wsX3_distanceTo (va_wsS RX3 22 yX3_square wsX3_square) := goodIn_app (goodIn_of _ (by decide +kernel)) ggX3_distanceTo_X3_square
set_option maxRecDepth 20000 in
theorem ggX3_isBetween_X3_number : GoodIn wsX3_isBetween wsX3_number := goodIn_r _ [5, 6, 7, 8, 9, 10, 11, 12, 13] rfl (by decide +kernel)
set_option maxRecDepth 20000 in
theorem gX3_isBetween_X3_number : GoodIn wsX3_isBetween (wsV RX3 26 RX3 yX3_number wsX3_number) := goodIn_app (goodIn_of _ (by decide +kernel)) ggX3_isBetween_X3_number
set_option maxRecDepth 20000 in
theorem ggX4_start_X4_lookAt : GoodIn wsX4_start wsX4_lookAt := goodIn_r _ [6, 1, 7, 8, 9, 10, 11, 12, 13, 14, 15, 16, 17, 18, 19, 20, 21, 22, 23, 24, 25, 26, 27, 28, 29, 30, 31, 32, 33, 34, 35, 36, 37, 38, 39, 40, 41, 42, 43, 44, 45, 46, 47, 2, 3, 4, 5, 48, 49, 50, 51, 52, 53, 54, 55, 56, 57, 58, 59, 60, 61, 62, 63, 64, 65, 66, 67, 68, 69, 70, 71, 72] rfl (by decide +kernel)
set_option maxRecDepth 20000 in
theorem gX4_start_X4_lookAt : GoodIn wsX4_start (wsV RX4 23 RX4 yX4_lookAt wsX4_lookAt) := goodIn_app (goodIn_of _ (by decide +kernel)) ggX4_start_X4_lookAt
set_option maxRecDepth 20000 in
theorem ggX4_lookAt_X3_distanceTo : GoodIn wsX4_lookAt wsX3_distanceTo := goodIn_r _ [14, 15, 16, 17, 18, 19, 20, 13, 21, 64, 65, 66, 67] rfl (by decide +kernel)
set_option maxRecDepth 20000 in
theorem gX4_lookAt_X3_distanceTo : GoodIn wsX4_lookAt (wsV RX4 37 RX3 yX3_distanceTo wsX3_distanceTo) := goodIn_app (goodIn_of _ (by decide +kernel)) ggX4_lookAt_X3_distanceTo
set_option maxRecDepth 20000 in
theorem ggX4_lookAt_X1_offer : GoodIn wsX4_lookAt wsX1_offer := goodIn_r _ [26, 27, 28, 29, 30, 31, 32, 33, 25, 34, 35, 36, 37, 38, 68, 69, 70, 71] rfl (by decide +kernel)
set_option maxRecDepth 20000 in
theorem gX4_lookAt_X1_offer : GoodIn wsX4_lookAt (wsV RX4 43 RX1 yX1_offer wsX1_offer) := goodIn_app (goodIn_of _ (by decide +kernel)) ggX4_lookAt_X1_offer
set_option maxRecDepth 20000 in
theorem ggX4_lookAt_X3_number : GoodIn wsX4_lookAt wsX3_number := goodIn_r _ [42, 15, 16, 17, 18, 64, 65, 66, 67] rfl (by decide +kernel)
set_option maxRecDepth 20000 in
theorem gX4_lookAt_X3_number : GoodIn wsX4_lookAt (wsV RX4 52 RX3 yX3_number wsX3_number) := goodIn_app (goodIn_of _ (by decide +kernel)) ggX4_lookAt_X3_number
set_option maxRecDepth 20000 in
theorem ggX4_lookAt_X4_lookAt : GoodIn wsX4_lookAt wsX4_lookAt := goodIn_r _ [0, 1, 2, 3, 4, 5, 6, 7, 8, 9, 10, 11, 12, 13, 14, 15, 16, 17, 18, 19, 20, 21, 22, 23, 24, 25, 26, 27, 28, 29, 30, 31, 32, 33, 34, 35, 36, 37, 38, 39, 40, 41, 42, 43, 44, 45, 46, 47, 48, 49, 50, 51, 52, 53, 54, 55, 56, 57, 58, 59, 60, 61, 62, 63, 64, 65, 66, 67, 68, 69, 70, 71] rfl (by decide +kernel)
set_option maxRecDepth 20000 in
theorem gX4_lookAt_X4_lookAt : GoodIn wsX4_lookAt (wsV RX4 23 RX4 yX4_lookAt wsX4_lookAt) := goodIn_app (goodIn_of _ (by decide +kernel)) ggX4_lookAt_X4_lookAt
set_option maxRecDepth 20000 in
theorem ggX4_lookAt_X3_square : GoodIn wsX4_lookAt wsX3_square := goodIn_r _ [21] rfl (by decide +kernel)
set_option maxRecDepth 20000 in
theorem gX4_lookAt_X3_square : GoodIn wsX4_lookAt (va_wsS RX4 63 yX3_square wsX3_square) := goodIn_app (goodIn_of _ (by decide +kernel)) ggX4_lookAt_X3_square
set_option maxRecDepth 20000 in
theorem ggX4_lookAt_X1_shutsOut : GoodIn wsX4_lookAt wsX1_shutsOut := goodIn_r _ [51, 28, 30, 31, 32, 33, 25, 34, 27, 68, 69, 70, 71] rfl (by decide +kernel)
set_option maxRecDepth 20000 in
theorem gX4_lookAt_X1_shutsOut : GoodIn wsX4_lookAt (wsV RX4 67 RX1 yX1_shutsOut wsX1_shutsOut) := goodIn_app (goodIn_of _ (by decide +kernel)) ggX4_lookAt_X1_shutsOut
set_option maxRecDepth 20000 in
theorem ggX5_nodeCount_X2_sizeOf : GoodIn wsX5_nodeCount wsX2_sizeOf := goodIn_r _ [5, 6, 11, 12, 13, 14, 15, 16, 17, 18, 19] rfl (by decide +kernel)
set_option maxRecDepth 20000 in
theorem gX5_nodeCount_X2_sizeOf : GoodIn wsX5_nodeCount (va_wsS RX5 25 yX2_sizeOf wsX2_sizeOf) := goodIn_app (goodIn_of _ (by decide +kernel)) ggX5_nodeCount_X2_sizeOf
set_option maxRecDepth 20000 in
theorem ggX5_hang_X2_sideOf : GoodIn wsX5_hang wsX2_sideOf := goodIn_r _ [12, 13, 14, 15, 16, 17, 18, 11, 19, 20, 21, 22, 23, 24, 25, 26, 27, 28, 29, 30, 42, 43, 44, 45, 46, 47, 48, 49, 50, 51, 52, 53, 54] rfl (by decide +kernel)
set_option maxRecDepth 20000 in
theorem gX5_hang_X2_sideOf : GoodIn wsX5_hang (wsV RX5 32 RX2 yX2_sideOf wsX2_sideOf) := goodIn_app (goodIn_of _ (by decide +kernel)) ggX5_hang_X2_sideOf
set_option maxRecDepth 20000 in
theorem ggX5_hang_X5_axisBehind : GoodIn wsX5_hang wsX5_axisBehind := goodIn_r _ [35, 36, 38, 39, 40, 41] rfl (by decide +kernel)
set_option maxRecDepth 20000 in
theorem gX5_hang_X5_axisBehind : GoodIn wsX5_hang (wsV RX5 45 RX5 yX5_axisBehind wsX5_axisBehind) := goodIn_app (goodIn_of _ (by decide +kernel)) ggX5_hang_X5_axisBehind
set_option maxRecDepth 20000 in
theorem ggX5_hang_X2_isLess : GoodIn wsX5_hang wsX2_isLess := goodIn_r _ [19, 20, 21, 22, 23, 24, 25, 26, 27, 28, 29, 30, 42, 43, 44, 45, 46, 47, 48, 49, 50, 51, 52, 53, 54] rfl (by decide +kernel)
set_option maxRecDepth 20000 in
theorem gX5_hang_X2_isLess : GoodIn wsX5_hang (wsV RX5 49 RX2 yX2_isLess wsX2_isLess) := goodIn_app (goodIn_of _ (by decide +kernel)) ggX5_hang_X2_isLess
set_option maxRecDepth 20000 in
theorem ggX5_firstLeaningAbove_X2_leans : GoodIn wsX5_firstLeaningAbove wsX2_leans := goodIn_r _ [6, 7, 8, 9, 10, 11, 12, 13, 14, 15, 5, 16, 41, 42, 43, 44, 45, 46, 47, 48, 49] rfl (by decide +kernel)
set_option maxRecDepth 20000 in
theorem gX5_firstLeaningAbove_X2_leans : GoodIn wsX5_firstLeaningAbove (wsV RX5 59 RX2 yX2_leans wsX2_leans) := goodIn_app (goodIn_of _ (by decide +kernel)) ggX5_firstLeaningAbove_X2_leans
set_option maxRecDepth 20000 in
theorem ggX5_firstLeaningAbove_X2_sideOf : GoodIn wsX5_firstLeaningAbove wsX2_sideOf := goodIn_r _ [20, 21, 7, 8, 22, 23, 24, 5, 25, 26, 27, 28, 29, 30, 31, 32, 33, 34, 35, 36, 41, 42, 43, 44, 45, 46, 47, 48, 49, 50, 51, 52, 53] rfl (by decide +kernel)
set_option maxRecDepth 20000 in
theorem gX5_firstLeaningAbove_X2_sideOf : GoodIn wsX5_firstLeaningAbove (wsV RX5 32 RX2 yX2_sideOf wsX2_sideOf) := goodIn_app (goodIn_of _ (by decide +kernel)) ggX5_firstLeaningAbove_X2_sideOf
set_option maxRecDepth 20000 in
theorem ggX5_buildAnew_X5_gatherLive : GoodIn wsX5_buildAnew wsX5_gatherLive := goodIn_r _ [13, 3, 14, 15, 16, 17, 12, 18, 2, 7, 19, 20, 21, 22, 23, 55, 56, 57, 58, 59, 60, 61, 62, 63, 64, 65, 66, 67] rfl (by decide +kernel)
set_option maxRecDepth 20000 in
theorem gX5_buildAnew_X5_gatherLive : GoodIn wsX5_buildAnew (wsV RX5 63 RX5 yX5_gatherLive wsX5_gatherLive) := goodIn_app (goodIn_of _ (by decide +kernel)) ggX5_buildAnew_X5_gatherLive
set_option maxRecDepth 20000 in
theorem ggX5_buildAnew_X5_build : GoodIn wsX5_buildAnew wsX5_build := goodIn_r _ [27, 14, 1, 4, 5, 3, 2, 7, 28, 29, 30, 12, 31, 32, 33, 34, 35, 36, 37, 21, 38, 39, 40, 41, 42, 43, 44, 45, 46, 47, 48, 49, 50, 51, 52, 53, 54, 24, 25, 26, 64, 65, 66, 67, 55, 56, 57, 58, 59, 60, 61, 62, 63, 68, 69, 70, 71] rfl (by decide +kernel)
set_option maxRecDepth 20000 in
theorem gX5_buildAnew_X5_build : GoodIn wsX5_buildAnew (wsV RX5 66 RX5 yX5_build wsX5_build) := goodIn_app (goodIn_of _ (by decide +kernel)) ggX5_buildAnew_X5_build
set_option maxRecDepth 20000 in
theorem ggX5_gatherLive_X5_nodeOnWalk : GoodIn wsX5_gatherLive wsX5_nodeOnWalk := goodIn_r _ [7, 8, 9, 10, 11, 12, 13, 14, 15, 16, 17, 18, 19, 20, 21, 22, 23] rfl (by decide +kernel)
set_option maxRecDepth 20000 in
theorem gX5_gatherLive_X5_nodeOnWalk : GoodIn wsX5_gatherLive (va_wsS RX5 73 yX5_nodeOnWalk wsX5_nodeOnWalk) := goodIn_app (goodIn_of _ (by decide +kernel)) ggX5_gatherLive_X5_nodeOnWalk
set_option maxRecDepth 20000 in
theorem ggX5_build_X5_order : GoodIn wsX5_build wsX5_order := goodIn_r _ [12, 1, 13, 14, 11, 15, 16, 17, 18, 19, 20, 21, 22, 23, 24, 25, 26, 27, 28, 29, 30, 31, 40, 41, 42, 43, 44, 45, 46, 47, 48, 49, 50, 51, 52, 53, 54, 55, 56] rfl (by decide +kernel)
set_option maxRecDepth 20000 in
theorem gX5_build_X5_order : GoodIn wsX5_build (wsV RX5 81 RX5 yX5_order wsX5_order) := goodIn_app (goodIn_of _ (by decide +kernel)) ggX5_build_X5_order
set_option maxRecDepth 20000 in
theorem ggX5_build_X5_axisBehind : GoodIn wsX5_build wsX5_axisBehind := goodIn_r _ [35, 36, 40, 41, 42, 43] rfl (by decide +kernel)
set_option maxRecDepth 20000 in
theorem gX5_build_X5_axisBehind : GoodIn wsX5_build (wsV RX5 45 RX5 yX5_axisBehind wsX5_axisBehind) := goodIn_app (goodIn_of _ (by decide +kernel)) ggX5_build_X5_axisBehind
set_option maxRecDepth 20000 in
theorem ggX5_build_X5_build : GoodIn wsX5_build wsX5_build := goodIn_r _ [0, 1, 2, 3, 4, 5, 6, 7, 8, 9, 10, 11, 12, 13, 14, 15, 16, 17, 18, 19, 20, 21, 22, 23, 24, 25, 26, 27, 28, 29, 30, 31, 32, 33, 34, 35, 36, 37, 38, 39, 40, 41, 42, 43, 44, 45, 46, 47, 48, 49, 50, 51, 52, 53, 54, 55, 56] rfl (by decide +kernel)
set_option maxRecDepth 20000 in
theorem gX5_build_X5_build : GoodIn wsX5_build (wsV RX5 66 RX5 yX5_build wsX5_build) := goodIn_app (goodIn_of _ (by decide +kernel)) ggX5_build_X5_build
set_option maxRecDepth 20000 in
theorem ggX5_order_X5_isAhead : GoodIn wsX5_order wsX5_isAhead := goodIn_r _ [5, 6, 7, 8, 9, 10, 11, 12, 13, 14, 15, 16, 17, 18, 19, 20, 21, 26, 27, 28, 29, 30, 31, 32, 33, 34, 35, 36, 37, 38] rfl (by decide +kernel)
set_option maxRecDepth 20000 in
theorem gX5_order_X5_isAhead : GoodIn wsX5_order (va_wsS RX5 85 yX5_isAhead wsX5_isAhead) := goodIn_app (goodIn_of _ (by decide +kernel)) ggX5_order_X5_isAhead
set_option maxRecDepth 20000 in
theorem ggX5_isAhead_X2_isLess : GoodIn wsX5_isAhead wsX2_isLess := goodIn_r _ [5, 6, 7, 8, 9, 10, 11, 12, 13, 14, 15, 16, 17, 18, 19, 20, 21, 22, 23, 24, 25, 26, 27, 28, 29] rfl (by decide +kernel)
set_option maxRecDepth 20000 in
theorem gX5_isAhead_X2_isLess : GoodIn wsX5_isAhead (wsV RX5 49 RX2 yX2_isLess wsX2_isLess) := goodIn_app (goodIn_of _ (by decide +kernel)) ggX5_isAhead_X2_isLess
set_option maxRecDepth 20000 in
theorem ggX5_nodeOnWalk_X2_sizeOf : GoodIn wsX5_nodeOnWalk wsX2_sizeOf := goodIn_r _ [6, 7, 8, 9, 10, 11, 12, 13, 14, 15, 16] rfl (by decide +kernel)
set_option maxRecDepth 20000 in
theorem gX5_nodeOnWalk_X2_sizeOf : GoodIn wsX5_nodeOnWalk (va_wsS RX5 25 yX2_sizeOf wsX2_sizeOf) := goodIn_app (goodIn_of _ (by decide +kernel)) ggX5_nodeOnWalk_X2_sizeOf
set_option maxRecDepth 20000 in
theorem ggX5_levels_X5_nodeCount : GoodIn wsX5_levels wsX5_nodeCount := goodIn_r _ [11, 1, 12, 13, 14, 15, 16, 22, 23, 24, 25, 26, 27, 28, 29, 30, 31, 32, 33, 34] rfl (by decide +kernel)
set_option maxRecDepth 20000 in
theorem gX5_levels_X5_nodeCount : GoodIn wsX5_levels (wsV RX5 89 RX5 yX5_nodeCount wsX5_nodeCount) := goodIn_app (goodIn_of _ (by decide +kernel)) ggX5_levels_X5_nodeCount
set_option maxRecDepth 20000 in
theorem ggX5_levels_X5_nodeOnWalk : GoodIn wsX5_levels wsX5_nodeOnWalk := goodIn_r _ [19, 20, 21, 12, 13, 14, 15, 16, 26, 27, 28, 29, 30, 31, 32, 33, 34] rfl (by decide +kernel)
set_option maxRecDepth 20000 in
theorem gX5_levels_X5_nodeOnWalk : GoodIn wsX5_levels (va_wsS RX5 73 yX5_nodeOnWalk wsX5_nodeOnWalk) := goodIn_app (goodIn_of _ (by decide +kernel)) ggX5_levels_X5_nodeOnWalk
set_option maxRecDepth 20000 in
theorem ggX6_init_X5_init : GoodIn wsX6_init wsX5_init := goodIn_r _ [28, 29, 2, 3, 30, 31, 32, 57, 58, 59, 60] rfl (by decide +kernel)
set_option maxRecDepth 20000 in
theorem gX6_init_X5_init : GoodIn wsX6_init (wsX5_init) := ggX6_init_X5_init
set_option maxRecDepth 20000 in
theorem ggX6_init_X1_init : GoodIn wsX6_init wsX1_init := goodIn_r _ [35, 36, 2, 3, 37, 38, 39, 40, 61, 62, 63, 64] rfl (by decide +kernel)
set_option maxRecDepth 20000 in
theorem gX6_init_X1_init : GoodIn wsX6_init (wsX1_init) := ggX6_init_X1_init
set_option maxRecDepth 20000 in
theorem ggX6_init_X0_init : GoodIn wsX6_init wsX0_init := goodIn_r _ [43, 44, 2, 3, 45, 46, 39, 47, 65, 66, 67, 68, 69, 70] rfl (by decide +kernel)
set_option maxRecDepth 20000 in
theorem gX6_init_X0_init : GoodIn wsX6_init (wsX0_init) := ggX6_init_X0_init
set_option maxRecDepth 20000 in
theorem ggX6_put_X6_isId : GoodIn wsX6_put wsX6_isId := goodIn_r _ [19] rfl (by decide +kernel)
set_option maxRecDepth 20000 in
theorem gX6_put_X6_isId : GoodIn wsX6_put (va_wsS RX6 51 yX6_isId wsX6_isId) := goodIn_app (goodIn_of _ (by decide +kernel)) ggX6_put_X6_isId
set_option maxRecDepth 20000 in
theorem ggX6_put_X6_isPlace : GoodIn wsX6_put wsX6_isPlace := goodIn_r _ [23, 13, 24, 25, 18, 26, 118, 119, 120, 121, 122, 123, 124, 125, 126] rfl (by decide +kernel)
set_option maxRecDepth 20000 in
theorem gX6_put_X6_isPlace : GoodIn wsX6_put (wsV RX6 55 RX6 yX6_isPlace wsX6_isPlace) := goodIn_app (goodIn_of _ (by decide +kernel)) ggX6_put_X6_isPlace
set_option maxRecDepth 20000 in
theorem ggX6_put_X3_init : GoodIn wsX6_put wsX3_init := goodIn_r _ [29, 30, 31, 32, 33, 34, 35, 36, 136, 137, 138, 139] rfl (by decide +kernel)
set_option maxRecDepth 20000 in
theorem gX6_put_X3_init : GoodIn wsX6_put (wsX3_init) := ggX6_put_X3_init
set_option maxRecDepth 20000 in
theorem ggX6_put_X2_init : GoodIn wsX6_put wsX2_init := goodIn_r _ [39, 40, 31, 32, 41, 42, 43, 127, 128, 129, 130, 131, 132, 133, 134, 135] rfl (by decide +kernel)
set_option maxRecDepth 20000 in
theorem gX6_put_X2_init : GoodIn wsX6_put (wsX2_init) := ggX6_put_X2_init
set_option maxRecDepth 20000 in
theorem ggX6_put_X5_hang : GoodIn wsX6_put wsX5_hang := goodIn_r _ [48, 49, 50, 51, 52, 53, 54, 55, 56, 57, 58, 9, 59, 60, 61, 62, 63, 64, 65, 66, 42, 41, 67, 68, 69, 12, 70, 33, 34, 35, 36, 71, 72, 73, 47, 74, 75, 76, 140, 141, 142, 143, 127, 128, 129, 130, 131, 132, 133, 134, 135, 136, 137, 138, 139] rfl (by decide +kernel)
set_option maxRecDepth 20000 in
theorem gX6_put_X5_hang : GoodIn wsX6_put (wsV RX6 82 RX5 yX5_hang wsX5_hang) := goodIn_app (goodIn_of _ (by decide +kernel)) ggX6_put_X5_hang
set_option maxRecDepth 20000 in
theorem ggX6_put_X5_firstLeaningAbove : GoodIn wsX6_put wsX5_firstLeaningAbove := goodIn_r _ [80, 49, 81, 82, 83, 9, 84, 61, 62, 85, 86, 87, 88, 43, 89, 90, 91, 56, 57, 58, 59, 60, 63, 64, 65, 66, 42, 41, 67, 68, 69, 12, 70, 33, 34, 35, 36, 140, 141, 142, 143, 127, 128, 129, 130, 131, 132, 133, 134, 135, 136, 137, 138, 139] rfl (by decide +kernel)
set_option maxRecDepth 20000 in
theorem gX6_put_X5_firstLeaningAbove : GoodIn wsX6_put (wsV RX6 86 RX5 yX5_firstLeaningAbove wsX5_firstLeaningAbove) := goodIn_app (goodIn_of _ (by decide +kernel)) ggX6_put_X5_firstLeaningAbove
set_option maxRecDepth 20000 in
theorem ggX6_put_X5_buildAnew : GoodIn wsX6_put wsX5_buildAnew := goodIn_r _ [95, 51, 54, 50, 52, 53, 49, 55, 96, 97, 98, 99, 47, 100, 101, 102, 103, 104, 105, 106, 90, 9, 91, 43, 107, 108, 109, 110, 111, 112, 113, 114, 115, 116, 117, 76, 64, 65, 66, 42, 41, 67, 68, 69, 12, 70, 33, 34, 35, 36, 71, 72, 73, 74, 75, 127, 128, 129, 130, 131, 132, 133, 134, 135, 140, 141, 142, 143, 136, 137, 138, 139] rfl (by decide +kernel)
set_option maxRecDepth 20000 in
theorem gX6_put_X5_buildAnew : GoodIn wsX6_put (wsV RX6 93 RX5 yX5_buildAnew wsX5_buildAnew) := goodIn_app (goodIn_of _ (by decide +kernel)) ggX6_put_X5_buildAnew
set_option maxRecDepth 20000 in
theorem ggX6_drop_X6_isId : GoodIn wsX6_drop wsX6_isId := goodIn_r _ [14] rfl (by decide +kernel)
set_option maxRecDepth 20000 in
theorem gX6_drop_X6_isId : GoodIn wsX6_drop (va_wsS RX6 51 yX6_isId wsX6_isId) := goodIn_app (goodIn_of _ (by decide +kernel)) ggX6_drop_X6_isId
set_option maxRecDepth 20000 in
theorem ggX6_drop_X6_deadCount : GoodIn wsX6_drop wsX6_deadCount := goodIn_r _ [18, 8, 7, 19, 20, 21, 22, 23, 24, 25, 26, 27, 28, 29, 81, 82, 83, 84, 85, 86, 87, 88, 89, 99, 100, 101, 102, 90, 91, 92, 93, 94, 95, 96, 97, 98] rfl (by decide +kernel)
set_option maxRecDepth 20000 in
theorem gX6_drop_X6_deadCount : GoodIn wsX6_drop (wsV RX6 104 RX6 yX6_deadCount wsX6_deadCount) := goodIn_app (goodIn_of _ (by decide +kernel)) ggX6_drop_X6_deadCount
set_option maxRecDepth 20000 in
theorem ggX6_drop_X5_nodeCount : GoodIn wsX6_drop wsX5_nodeCount := goodIn_r _ [23, 24, 25, 26, 27, 28, 29, 99, 100, 101, 102, 90, 91, 92, 93, 94, 95, 96, 97, 98] rfl (by decide +kernel)
set_option maxRecDepth 20000 in
theorem gX6_drop_X5_nodeCount : GoodIn wsX6_drop (wsV RX6 108 RX5 yX5_nodeCount wsX5_nodeCount) := goodIn_app (goodIn_of _ (by decide +kernel)) ggX6_drop_X5_nodeCount
set_option maxRecDepth 20000 in
theorem ggX6_drop_X5_buildAnew : GoodIn wsX6_drop wsX5_buildAnew := goodIn_r _ [33, 34, 35, 36, 37, 38, 24, 39, 40, 41, 42, 43, 22, 44, 45, 46, 47, 48, 49, 25, 26, 27, 28, 29, 50, 51, 52, 53, 54, 55, 56, 57, 58, 59, 60, 61, 62, 63, 64, 65, 66, 67, 68, 69, 70, 71, 72, 73, 74, 75, 76, 77, 78, 79, 80, 90, 91, 92, 93, 94, 95, 96, 97, 98, 99, 100, 101, 102, 103, 104, 105, 106] rfl (by decide +kernel)
set_option maxRecDepth 20000 in
theorem gX6_drop_X5_buildAnew : GoodIn wsX6_drop (wsV RX6 93 RX5 yX5_buildAnew wsX5_buildAnew) := goodIn_app (goodIn_of _ (by decide +kernel)) ggX6_drop_X5_buildAnew
set_option maxRecDepth 20000 in
theorem ggX6_at_X6_isId : GoodIn wsX6_at wsX6_isId := goodIn_r _ [10] rfl (by decide +kernel)
set_option maxRecDepth 20000 in
theorem gX6_at_X6_isId : GoodIn wsX6_at (va_wsS RX6 51 yX6_isId wsX6_isId) := goodIn_app (goodIn_of _ (by decide +kernel)) ggX6_at_X6_isId
set_option maxRecDepth 20000 in
theorem ggX6_at_X3_number : GoodIn wsX6_at wsX3_number := goodIn_r _ [15, 16, 17, 18, 19, 38, 39, 40, 41] rfl (by decide +kernel)
set_option maxRecDepth 20000 in
theorem gX6_at_X3_number : GoodIn wsX6_at (wsV RX6 126 RX3 yX3_number wsX3_number) := goodIn_app (goodIn_of _ (by decide +kernel)) ggX6_at_X3_number
set_option maxRecDepth 20000 in
theorem ggX6_nearest_X6_isPlace : GoodIn wsX6_nearest wsX6_isPlace := goodIn_r _ [20, 10, 21, 22, 19, 23, 99, 100, 101, 102, 103, 104, 105, 106, 107] rfl (by decide +kernel)
set_option maxRecDepth 20000 in
theorem gX6_nearest_X6_isPlace : GoodIn wsX6_nearest (wsV RX6 55 RX6 yX6_isPlace wsX6_isPlace) := goodIn_app (goodIn_of _ (by decide +kernel)) ggX6_nearest_X6_isPlace
set_option maxRecDepth 20000 in
theorem ggX6_nearest_X1_empty : GoodIn wsX6_nearest wsX1_empty := goodIn_r _ [28, 29, 30, 31, 32, 33, 34, 35, 36, 37, 38, 119, 120, 121, 122] rfl (by decide +kernel)
set_option maxRecDepth 20000 in
theorem gX6_nearest_X1_empty : GoodIn wsX6_nearest (wsV RX6 132 RX1 yX1_empty wsX1_empty) := goodIn_app (goodIn_of _ (by decide +kernel)) ggX6_nearest_X1_empty
set_option maxRecDepth 20000 in
theorem ggX6_nearest_X3_init : GoodIn wsX6_nearest wsX3_init := goodIn_r _ [41, 42, 43, 44, 45, 46, 47, 48, 111, 112, 113, 114] rfl (by decide +kernel)
set_option maxRecDepth 20000 in
theorem gX6_nearest_X3_init : GoodIn wsX6_nearest (wsX3_init) := ggX6_nearest_X3_init
set_option maxRecDepth 20000 in
theorem ggX6_nearest_X4_init : GoodIn wsX6_nearest wsX4_init := goodIn_r _ [51, 52, 43, 44, 53, 54, 108, 109, 110] rfl (by decide +kernel)
set_option maxRecDepth 20000 in
theorem gX6_nearest_X4_init : GoodIn wsX6_nearest (wsX4_init) := ggX6_nearest_X4_init
set_option maxRecDepth 20000 in
theorem ggX6_nearest_X4_start : GoodIn wsX6_nearest wsX4_start := goodIn_r _ [58, 59, 60, 61, 62, 6, 63, 64, 54, 65, 53, 66, 67, 68, 69, 70, 71, 72, 9, 73, 45, 46, 47, 48, 74, 75, 76, 77, 78, 79, 27, 80, 38, 29, 30, 81, 82, 83, 84, 85, 86, 87, 88, 89, 90, 91, 92, 93, 94, 95, 96, 97, 98, 108, 109, 110, 123, 124, 125, 126, 127, 128, 129, 130, 131, 111, 112, 113, 114, 119, 120, 121, 122] rfl (by decide +kernel)
set_option maxRecDepth 20000 in
theorem gX6_nearest_X4_start : GoodIn wsX6_nearest (wsV RX6 140 RX4 yX4_start wsX4_start) := goodIn_app (goodIn_of _ (by decide +kernel)) ggX6_nearest_X4_start
set_option maxRecDepth 20000 in
theorem ggX6_within_X6_isPlace : GoodIn wsX6_within wsX6_isPlace := goodIn_r _ [16, 6, 17, 18, 15, 19, 69, 70, 71, 72, 73, 74, 75, 76, 77] rfl (by decide +kernel)
set_option maxRecDepth 20000 in
theorem gX6_within_X6_isPlace : GoodIn wsX6_within (wsV RX6 55 RX6 yX6_isPlace wsX6_isPlace) := goodIn_app (goodIn_of _ (by decide +kernel)) ggX6_within_X6_isPlace
set_option maxRecDepth 20000 in
theorem ggX6_within_X3_init : GoodIn wsX6_within wsX3_init := goodIn_r _ [22, 23, 24, 25, 26, 27, 28, 29, 65, 66, 67, 68] rfl (by decide +kernel)
set_option maxRecDepth 20000 in
theorem gX6_within_X3_init : GoodIn wsX6_within (wsX3_init) := ggX6_within_X3_init
set_option maxRecDepth 20000 in
theorem ggX6_within_X1_empty : GoodIn wsX6_within wsX1_empty := goodIn_r _ [34, 35, 36, 37, 38, 39, 40, 41, 42, 43, 44, 87, 88, 89, 90] rfl (by decide +kernel)
set_option maxRecDepth 20000 in
theorem gX6_within_X1_empty : GoodIn wsX6_within (wsV RX6 132 RX1 yX1_empty wsX1_empty) := goodIn_app (goodIn_of _ (by decide +kernel)) ggX6_within_X1_empty
set_option maxRecDepth 20000 in
theorem ggX6_within_X3_distanceTo : GoodIn wsX6_within wsX3_distanceTo := goodIn_r _ [48, 26, 27, 28, 29, 49, 50, 5, 51, 65, 66, 67, 68] rfl (by decide +kernel)
set_option maxRecDepth 20000 in
theorem gX6_within_X3_distanceTo : GoodIn wsX6_within (wsV RX6 154 RX3 yX3_distanceTo wsX3_distanceTo) := goodIn_app (goodIn_of _ (by decide +kernel)) ggX6_within_X3_distanceTo
set_option maxRecDepth 20000 in
theorem ggX6_within_X1_offer : GoodIn wsX6_within wsX1_offer := goodIn_r _ [55, 44, 35, 36, 56, 57, 58, 59, 33, 60, 61, 62, 63, 64, 87, 88, 89, 90] rfl (by decide +kernel)
set_option maxRecDepth 20000 in
theorem gX6_within_X1_offer : GoodIn wsX6_within (wsV RX6 161 RX1 yX1_offer wsX1_offer) := goodIn_app (goodIn_of _ (by decide +kernel)) ggX6_within_X1_offer
set_option maxRecDepth 20000 in
theorem ggX6_listed_X1_has : GoodIn wsX6_listed wsX1_has := goodIn_r _ [9, 10, 20, 21, 22, 23] rfl (by decide +kernel)
set_option maxRecDepth 20000 in
theorem gX6_listed_X1_has : GoodIn wsX6_listed (wsV RX6 165 RX1 yX1_has wsX1_has) := goodIn_app (goodIn_of _ (by decide +kernel)) ggX6_listed_X1_has
set_option maxRecDepth 20000 in
theorem ggX6_distance_X1_has : GoodIn wsX6_distance wsX1_has := goodIn_r _ [9, 10, 20, 21, 22, 23] rfl (by decide +kernel)
set_option maxRecDepth 20000 in
theorem gX6_distance_X1_has : GoodIn wsX6_distance (wsV RX6 165 RX1 yX1_has wsX1_has) := goodIn_app (goodIn_of _ (by decide +kernel)) ggX6_distance_X1_has
set_option maxRecDepth 20000 in
theorem ggX6_inBox_X6_isCountingAxis : GoodIn wsX6_inBox wsX6_isCountingAxis := goodIn_r _ [9, 10, 24, 25, 26, 27, 28, 29, 30, 31, 32] rfl (by decide +kernel)
set_option maxRecDepth 20000 in
theorem gX6_inBox_X6_isCountingAxis : GoodIn wsX6_inBox (wsV RX6 183 RX6 yX6_isCountingAxis wsX6_isCountingAxis) := goodIn_app (goodIn_of _ (by decide +kernel)) ggX6_inBox_X6_isCountingAxis
set_option maxRecDepth 20000 in
theorem ggX6_inBox_X3_isBetween : GoodIn wsX6_inBox wsX3_isBetween := goodIn_r _ [15, 16, 17, 18, 14, 19, 20, 21, 22, 23, 42, 43, 44, 45] rfl (by decide +kernel)
set_option maxRecDepth 20000 in
theorem gX6_inBox_X3_isBetween : GoodIn wsX6_inBox (wsV RX6 188 RX3 yX3_isBetween wsX3_isBetween) := goodIn_app (goodIn_of _ (by decide +kernel)) ggX6_inBox_X3_isBetween
set_option maxRecDepth 20000 in
theorem ggX6_pair_X0_findNearestPair : GoodIn wsX6_pair wsX0_findNearestPair := goodIn_r _ [15, 16, 17, 18, 19, 20, 14, 21, 22, 23, 24, 25, 26, 27, 28, 29, 30, 31, 32, 33, 34, 35, 36, 37, 47, 48, 49, 50, 51, 52, 53, 54, 55, 56, 57, 58, 59, 60, 61, 62, 63, 64, 65] rfl (by decide +kernel)
set_option maxRecDepth 20000 in
theorem gX6_pair_X0_findNearestPair : GoodIn wsX6_pair (wsV RX6 196 RX0 yX0_findNearestPair wsX0_findNearestPair) := goodIn_app (goodIn_of _ (by decide +kernel)) ggX6_pair_X0_findNearestPair
set_option maxRecDepth 20000 in
theorem ggX6_parts_X0_joinAll : GoodIn wsX6_parts wsX0_joinAll := goodIn_r _ [9, 10, 11, 12, 13, 14, 15, 16, 8, 17, 18, 19, 20, 21, 22, 23, 24, 25, 26, 27, 28, 29, 30, 31, 32, 33, 34, 35, 36, 37, 38, 39, 40, 41, 42, 43, 44, 45, 46, 60, 61, 62, 63, 64, 65, 66, 67, 68, 69, 70, 71, 72, 73, 74, 75, 76, 77, 78] rfl (by decide +kernel)
set_option maxRecDepth 20000 in
theorem gX6_parts_X0_joinAll : GoodIn wsX6_parts (wsV RX6 212 RX0 yX0_joinAll wsX0_joinAll) := goodIn_app (goodIn_of _ (by decide +kernel)) ggX6_parts_X0_joinAll
set_option maxRecDepth 20000 in
theorem ggX6_parts_X0_partsWithin : GoodIn wsX6_parts wsX0_partsWithin := goodIn_r _ [50, 10, 11, 60, 61, 62, 63, 64, 65] rfl (by decide +kernel)
set_option maxRecDepth 20000 in
theorem gX6_parts_X0_partsWithin : GoodIn wsX6_parts (wsV RX6 215 RX0 yX0_partsWithin wsX0_partsWithin) := goodIn_app (goodIn_of _ (by decide +kernel)) ggX6_parts_X0_partsWithin
set_option maxRecDepth 20000 in
theorem ggX6_span_X0_joinAll : GoodIn wsX6_span wsX0_joinAll := goodIn_r _ [7, 8, 9, 10, 11, 12, 13, 14, 6, 15, 16, 17, 18, 19, 20, 21, 22, 23, 24, 25, 26, 27, 28, 29, 30, 31, 32, 33, 34, 35, 36, 37, 38, 39, 40, 41, 42, 43, 44, 58, 59, 60, 61, 62, 63, 64, 65, 66, 67, 68, 69, 70, 71, 72, 73, 74, 75, 76] rfl (by decide +kernel)
set_option maxRecDepth 20000 in
theorem gX6_span_X0_joinAll : GoodIn wsX6_span (wsV RX6 212 RX0 yX0_joinAll wsX0_joinAll) := goodIn_app (goodIn_of _ (by decide +kernel)) ggX6_span_X0_joinAll
set_option maxRecDepth 20000 in
theorem ggX6_span_X0_sum : GoodIn wsX6_span wsX0_sum := goodIn_r _ [48, 8, 9, 58, 59, 60, 61, 62, 63] rfl (by decide +kernel)
set_option maxRecDepth 20000 in
theorem gX6_span_X0_sum : GoodIn wsX6_span (wsV RX6 219 RX0 yX0_sum wsX0_sum) := goodIn_app (goodIn_of _ (by decide +kernel)) ggX6_span_X0_sum
set_option maxRecDepth 20000 in
theorem ggX6_node_X6_isId : GoodIn wsX6_node wsX6_isId := goodIn_r _ [15] rfl (by decide +kernel)
set_option maxRecDepth 20000 in
theorem gX6_node_X6_isId : GoodIn wsX6_node (va_wsS RX6 51 yX6_isId wsX6_isId) := goodIn_app (goodIn_of _ (by decide +kernel)) ggX6_node_X6_isId
set_option maxRecDepth 20000 in
theorem ggX6_walk_X5_nodeOnWalk : GoodIn wsX6_walk wsX5_nodeOnWalk := goodIn_r _ [10, 11, 12, 13, 14, 15, 16, 17, 31, 32, 33, 34, 35, 36, 37, 38, 39] rfl (by decide +kernel)
set_option maxRecDepth 20000 in
theorem gX6_walk_X5_nodeOnWalk : GoodIn wsX6_walk (va_wsS RX6 237 yX5_nodeOnWalk wsX5_nodeOnWalk) := goodIn_app (goodIn_of _ (by decide +kernel)) ggX6_walk_X5_nodeOnWalk
set_option maxRecDepth 20000 in
theorem ggX6_count_X5_nodeCount : GoodIn wsX6_count wsX5_nodeCount := goodIn_r _ [13, 14, 15, 16, 17, 18, 19, 49, 50, 51, 52, 53, 54, 55, 56, 57, 58, 59, 60, 61] rfl (by decide +kernel)
set_option maxRecDepth 20000 in
theorem gX6_count_X5_nodeCount : GoodIn wsX6_count (wsV RX6 108 RX5 yX5_nodeCount wsX5_nodeCount) := goodIn_app (goodIn_of _ (by decide +kernel)) ggX6_count_X5_nodeCount
set_option maxRecDepth 20000 in
theorem ggX6_count_X6_deadCount : GoodIn wsX6_count wsX6_deadCount := goodIn_r _ [24, 5, 4, 9, 10, 11, 12, 13, 14, 15, 16, 17, 18, 19, 40, 41, 42, 43, 44, 45, 46, 47, 48, 49, 50, 51, 52, 53, 54, 55, 56, 57, 58, 59, 60, 61] rfl (by decide +kernel)
set_option maxRecDepth 20000 in
theorem gX6_count_X6_deadCount : GoodIn wsX6_count (wsV RX6 104 RX6 yX6_deadCount wsX6_deadCount) := goodIn_app (goodIn_of _ (by decide +kernel)) ggX6_count_X6_deadCount
set_option maxRecDepth 20000 in
theorem ggX6_count_X5_levels : GoodIn wsX6_count wsX5_levels := goodIn_r _ [28, 14, 29, 30, 31, 32, 33, 34, 10, 11, 12, 13, 15, 16, 17, 18, 19, 35, 36, 37, 38, 39, 49, 50, 51, 52, 53, 54, 55, 56, 57, 58, 59, 60, 61] rfl (by decide +kernel)
set_option maxRecDepth 20000 in
theorem gX6_count_X5_levels : GoodIn wsX6_count (wsV RX6 243 RX5 yX5_levels wsX5_levels) := goodIn_app (goodIn_of _ (by decide +kernel)) ggX6_count_X5_levels
set_option maxRecDepth 20000 in
theorem ggX6_isPlace_X6_isNumber : GoodIn wsX6_isPlace wsX6_isNumber := goodIn_r _ [5] rfl (by decide +kernel)
set_option maxRecDepth 20000 in
theorem gX6_isPlace_X6_isNumber : GoodIn wsX6_isPlace (va_wsS RX6 251 yX6_isNumber wsX6_isNumber) := goodIn_app (goodIn_of _ (by decide +kernel)) ggX6_isPlace_X6_isNumber
set_option maxRecDepth 20000 in
theorem ggX6_deadCount_X5_nodeCount : GoodIn wsX6_deadCount wsX5_nodeCount := goodIn_r _ [7, 8, 9, 10, 11, 12, 13, 23, 24, 25, 26, 27, 28, 29, 30, 31, 32, 33, 34, 35] rfl (by decide +kernel)
set_option maxRecDepth 20000 in
theorem gX6_deadCount_X5_nodeCount : GoodIn wsX6_deadCount (wsV RX6 108 RX5 yX5_nodeCount wsX5_nodeCount) := goodIn_app (goodIn_of _ (by decide +kernel)) ggX6_deadCount_X5_nodeCount
set_option maxRecDepth 20000 in
theorem ggX7_isId_X7_in : GoodIn wsX7_isId wsX7_in := goodIn_r _ [5] rfl (by decide +kernel)
set_option maxRecDepth 20000 in
theorem gX7_isId_X7_in : GoodIn wsX7_isId (va_wsS RX7 90 yX7_in wsX7_in) := goodIn_app (goodIn_of _ (by decide +kernel)) ggX7_isId_X7_in
set_option maxRecDepth 20000 in
theorem ggX7_areNumbers_X7_in : GoodIn wsX7_areNumbers wsX7_in := goodIn_r _ [7] rfl (by decide +kernel)
set_option maxRecDepth 20000 in
theorem gX7_areNumbers_X7_in : GoodIn wsX7_areNumbers (va_wsS RX7 90 yX7_in wsX7_in) := goodIn_app (goodIn_of _ (by decide +kernel)) ggX7_areNumbers_X7_in
set_option maxRecDepth 20000 in
theorem ggX7_build_X7_walkFrom : GoodIn wsX7_build wsX7_walkFrom := goodIn_r _ [17, 18, 4, 19, 2, 40, 41, 42, 43, 44, 45, 46, 47, 48, 49, 50, 51, 52, 53, 54, 55, 56, 57, 58, 59, 60, 61, 62, 63, 64, 65, 66, 67, 68, 69, 70] rfl (by decide +kernel)
set_option maxRecDepth 20000 in
theorem gX7_build_X7_walkFrom : GoodIn wsX7_build (wsV RX7 98 RX7 yX7_walkFrom wsX7_walkFrom) := goodIn_app (goodIn_of _ (by decide +kernel)) ggX7_build_X7_walkFrom
set_option maxRecDepth 20000 in
theorem ggX7_build_X7_hang : GoodIn wsX7_build wsX7_hang := goodIn_r _ [23, 24, 2, 19, 40, 41, 42, 43, 44, 45, 46, 47, 48, 49, 50, 51, 52, 53, 54, 55, 56, 57, 58, 59, 60, 61, 62, 63, 64, 65, 66, 67, 68, 69, 70] rfl (by decide +kernel)
set_option maxRecDepth 20000 in
theorem gX7_build_X7_hang : GoodIn wsX7_build (wsV RX7 102 RX7 yX7_hang wsX7_hang) := goodIn_app (goodIn_of _ (by decide +kernel)) ggX7_build_X7_hang
set_option maxRecDepth 20000 in
theorem ggX7_build_X7_depth : GoodIn wsX7_build wsX7_depth := goodIn_r _ [28, 1, 40, 41, 42, 43, 44, 45, 46, 47, 48, 49, 50, 51, 52, 53, 54, 55, 56, 57, 58, 59, 60, 61, 62, 63, 64, 65, 66, 67, 68, 69, 70] rfl (by decide +kernel)
set_option maxRecDepth 20000 in
theorem gX7_build_X7_depth : GoodIn wsX7_build (wsV RX7 106 RX7 yX7_depth wsX7_depth) := goodIn_app (goodIn_of _ (by decide +kernel)) ggX7_build_X7_depth
set_option maxRecDepth 20000 in
theorem ggX7_build_X7_sortBy : GoodIn wsX7_build wsX7_sortBy := goodIn_r _ [32, 6, 33, 40, 41, 42, 43, 44, 45, 46, 47, 48, 49, 50, 51, 52, 53, 54, 55, 56, 57, 58, 59, 60, 61, 62, 63, 64, 65, 66, 67, 68, 69, 70] rfl (by decide +kernel)
set_option maxRecDepth 20000 in
theorem gX7_build_X7_sortBy : GoodIn wsX7_build (wsV RX7 109 RX7 yX7_sortBy wsX7_sortBy) := goodIn_app (goodIn_of _ (by decide +kernel)) ggX7_build_X7_sortBy
set_option maxRecDepth 20000 in
theorem ggX7_build_X7_newNode : GoodIn wsX7_build wsX7_newNode := goodIn_r _ [37, 3, 7, 38, 33, 5, 2, 19, 1, 39, 40, 41, 42, 43, 44, 45, 46, 47, 48, 49, 50, 51, 52, 53, 54, 55, 56, 57, 58, 59, 60, 61, 62, 63, 64, 65, 66, 67, 68, 69, 70] rfl (by decide +kernel)
set_option maxRecDepth 20000 in
theorem gX7_build_X7_newNode : GoodIn wsX7_build (wsV RX7 113 RX7 yX7_newNode wsX7_newNode) := goodIn_app (goodIn_of _ (by decide +kernel)) ggX7_build_X7_newNode
set_option maxRecDepth 20000 in
theorem ggX7_put_X7_isId : GoodIn wsX7_put wsX7_isId := goodIn_r _ [15, 16, 17, 18, 14, 19] rfl (by decide +kernel)
set_option maxRecDepth 20000 in
theorem gX7_put_X7_isId : GoodIn wsX7_put (va_wsS RX7 117 yX7_isId wsX7_isId) := goodIn_app (goodIn_of _ (by decide +kernel)) ggX7_put_X7_isId
set_option maxRecDepth 20000 in
theorem ggX7_put_X7_areNumbers : GoodIn wsX7_put wsX7_areNumbers := goodIn_r _ [23, 24, 25, 5, 17, 18, 14, 19, 66, 67, 68, 69, 70, 71, 72, 73, 74, 75, 76, 77, 78, 79, 80, 81, 82, 83, 84, 85, 86, 87, 88, 89, 90, 91, 92, 93, 94, 95, 96] rfl (by decide +kernel)
set_option maxRecDepth 20000 in
theorem gX7_put_X7_areNumbers : GoodIn wsX7_put (wsV RX7 121 RX7 yX7_areNumbers wsX7_areNumbers) := goodIn_app (goodIn_of _ (by decide +kernel)) ggX7_put_X7_areNumbers
set_option maxRecDepth 20000 in
theorem ggX7_put_X7_isLess : GoodIn wsX7_put wsX7_isLess := goodIn_r _ [29, 4, 30, 31, 66, 67, 68, 69, 70, 71, 72, 73, 74, 75, 76, 77, 78, 79, 80, 81, 82, 83, 84, 85, 86, 87, 88, 89, 90, 91, 92, 93, 94, 95, 96] rfl (by decide +kernel)
set_option maxRecDepth 20000 in
theorem gX7_put_X7_isLess : GoodIn wsX7_put (wsV RX7 128 RX7 yX7_isLess wsX7_isLess) := goodIn_app (goodIn_of _ (by decide +kernel)) ggX7_put_X7_isLess
set_option maxRecDepth 20000 in
theorem ggX7_put_X7_newNode : GoodIn wsX7_put wsX7_newNode := goodIn_r _ [35, 36, 31, 30, 4, 37, 7, 8, 9, 38, 66, 67, 68, 69, 70, 71, 72, 73, 74, 75, 76, 77, 78, 79, 80, 81, 82, 83, 84, 85, 86, 87, 88, 89, 90, 91, 92, 93, 94, 95, 96] rfl (by decide +kernel)
set_option maxRecDepth 20000 in
theorem gX7_put_X7_newNode : GoodIn wsX7_put (wsV RX7 113 RX7 yX7_newNode wsX7_newNode) := goodIn_app (goodIn_of _ (by decide +kernel)) ggX7_put_X7_newNode
set_option maxRecDepth 20000 in
theorem ggX7_put_X7_hang : GoodIn wsX7_put wsX7_hang := goodIn_r _ [42, 6, 7, 8, 66, 67, 68, 69, 70, 71, 72, 73, 74, 75, 76, 77, 78, 79, 80, 81, 82, 83, 84, 85, 86, 87, 88, 89, 90, 91, 92, 93, 94, 95, 96] rfl (by decide +kernel)
set_option maxRecDepth 20000 in
theorem gX7_put_X7_hang : GoodIn wsX7_put (wsV RX7 102 RX7 yX7_hang wsX7_hang) := goodIn_app (goodIn_of _ (by decide +kernel)) ggX7_put_X7_hang
set_option maxRecDepth 20000 in
theorem ggX7_put_X7_walkFrom : GoodIn wsX7_put wsX7_walkFrom := goodIn_r _ [46, 47, 48, 8, 7, 66, 67, 68, 69, 70, 71, 72, 73, 74, 75, 76, 77, 78, 79, 80, 81, 82, 83, 84, 85, 86, 87, 88, 89, 90, 91, 92, 93, 94, 95, 96] rfl (by decide +kernel)
set_option maxRecDepth 20000 in
theorem gX7_put_X7_walkFrom : GoodIn wsX7_put (wsV RX7 98 RX7 yX7_walkFrom wsX7_walkFrom) := goodIn_app (goodIn_of _ (by decide +kernel)) ggX7_put_X7_walkFrom
set_option maxRecDepth 20000 in
theorem ggX7_put_X7_build : GoodIn wsX7_put wsX7_build := goodIn_r _ [52, 9, 7, 36, 48, 37, 53, 31, 54, 55, 56, 57, 5, 43, 44, 45, 14, 46, 47, 8, 39, 40, 41, 42, 6, 58, 59, 60, 61, 62, 63, 64, 65, 4, 32, 33, 34, 35, 30, 38, 66, 67, 68, 69, 70, 71, 72, 73, 74, 75, 76, 77, 78, 79, 80, 81, 82, 83, 84, 85, 86, 87, 88, 89, 90, 91, 92, 93, 94, 95, 96] rfl (by decide +kernel)
set_option maxRecDepth 20000 in
theorem gX7_put_X7_build : GoodIn wsX7_put (wsV RX7 138 RX7 yX7_build wsX7_build) := goodIn_app (goodIn_of _ (by decide +kernel)) ggX7_put_X7_build
set_option maxRecDepth 20000 in
theorem ggX7_drop_X7_isId : GoodIn wsX7_drop wsX7_isId := goodIn_r _ [12, 13, 14, 15, 11, 16] rfl (by decide +kernel)
set_option maxRecDepth 20000 in
theorem gX7_drop_X7_isId : GoodIn wsX7_drop (va_wsS RX7 117 yX7_isId wsX7_isId) := goodIn_app (goodIn_of _ (by decide +kernel)) ggX7_drop_X7_isId
set_option maxRecDepth 20000 in
theorem ggX7_drop_X7_walkFrom : GoodIn wsX7_drop wsX7_walkFrom := goodIn_r _ [20, 21, 22, 23, 24, 56, 57, 58, 59, 60, 61, 62, 63, 64, 65, 66, 67, 68, 69, 70, 71, 72, 73, 74, 75, 76, 77, 78, 79, 80, 81, 82, 83, 84, 85, 86] rfl (by decide +kernel)
set_option maxRecDepth 20000 in
theorem gX7_drop_X7_walkFrom : GoodIn wsX7_drop (wsV RX7 98 RX7 yX7_walkFrom wsX7_walkFrom) := goodIn_app (goodIn_of _ (by decide +kernel)) ggX7_drop_X7_walkFrom
set_option maxRecDepth 20000 in
theorem ggX7_drop_X7_build : GoodIn wsX7_drop wsX7_build := goodIn_r _ [28, 29, 24, 30, 22, 4, 31, 32, 33, 34, 35, 36, 37, 17, 18, 19, 11, 20, 21, 23, 38, 39, 40, 41, 6, 42, 43, 44, 45, 46, 47, 48, 49, 50, 51, 52, 53, 54, 55, 5, 56, 57, 58, 59, 60, 61, 62, 63, 64, 65, 66, 67, 68, 69, 70, 71, 72, 73, 74, 75, 76, 77, 78, 79, 80, 81, 82, 83, 84, 85, 86] rfl (by decide +kernel)
set_option maxRecDepth 20000 in
theorem gX7_drop_X7_build : GoodIn wsX7_drop (wsV RX7 138 RX7 yX7_build wsX7_build) := goodIn_app (goodIn_of _ (by decide +kernel)) ggX7_drop_X7_build
set_option maxRecDepth 20000 in
theorem ggX7_at_X7_isId : GoodIn wsX7_at wsX7_isId := goodIn_r _ [8, 9, 10, 11, 7, 12] rfl (by decide +kernel)
set_option maxRecDepth 20000 in
theorem gX7_at_X7_isId : GoodIn wsX7_at (va_wsS RX7 117 yX7_isId wsX7_isId) := goodIn_app (goodIn_of _ (by decide +kernel)) ggX7_at_X7_isId
set_option maxRecDepth 20000 in
theorem ggX7_at_X7_in : GoodIn wsX7_at wsX7_in := goodIn_r _ [12] rfl (by decide +kernel)
set_option maxRecDepth 20000 in
theorem gX7_at_X7_in : GoodIn wsX7_at (va_wsS RX7 90 yX7_in wsX7_in) := goodIn_app (goodIn_of _ (by decide +kernel)) ggX7_at_X7_in
set_option maxRecDepth 20000 in
theorem ggX7_come_X7_away : GoodIn wsX7_come wsX7_away := goodIn_r _ [8, 9, 10, 11, 12, 13, 14, 15, 16, 17, 18, 19, 20, 21, 22, 23, 24, 25, 26, 27, 28, 29, 30, 31, 32, 33, 34, 35, 36, 37, 38, 39, 40, 41] rfl (by decide +kernel)
set_option maxRecDepth 20000 in
theorem gX7_come_X7_away : GoodIn wsX7_come (wsV RX7 146 RX7 yX7_away wsX7_away) := goodIn_app (goodIn_of _ (by decide +kernel)) ggX7_come_X7_away
set_option maxRecDepth 20000 in
theorem ggX7_nearest_X7_in : GoodIn wsX7_nearest wsX7_in := goodIn_r _ [19] rfl (by decide +kernel)
set_option maxRecDepth 20000 in
theorem gX7_nearest_X7_in : GoodIn wsX7_nearest (va_wsS RX7 90 yX7_in wsX7_in) := goodIn_app (goodIn_of _ (by decide +kernel)) ggX7_nearest_X7_in
set_option maxRecDepth 20000 in
theorem ggX7_nearest_X7_areNumbers : GoodIn wsX7_nearest wsX7_areNumbers := goodIn_r _ [23, 24, 25, 8, 16, 17, 18, 19, 45, 46, 47, 48, 49, 50, 51, 52, 53, 54, 55, 56, 57, 58, 59, 60, 61, 62, 63, 64, 65, 66, 67, 68, 69, 70, 71, 72, 73, 74, 75] rfl (by decide +kernel)
set_option maxRecDepth 20000 in
theorem gX7_nearest_X7_areNumbers : GoodIn wsX7_nearest (wsV RX7 121 RX7 yX7_areNumbers wsX7_areNumbers) := goodIn_app (goodIn_of _ (by decide +kernel)) ggX7_nearest_X7_areNumbers
set_option maxRecDepth 20000 in
theorem ggX7_nearest_X7_aimAt : GoodIn wsX7_nearest wsX7_aimAt := goodIn_r _ [29, 9, 8, 45, 46, 47, 48, 49, 50, 51, 52, 53, 54, 55, 56, 57, 58, 59, 60, 61, 62, 63, 64, 65, 66, 67, 68, 69, 70, 71, 72, 73, 74, 75] rfl (by decide +kernel)
set_option maxRecDepth 20000 in
theorem gX7_nearest_X7_aimAt : GoodIn wsX7_nearest (wsV RX7 155 RX7 yX7_aimAt wsX7_aimAt) := goodIn_app (goodIn_of _ (by decide +kernel)) ggX7_nearest_X7_aimAt
set_option maxRecDepth 20000 in
theorem ggX7_nearest_X7_depth : GoodIn wsX7_nearest wsX7_depth := goodIn_r _ [33, 34, 45, 46, 47, 48, 49, 50, 51, 52, 53, 54, 55, 56, 57, 58, 59, 60, 61, 62, 63, 64, 65, 66, 67, 68, 69, 70, 71, 72, 73, 74, 75] rfl (by decide +kernel)
set_option maxRecDepth 20000 in
theorem gX7_nearest_X7_depth : GoodIn wsX7_nearest (wsV RX7 106 RX7 yX7_depth wsX7_depth) := goodIn_app (goodIn_of _ (by decide +kernel)) ggX7_nearest_X7_depth
set_option maxRecDepth 20000 in
theorem ggX7_nearest_X7_come : GoodIn wsX7_nearest wsX7_come := goodIn_r _ [38, 3, 15, 39, 40, 41, 42, 18, 43, 9, 44, 45, 46, 47, 48, 49, 50, 51, 52, 53, 54, 55, 56, 57, 58, 59, 60, 61, 62, 63, 64, 65, 66, 67, 68, 69, 70, 71, 72, 73, 74, 75] rfl (by decide +kernel)
set_option maxRecDepth 20000 in
theorem gX7_nearest_X7_come : GoodIn wsX7_nearest (wsV RX7 162 RX7 yX7_come wsX7_come) := goodIn_app (goodIn_of _ (by decide +kernel)) ggX7_nearest_X7_come
set_option maxRecDepth 20000 in
theorem ggX7_within_X7_areNumbers : GoodIn wsX7_within wsX7_areNumbers := goodIn_r _ [8, 9, 10, 11, 12, 13, 7, 14, 31, 32, 33, 34, 35, 36, 37, 38, 39, 40, 41, 42, 43, 44, 45, 46, 47, 48, 49, 50, 51, 52, 53, 54, 55, 56, 57, 58, 59, 60, 61] rfl (by decide +kernel)
set_option maxRecDepth 20000 in
theorem gX7_within_X7_areNumbers : GoodIn wsX7_within (wsV RX7 121 RX7 yX7_areNumbers wsX7_areNumbers) := goodIn_app (goodIn_of _ (by decide +kernel)) ggX7_within_X7_areNumbers
set_option maxRecDepth 20000 in
theorem ggX7_within_X7_aimAt : GoodIn wsX7_within wsX7_aimAt := goodIn_r _ [18, 19, 11, 31, 32, 33, 34, 35, 36, 37, 38, 39, 40, 41, 42, 43, 44, 45, 46, 47, 48, 49, 50, 51, 52, 53, 54, 55, 56, 57, 58, 59, 60, 61] rfl (by decide +kernel)
set_option maxRecDepth 20000 in
theorem gX7_within_X7_aimAt : GoodIn wsX7_within (wsV RX7 155 RX7 yX7_aimAt wsX7_aimAt) := goodIn_app (goodIn_of _ (by decide +kernel)) ggX7_within_X7_aimAt
set_option maxRecDepth 20000 in
theorem ggX7_within_X7_away : GoodIn wsX7_within wsX7_away := goodIn_r _ [23, 19, 24, 31, 32, 33, 34, 35, 36, 37, 38, 39, 40, 41, 42, 43, 44, 45, 46, 47, 48, 49, 50, 51, 52, 53, 54, 55, 56, 57, 58, 59, 60, 61] rfl (by decide +kernel)
set_option maxRecDepth 20000 in
theorem gX7_within_X7_away : GoodIn wsX7_within (wsV RX7 146 RX7 yX7_away wsX7_away) := goodIn_app (goodIn_of _ (by decide +kernel)) ggX7_within_X7_away
set_option maxRecDepth 20000 in
theorem ggX7_within_X7_come : GoodIn wsX7_within wsX7_come := goodIn_r _ [28, 2, 29, 30, 20, 21, 22, 7, 23, 19, 24, 31, 32, 33, 34, 35, 36, 37, 38, 39, 40, 41, 42, 43, 44, 45, 46, 47, 48, 49, 50, 51, 52, 53, 54, 55, 56, 57, 58, 59, 60, 61] rfl (by decide +kernel)
set_option maxRecDepth 20000 in
theorem gX7_within_X7_come : GoodIn wsX7_within (wsV RX7 162 RX7 yX7_come wsX7_come) := goodIn_app (goodIn_of _ (by decide +kernel)) ggX7_within_X7_come
set_option maxRecDepth 20000 in
theorem ggX7_listed_X7_in : GoodIn wsX7_listed wsX7_in := goodIn_r _ [7] rfl (by decide +kernel)
set_option maxRecDepth 20000 in
theorem gX7_listed_X7_in : GoodIn wsX7_listed (va_wsS RX7 90 yX7_in wsX7_in) := goodIn_app (goodIn_of _ (by decide +kernel)) ggX7_listed_X7_in
set_option maxRecDepth 20000 in
theorem ggX7_distance_X7_in : GoodIn wsX7_distance wsX7_in := goodIn_r _ [7] rfl (by decide +kernel)
set_option maxRecDepth 20000 in
theorem gX7_distance_X7_in : GoodIn wsX7_distance (va_wsS RX7 90 yX7_in wsX7_in) := goodIn_app (goodIn_of _ (by decide +kernel)) ggX7_distance_X7_in
set_option maxRecDepth 20000 in
theorem ggX7_inBox_X7_in : GoodIn wsX7_inBox wsX7_in := goodIn_r _ [8] rfl (by decide +kernel)
set_option maxRecDepth 20000 in
theorem gX7_inBox_X7_in : GoodIn wsX7_inBox (va_wsS RX7 90 yX7_in wsX7_in) := goodIn_app (goodIn_of _ (by decide +kernel)) ggX7_inBox_X7_in
set_option maxRecDepth 20000 in
theorem ggX7_pair_X7_in : GoodIn wsX7_pair wsX7_in := goodIn_r _ [8] rfl (by decide +kernel)
set_option maxRecDepth 20000 in
theorem gX7_pair_X7_in : GoodIn wsX7_pair (va_wsS RX7 90 yX7_in wsX7_in) := goodIn_app (goodIn_of _ (by decide +kernel)) ggX7_pair_X7_in
set_option maxRecDepth 20000 in
theorem ggX7_pair_X7_between : GoodIn wsX7_pair wsX7_between := goodIn_r _ [12, 13, 14, 15, 16, 17, 18, 19, 20, 21, 22, 23, 24, 25, 26, 27, 28, 29, 30, 31, 32, 33, 34, 35, 36, 37, 38, 39, 40, 41, 42, 43, 44] rfl (by decide +kernel)
set_option maxRecDepth 20000 in
theorem gX7_pair_X7_between : GoodIn wsX7_pair (wsV RX7 168 RX7 yX7_between wsX7_between) := goodIn_app (goodIn_of _ (by decide +kernel)) ggX7_pair_X7_between
set_option maxRecDepth 20000 in
theorem ggX7_parts_X7_between : GoodIn wsX7_parts wsX7_between := goodIn_r _ [9, 10, 11, 12, 13, 14, 15, 16, 17, 18, 19, 20, 21, 22, 23, 24, 25, 26, 27, 28, 29, 30, 31, 32, 33, 34, 35, 36, 37, 38, 39, 40, 41] rfl (by decide +kernel)
set_option maxRecDepth 20000 in
theorem gX7_parts_X7_between : GoodIn wsX7_parts (wsV RX7 168 RX7 yX7_between wsX7_between) := goodIn_app (goodIn_of _ (by decide +kernel)) ggX7_parts_X7_between
set_option maxRecDepth 20000 in
theorem ggX7_span_X7_between : GoodIn wsX7_span wsX7_between := goodIn_r _ [10, 11, 12, 13, 14, 15, 16, 17, 18, 19, 20, 21, 22, 23, 24, 25, 26, 27, 28, 29, 30, 31, 32, 33, 34, 35, 36, 37, 38, 39, 40, 41, 42] rfl (by decide +kernel)
set_option maxRecDepth 20000 in
theorem gX7_span_X7_between : GoodIn wsX7_span (wsV RX7 168 RX7 yX7_between wsX7_between) := goodIn_app (goodIn_of _ (by decide +kernel)) ggX7_span_X7_between
set_option maxRecDepth 20000 in
theorem ggX7_node_X7_isId : GoodIn wsX7_node wsX7_isId := goodIn_r _ [12, 13, 14, 15, 11, 16] rfl (by decide +kernel)
set_option maxRecDepth 20000 in
theorem gX7_node_X7_isId : GoodIn wsX7_node (va_wsS RX7 117 yX7_isId wsX7_isId) := goodIn_app (goodIn_of _ (by decide +kernel)) ggX7_node_X7_isId
set_option maxRecDepth 20000 in
theorem ggX7_node_X7_in : GoodIn wsX7_node wsX7_in := goodIn_r _ [16] rfl (by decide +kernel)
set_option maxRecDepth 20000 in
theorem gX7_node_X7_in : GoodIn wsX7_node (va_wsS RX7 90 yX7_in wsX7_in) := goodIn_app (goodIn_of _ (by decide +kernel)) ggX7_node_X7_in
set_option maxRecDepth 20000 in
theorem ggX7_node_X7_depth : GoodIn wsX7_node wsX7_depth := goodIn_r _ [20, 5, 28, 29, 30, 31, 32, 33, 34, 35, 36, 37, 38, 39, 40, 41, 42, 43, 44, 45, 46, 47, 48, 49, 50, 51, 52, 53, 54, 55, 56, 57, 58] rfl (by decide +kernel)
set_option maxRecDepth 20000 in
theorem gX7_node_X7_depth : GoodIn wsX7_node (wsV RX7 106 RX7 yX7_depth wsX7_depth) := goodIn_app (goodIn_of _ (by decide +kernel)) ggX7_node_X7_depth
set_option maxRecDepth 20000 in
theorem ggX7_node_X7_walkFrom : GoodIn wsX7_node wsX7_walkFrom := goodIn_r _ [24, 25, 26, 27, 8, 28, 29, 30, 31, 32, 33, 34, 35, 36, 37, 38, 39, 40, 41, 42, 43, 44, 45, 46, 47, 48, 49, 50, 51, 52, 53, 54, 55, 56, 57, 58] rfl (by decide +kernel)
set_option maxRecDepth 20000 in
theorem gX7_node_X7_walkFrom : GoodIn wsX7_node (wsV RX7 98 RX7 yX7_walkFrom wsX7_walkFrom) := goodIn_app (goodIn_of _ (by decide +kernel)) ggX7_node_X7_walkFrom
set_option maxRecDepth 20000 in
theorem ggX7_walk_X7_walkFrom : GoodIn wsX7_walk wsX7_walkFrom := goodIn_r _ [10, 11, 4, 12, 13, 17, 18, 19, 20, 21, 22, 23, 24, 25, 26, 27, 28, 29, 30, 31, 32, 33, 34, 35, 36, 37, 38, 39, 40, 41, 42, 43, 44, 45, 46, 47] rfl (by decide +kernel)
set_option maxRecDepth 20000 in
theorem gX7_walk_X7_walkFrom : GoodIn wsX7_walk (wsV RX7 98 RX7 yX7_walkFrom wsX7_walkFrom) := goodIn_app (goodIn_of _ (by decide +kernel)) ggX7_walk_X7_walkFrom
set_option maxRecDepth 20000 in
theorem ggX7_walk_X7_in : GoodIn wsX7_walk wsX7_in := goodIn_r _ [16] rfl (by decide +kernel)
set_option maxRecDepth 20000 in
theorem gX7_walk_X7_in : GoodIn wsX7_walk (va_wsS RX7 90 yX7_in wsX7_in) := goodIn_app (goodIn_of _ (by decide +kernel)) ggX7_walk_X7_in
set_option maxRecDepth 20000 in
theorem ggX7_count_X7_in : GoodIn wsX7_count wsX7_in := goodIn_r _ [13] rfl (by decide +kernel)
set_option maxRecDepth 20000 in
theorem gX7_count_X7_in : GoodIn wsX7_count (va_wsS RX7 90 yX7_in wsX7_in) := goodIn_app (goodIn_of _ (by decide +kernel)) ggX7_count_X7_in
set_option maxRecDepth 20000 in
theorem ggX7_count_X7_walkFrom : GoodIn wsX7_count wsX7_walkFrom := goodIn_r _ [17, 18, 4, 19, 20, 26, 27, 28, 29, 30, 31, 32, 33, 34, 35, 36, 37, 38, 39, 40, 41, 42, 43, 44, 45, 46, 47, 48, 49, 50, 51, 52, 53, 54, 55, 56] rfl (by decide +kernel)
set_option maxRecDepth 20000 in
theorem gX7_count_X7_walkFrom : GoodIn wsX7_count (wsV RX7 98 RX7 yX7_walkFrom wsX7_walkFrom) := goodIn_app (goodIn_of _ (by decide +kernel)) ggX7_count_X7_walkFrom
set_option maxRecDepth 20000 in
theorem ggX7_count_X7_depth : GoodIn wsX7_count wsX7_depth := goodIn_r _ [24, 25, 26, 27, 28, 29, 30, 31, 32, 33, 34, 35, 36, 37, 38, 39, 40, 41, 42, 43, 44, 45, 46, 47, 48, 49, 50, 51, 52, 53, 54, 55, 56] rfl (by decide +kernel)
set_option maxRecDepth 20000 in
theorem gX7_count_X7_depth : GoodIn wsX7_count (wsV RX7 106 RX7 yX7_depth wsX7_depth) := goodIn_app (goodIn_of _ (by decide +kernel)) ggX7_count_X7_depth
