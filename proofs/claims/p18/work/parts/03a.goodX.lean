set_option maxRecDepth 20000 in
theorem ggX0_plan_X0_planEnds : GoodIn wsX0_plan wsX0_planEnds := goodIn_r _ [5, 6, 7, 8, 9, 10, 11, 12, 13, 14, 4, 15, 16, 17, 18, 19, 20, 21, 35, 36, 37, 38, 39, 40, 41, 42, 43] (by decide +kernel) (by decide +kernel)
set_option maxRecDepth 20000 in
theorem gX0_plan_X0_planEnds : GoodIn wsX0_plan (wsV RX0 34 RX0 yX0_planEnds wsX0_planEnds) := goodIn_app (goodIn_of _ (by decide +kernel)) ggX0_plan_X0_planEnds
set_option maxRecDepth 20000 in
theorem ggX0_plan_X0_planLegacies : GoodIn wsX0_plan wsX0_planLegacies := goodIn_r _ [25, 11, 10, 7, 26, 12, 13, 14, 4, 15, 16, 17, 18, 19, 20, 21, 27, 28, 29, 30, 31, 32, 33, 34, 35, 36, 37, 38, 39, 40, 41, 42, 43] (by decide +kernel) (by decide +kernel)
set_option maxRecDepth 20000 in
theorem gX0_plan_X0_planLegacies : GoodIn wsX0_plan (wsV RX0 37 RX0 yX0_planLegacies wsX0_planLegacies) := goodIn_app (goodIn_of _ (by decide +kernel)) ggX0_plan_X0_planLegacies
set_option maxRecDepth 20000 in
theorem ggX0_planEnds_X0_setLack : GoodIn wsX0_planEnds wsX0_setLack := goodIn_r _ [11, 5, 18, 19, 20, 21, 22, 23, 24, 25, 26] (by decide +kernel) (by decide +kernel)
set_option maxRecDepth 20000 in
theorem gX0_planEnds_X0_setLack : GoodIn wsX0_planEnds (wsV RX0 40 RX0 yX0_setLack wsX0_setLack) := goodIn_app (goodIn_of _ (by decide +kernel)) ggX0_planEnds_X0_setLack
set_option maxRecDepth 20000 in
theorem ggX0_planEnds_X0_lessenLack : GoodIn wsX0_planEnds wsX0_lessenLack := goodIn_r _ [15, 16, 5, 17, 18, 19, 20, 21, 22, 23, 24, 25, 26] (by decide +kernel) (by decide +kernel)
set_option maxRecDepth 20000 in
theorem gX0_planEnds_X0_lessenLack : GoodIn wsX0_planEnds (wsV RX0 44 RX0 yX0_lessenLack wsX0_lessenLack) := goodIn_app (goodIn_of _ (by decide +kernel)) ggX0_planEnds_X0_lessenLack
set_option maxRecDepth 20000 in
theorem ggX0_planLegacies_X0_setLack : GoodIn wsX0_planLegacies wsX0_setLack := goodIn_r _ [9, 2, 24, 25, 26, 27, 28, 29, 30, 31, 32] (by decide +kernel) (by decide +kernel)
set_option maxRecDepth 20000 in
theorem gX0_planLegacies_X0_setLack : GoodIn wsX0_planLegacies (wsV RX0 40 RX0 yX0_setLack wsX0_setLack) := goodIn_app (goodIn_of _ (by decide +kernel)) ggX0_planLegacies_X0_setLack
set_option maxRecDepth 20000 in
theorem ggX0_planLegacies_X0_lessenLack : GoodIn wsX0_planLegacies wsX0_lessenLack := goodIn_r _ [13, 14, 2, 15, 24, 25, 26, 27, 28, 29, 30, 31, 32] (by decide +kernel) (by decide +kernel)
set_option maxRecDepth 20000 in
theorem gX0_planLegacies_X0_lessenLack : GoodIn wsX0_planLegacies (wsV RX0 44 RX0 yX0_lessenLack wsX0_lessenLack) := goodIn_app (goodIn_of _ (by decide +kernel)) ggX0_planLegacies_X0_lessenLack
set_option maxRecDepth 20000 in
theorem ggX0_planLegacies_X0_greatestLack : GoodIn wsX0_planLegacies wsX0_greatestLack := goodIn_r _ [19, 2, 20, 21, 22, 23, 24, 25, 26, 27, 28, 29, 30, 31, 32] (by decide +kernel) (by decide +kernel)
set_option maxRecDepth 20000 in
theorem gX0_planLegacies_X0_greatestLack : GoodIn wsX0_planLegacies (wsV RX0 54 RX0 yX0_greatestLack wsX0_greatestLack) := goodIn_app (goodIn_of _ (by decide +kernel)) ggX0_planLegacies_X0_greatestLack
set_option maxRecDepth 20000 in
theorem ggX1_add_X1_canBe : GoodIn wsX1_add wsX1_canBe := goodIn_r _ [11] (by decide +kernel) (by decide +kernel)
set_option maxRecDepth 20000 in
theorem gX1_add_X1_canBe : GoodIn wsX1_add (va_wsS RX1 34 yX1_canBe wsX1_canBe) := goodIn_app (goodIn_of _ (by decide +kernel)) ggX1_add_X1_canBe
set_option maxRecDepth 20000 in
theorem ggX1_grow_X1_has : GoodIn wsX1_grow wsX1_has := goodIn_r _ [12, 13, 14, 15, 16, 17, 18, 19, 20] (by decide +kernel) (by decide +kernel)
set_option maxRecDepth 20000 in
theorem gX1_grow_X1_has : GoodIn wsX1_grow (wsV RX1 38 RX1 yX1_has wsX1_has) := goodIn_app (goodIn_of _ (by decide +kernel)) ggX1_grow_X1_has
set_option maxRecDepth 20000 in
theorem ggX2_plan_X2_gather : GoodIn wsX2_plan wsX2_gather := goodIn_r _ [5, 6, 7, 8, 9, 10, 11, 65, 66, 67, 68, 69, 70, 71, 72, 73, 74, 75, 76, 77] (by decide +kernel) (by decide +kernel)
set_option maxRecDepth 20000 in
theorem gX2_plan_X2_gather : GoodIn wsX2_plan (wsV RX2 25 RX2 yX2_gather wsX2_gather) := goodIn_app (goodIn_of _ (by decide +kernel)) ggX2_plan_X2_gather
set_option maxRecDepth 20000 in
theorem ggX2_plan_X2_measure : GoodIn wsX2_plan wsX2_measure := goodIn_r _ [15, 16, 6, 10, 17, 18, 19, 20, 21, 22, 23, 24, 65, 66, 67, 68, 69, 70, 78, 79, 80, 81, 82] (by decide +kernel) (by decide +kernel)
set_option maxRecDepth 20000 in
theorem gX2_plan_X2_measure : GoodIn wsX2_plan (wsV RX2 29 RX2 yX2_measure wsX2_measure) := goodIn_app (goodIn_of _ (by decide +kernel)) ggX2_plan_X2_measure
set_option maxRecDepth 20000 in
theorem ggX2_plan_X2_chooseDressed : GoodIn wsX2_plan wsX2_chooseDressed := goodIn_r _ [28, 29, 6, 30, 31, 32, 4, 33, 10, 34, 35, 36, 37, 16, 38, 39, 40, 41, 42, 43, 44, 45, 46, 47, 48, 49, 50, 51, 65, 66, 67, 68, 69, 70] (by decide +kernel) (by decide +kernel)
set_option maxRecDepth 20000 in
theorem gX2_plan_X2_chooseDressed : GoodIn wsX2_plan (wsV RX2 33 RX2 yX2_chooseDressed wsX2_chooseDressed) := goodIn_app (goodIn_of _ (by decide +kernel)) ggX2_plan_X2_chooseDressed
set_option maxRecDepth 20000 in
theorem ggX2_plan_X2_chooseCoats : GoodIn wsX2_plan wsX2_chooseCoats := goodIn_r _ [55, 16, 6, 56, 29, 57, 58, 59, 60, 4, 61, 38, 39, 40, 41, 42, 43, 44, 45, 46, 47, 48, 49, 50, 51, 62, 63, 64, 65, 66, 67, 68, 69, 70] (by decide +kernel) (by decide +kernel)
set_option maxRecDepth 20000 in
theorem gX2_plan_X2_chooseCoats : GoodIn wsX2_plan (wsV RX2 36 RX2 yX2_chooseCoats wsX2_chooseCoats) := goodIn_app (goodIn_of _ (by decide +kernel)) ggX2_plan_X2_chooseCoats
set_option maxRecDepth 20000 in
theorem ggX2_newCoats_J6_bitCount_0f7a4 : GoodIn wsX2_newCoats wsJ6_bitCount_0f7a4 := goodIn_r _ [6, 7, 8, 9] (by decide +kernel) (by decide +kernel)
set_option maxRecDepth 20000 in
theorem gX2_newCoats_J6_bitCount_0f7a4 : GoodIn wsX2_newCoats (va_wsS RX2 46 yJ6_bitCount_0f7a4 wsJ6_bitCount_0f7a4) := goodIn_app (goodIn_of _ (by decide +kernel)) ggX2_newCoats_J6_bitCount_0f7a4
set_option maxRecDepth 20000 in
theorem ggX2_measure_X6_fitting : GoodIn wsX2_measure wsX6_fitting := goodIn_r _ [8, 9, 10, 11, 18, 19, 20, 21, 22] (by decide +kernel) (by decide +kernel)
set_option maxRecDepth 20000 in
theorem gX2_measure_X6_fitting : GoodIn wsX2_measure (wsV RX2 61 RX6 yX6_fitting wsX6_fitting) := goodIn_app (goodIn_of _ (by decide +kernel)) ggX2_measure_X6_fitting
set_option maxRecDepth 20000 in
theorem ggX2_chooseDressed_X2_greatestBut : GoodIn wsX2_chooseDressed wsX2_greatestBut := goodIn_r _ [7, 2, 8, 28, 29, 30, 31, 32, 33] (by decide +kernel) (by decide +kernel)
set_option maxRecDepth 20000 in
theorem gX2_chooseDressed_X2_greatestBut : GoodIn wsX2_chooseDressed (wsV RX2 66 RX2 yX2_greatestBut wsX2_greatestBut) := goodIn_app (goodIn_of _ (by decide +kernel)) ggX2_chooseDressed_X2_greatestBut
set_option maxRecDepth 20000 in
theorem ggX2_chooseDressed_X2_canDress : GoodIn wsX2_chooseDressed wsX2_canDress := goodIn_r _ [12, 2, 13, 14, 15, 16, 17, 18, 19, 20, 21, 22, 23, 24, 25, 26, 27, 28, 29, 30, 31, 32, 33] (by decide +kernel) (by decide +kernel)
set_option maxRecDepth 20000 in
theorem gX2_chooseDressed_X2_canDress : GoodIn wsX2_chooseDressed (wsV RX2 69 RX2 yX2_canDress wsX2_canDress) := goodIn_app (goodIn_of _ (by decide +kernel)) ggX2_chooseDressed_X2_canDress
set_option maxRecDepth 20000 in
theorem ggX2_canDress_J13_bitCount_95d88 : GoodIn wsX2_canDress wsJ13_bitCount_95d88 := goodIn_r _ [6, 7, 8, 9] (by decide +kernel) (by decide +kernel)
set_option maxRecDepth 20000 in
theorem gX2_canDress_J13_bitCount_95d88 : GoodIn wsX2_canDress (va_wsS RX2 73 yJ13_bitCount_95d88 wsJ13_bitCount_95d88) := goodIn_app (goodIn_of _ (by decide +kernel)) ggX2_canDress_J13_bitCount_95d88
set_option maxRecDepth 20000 in
theorem ggX2_canDress_J6_bitCount_0f7a4 : GoodIn wsX2_canDress wsJ6_bitCount_0f7a4 := goodIn_r _ [13, 14, 15, 16] (by decide +kernel) (by decide +kernel)
set_option maxRecDepth 20000 in
theorem gX2_canDress_J6_bitCount_0f7a4 : GoodIn wsX2_canDress (va_wsS RX2 46 yJ6_bitCount_0f7a4 wsJ6_bitCount_0f7a4) := goodIn_app (goodIn_of _ (by decide +kernel)) ggX2_canDress_J6_bitCount_0f7a4
set_option maxRecDepth 20000 in
theorem ggX2_chooseCoats_X2_neededBy : GoodIn wsX2_chooseCoats wsX2_neededBy := goodIn_r _ [10, 2, 1, 11, 12, 13, 14, 15, 16, 17, 18, 19, 20, 21, 22, 23, 24, 28, 29, 30, 31, 32, 33] (by decide +kernel) (by decide +kernel)
set_option maxRecDepth 20000 in
theorem gX2_chooseCoats_X2_neededBy : GoodIn wsX2_chooseCoats (wsV RX2 78 RX2 yX2_neededBy wsX2_neededBy) := goodIn_app (goodIn_of _ (by decide +kernel)) ggX2_chooseCoats_X2_neededBy
set_option maxRecDepth 20000 in
theorem ggX2_chooseCoats_X2_leastOf : GoodIn wsX2_chooseCoats wsX2_leastOf := goodIn_r _ [27] (by decide +kernel) (by decide +kernel)
set_option maxRecDepth 20000 in
theorem gX2_chooseCoats_X2_leastOf : GoodIn wsX2_chooseCoats (va_wsS RX2 84 yX2_leastOf wsX2_leastOf) := goodIn_app (goodIn_of _ (by decide +kernel)) ggX2_chooseCoats_X2_leastOf
set_option maxRecDepth 20000 in
theorem ggX2_neededBy_J13_bitCount_95d88 : GoodIn wsX2_neededBy wsJ13_bitCount_95d88 := goodIn_r _ [6, 7, 8, 9] (by decide +kernel) (by decide +kernel)
set_option maxRecDepth 20000 in
theorem gX2_neededBy_J13_bitCount_95d88 : GoodIn wsX2_neededBy (va_wsS RX2 73 yJ13_bitCount_95d88 wsJ13_bitCount_95d88) := goodIn_app (goodIn_of _ (by decide +kernel)) ggX2_neededBy_J13_bitCount_95d88
set_option maxRecDepth 20000 in
theorem ggX2_neededBy_J6_bitCount_0f7a4 : GoodIn wsX2_neededBy wsJ6_bitCount_0f7a4 := goodIn_r _ [13, 14, 15, 16] (by decide +kernel) (by decide +kernel)
set_option maxRecDepth 20000 in
theorem gX2_neededBy_J6_bitCount_0f7a4 : GoodIn wsX2_neededBy (va_wsS RX2 46 yJ6_bitCount_0f7a4 wsJ6_bitCount_0f7a4) := goodIn_app (goodIn_of _ (by decide +kernel)) ggX2_neededBy_J6_bitCount_0f7a4
set_option maxRecDepth 20000 in
theorem ggX3_take_X3_has : GoodIn wsX3_take wsX3_has := goodIn_r _ [7, 8, 9, 10, 11, 12] (by decide +kernel) (by decide +kernel)
set_option maxRecDepth 20000 in
theorem gX3_take_X3_has : GoodIn wsX3_take (wsV RX3 22 RX3 yX3_has wsX3_has) := goodIn_app (goodIn_of _ (by decide +kernel)) ggX3_take_X3_has
set_option maxRecDepth 20000 in
theorem ggX3_childOf_X3_has : GoodIn wsX3_childOf wsX3_has := goodIn_r _ [6, 7, 8, 9, 10, 11] (by decide +kernel) (by decide +kernel)
set_option maxRecDepth 20000 in
theorem gX3_childOf_X3_has : GoodIn wsX3_childOf (wsV RX3 22 RX3 yX3_has wsX3_has) := goodIn_app (goodIn_of _ (by decide +kernel)) ggX3_childOf_X3_has
set_option maxRecDepth 20000 in
theorem ggX4_init_X5_init : GoodIn wsX4_init wsX5_init := goodIn_r _ [14, 15, 2, 3, 16, 17, 18, 19, 20, 6, 21, 22, 23, 24, 25, 26, 27, 28, 29, 30, 31, 32, 33, 34, 35, 36, 37, 38] (by decide +kernel) (by decide +kernel)
set_option maxRecDepth 20000 in
theorem gX4_init_X5_init : GoodIn wsX4_init (wsX5_init) := ggX4_init_X5_init
set_option maxRecDepth 20000 in
theorem ggX4_read_X5_sayNothing : GoodIn wsX4_read wsX5_sayNothing := goodIn_r _ [17, 18, 19, 20, 21, 22, 23, 24, 25, 26, 161, 162, 163, 164, 165, 166, 167, 168, 169] (by decide +kernel) (by decide +kernel)
set_option maxRecDepth 20000 in
theorem gX4_read_X5_sayNothing : GoodIn wsX4_read (wsV RX4 47 RX5 yX5_sayNothing wsX5_sayNothing) := goodIn_app (goodIn_of _ (by decide +kernel)) ggX4_read_X5_sayNothing
set_option maxRecDepth 20000 in
theorem ggX4_read_X4_advance : GoodIn wsX4_read wsX4_advance := goodIn_r _ [31, 7, 32, 6, 12, 33, 34, 35, 30, 36, 37, 38, 39, 40, 41, 42, 43, 44, 45, 46, 47, 48, 49, 50, 51, 52, 2, 3, 4, 5, 150, 151, 152, 153, 154, 155, 156, 157, 158, 159, 160] (by decide +kernel) (by decide +kernel)
set_option maxRecDepth 20000 in
theorem gX4_read_X4_advance : GoodIn wsX4_read (wsV RX4 50 RX4 yX4_advance wsX4_advance) := goodIn_app (goodIn_of _ (by decide +kernel)) ggX4_read_X4_advance
set_option maxRecDepth 20000 in
theorem ggX4_read_X4_begunLine : GoodIn wsX4_read wsX4_begunLine := goodIn_r _ [56, 8, 57, 58, 59, 30, 60, 61, 62, 63, 64, 12, 7, 32, 65, 66, 67, 68, 69, 70, 71, 72, 73, 74, 75, 76, 33, 34, 35, 36, 6, 37, 77, 78, 79, 80, 81, 82, 83, 84, 85, 86, 87, 88, 89, 90, 91, 92, 93, 94, 95, 96, 97, 98, 99, 100, 101, 102, 103, 104, 105, 106, 107, 108, 109, 110, 111, 112, 113, 114, 115, 116, 117, 9, 10, 27, 28, 29, 31, 38, 39, 40, 41, 42, 43, 44, 45, 46, 47, 48, 49, 50, 51, 52, 2, 3, 4, 5, 150, 151, 152, 153, 154, 155, 156, 157, 158, 159, 160] (by decide +kernel) (by decide +kernel)
set_option maxRecDepth 20000 in
theorem gX4_read_X4_begunLine : GoodIn wsX4_read (wsV RX4 56 RX4 yX4_begunLine wsX4_begunLine) := goodIn_app (goodIn_of _ (by decide +kernel)) ggX4_read_X4_begunLine
set_option maxRecDepth 20000 in
theorem ggX4_read_X4_readRest : GoodIn wsX4_read wsX4_readRest := goodIn_r _ [121, 11, 122, 123, 124, 125, 126, 127, 128, 30, 129, 130, 131, 132, 133, 134, 135, 61, 62, 63, 64, 12, 7, 32, 65, 66, 67, 68, 69, 70, 71, 72, 73, 74, 75, 76, 33, 34, 35, 36, 6, 37, 77, 78, 79, 80, 81, 82, 83, 84, 85, 86, 87, 88, 89, 90, 91, 92, 93, 94, 95, 96, 97, 98, 99, 100, 101, 102, 103, 104, 105, 106, 107, 108, 109, 110, 111, 112, 113, 114, 115, 116, 117, 9, 10, 27, 28, 29, 31, 38, 39, 40, 41, 42, 43, 44, 45, 46, 47, 48, 49, 50, 51, 52, 2, 3, 4, 5, 136, 137, 138, 139, 140, 141, 142, 143, 144, 145, 150, 151, 152, 153, 154, 155, 156, 157, 158, 159, 160, 161, 162, 163, 164, 165, 166, 167, 168, 169] (by decide +kernel) (by decide +kernel)
set_option maxRecDepth 20000 in
theorem gX4_read_X4_readRest : GoodIn wsX4_read (wsV RX4 60 RX4 yX4_readRest wsX4_readRest) := goodIn_app (goodIn_of _ (by decide +kernel)) ggX4_read_X4_readRest
set_option maxRecDepth 20000 in
theorem ggX4_read_X4_endLine : GoodIn wsX4_read wsX4_endLine := goodIn_r _ [149, 9, 12, 27, 28, 29, 30, 31, 7, 32, 6, 33, 34, 35, 36, 37, 38, 39, 40, 41, 42, 43, 44, 45, 46, 47, 48, 49, 50, 51, 52, 2, 3, 4, 5, 114, 115, 116, 117, 10, 150, 151, 152, 153, 154, 155, 156, 157, 158, 159, 160] (by decide +kernel) (by decide +kernel)
set_option maxRecDepth 20000 in
theorem gX4_read_X4_endLine : GoodIn wsX4_read (wsV RX4 64 RX4 yX4_endLine wsX4_endLine) := goodIn_app (goodIn_of _ (by decide +kernel)) ggX4_read_X4_endLine
set_option maxRecDepth 20000 in
theorem ggX4_begunLine_X4_lineNamed : GoodIn wsX4_begunLine wsX4_lineNamed := goodIn_r _ [6, 7, 8, 9, 5, 10, 11, 12, 13, 14, 15, 16, 17, 18, 19, 20, 21, 22, 23, 24, 25, 26, 27, 28, 29, 30, 31, 32, 33, 34, 35, 36, 37, 38, 39, 40, 41, 42, 43, 44, 45, 46, 47, 48, 49, 50, 51, 52, 53, 54, 55, 56, 57, 58, 59, 60, 61, 62, 63, 64, 65, 66, 67, 68, 98, 99, 100, 101, 102, 103, 104, 105, 106, 107, 108] (by decide +kernel) (by decide +kernel)
set_option maxRecDepth 20000 in
theorem gX4_begunLine_X4_lineNamed : GoodIn wsX4_begunLine (wsV RX4 70 RX4 yX4_lineNamed wsX4_lineNamed) := goodIn_app (goodIn_of _ (by decide +kernel)) ggX4_begunLine_X4_lineNamed
set_option maxRecDepth 20000 in
theorem ggX4_begunLine_X4_blame : GoodIn wsX4_begunLine wsX4_blame := goodIn_r _ [72, 73, 13, 74, 98, 99, 100, 101, 102, 103, 104, 105, 106, 107, 108] (by decide +kernel) (by decide +kernel)
set_option maxRecDepth 20000 in
theorem gX4_begunLine_X4_blame : GoodIn wsX4_begunLine (wsV RX4 73 RX4 yX4_blame wsX4_blame) := goodIn_app (goodIn_of _ (by decide +kernel)) ggX4_begunLine_X4_blame
set_option maxRecDepth 20000 in
theorem ggX4_begunLine_X4_advance : GoodIn wsX4_begunLine wsX4_advance := goodIn_r _ [78, 12, 13, 30, 11, 26, 27, 28, 5, 29, 31, 79, 80, 81, 82, 83, 84, 85, 86, 87, 88, 89, 90, 91, 92, 93, 94, 95, 96, 97, 98, 99, 100, 101, 102, 103, 104, 105, 106, 107, 108] (by decide +kernel) (by decide +kernel)
set_option maxRecDepth 20000 in
theorem gX4_begunLine_X4_advance : GoodIn wsX4_begunLine (wsV RX4 50 RX4 yX4_advance wsX4_advance) := goodIn_app (goodIn_of _ (by decide +kernel)) ggX4_begunLine_X4_advance
set_option maxRecDepth 20000 in
theorem ggX4_endLine_X4_advance : GoodIn wsX4_endLine wsX4_advance := goodIn_r _ [7, 8, 9, 10, 2, 11, 12, 13, 6, 14, 15, 16, 17, 18, 19, 20, 21, 22, 23, 24, 25, 26, 27, 28, 29, 30, 31, 32, 33, 34, 40, 41, 42, 43, 44, 45, 46, 47, 48, 49, 50] (by decide +kernel) (by decide +kernel)
set_option maxRecDepth 20000 in
theorem gX4_endLine_X4_advance : GoodIn wsX4_endLine (wsV RX4 50 RX4 yX4_advance wsX4_advance) := goodIn_app (goodIn_of _ (by decide +kernel)) ggX4_endLine_X4_advance
set_option maxRecDepth 20000 in
theorem ggX4_endLine_X4_blame : GoodIn wsX4_endLine wsX4_blame := goodIn_r _ [38, 1, 9, 39, 40, 41, 42, 43, 44, 45, 46, 47, 48, 49, 50] (by decide +kernel) (by decide +kernel)
set_option maxRecDepth 20000 in
theorem gX4_endLine_X4_blame : GoodIn wsX4_endLine (wsV RX4 73 RX4 yX4_blame wsX4_blame) := goodIn_app (goodIn_of _ (by decide +kernel)) ggX4_endLine_X4_blame
set_option maxRecDepth 20000 in
theorem ggX4_readRest_X4_readWays : GoodIn wsX4_readRest wsX4_readWays := goodIn_r _ [10, 1, 11, 12, 13, 14, 15, 9, 16, 17, 18, 19, 20, 21, 22, 23, 24, 25, 26, 27, 28, 29, 30, 31, 32, 33, 34, 35, 36, 37, 38, 39, 40, 41, 42, 43, 44, 45, 46, 47, 48, 49, 50, 51, 52, 53, 54, 55, 56, 57, 58, 59, 60, 61, 62, 63, 64, 65, 66, 67, 68, 69, 70, 71, 72, 73, 74, 75, 76, 77, 78, 79, 80, 81, 82, 83, 84, 85, 86, 87, 88, 89, 90, 91, 92, 93, 94, 95, 96, 97, 98, 99, 100, 101, 102, 103, 104, 105, 106, 107, 118, 119, 120, 121, 122, 123, 124, 125, 126, 127, 128, 129, 130, 131, 132, 133, 134, 135, 136, 137] (by decide +kernel) (by decide +kernel)
set_option maxRecDepth 20000 in
theorem gX4_readRest_X4_readWays : GoodIn wsX4_readRest (wsV RX4 76 RX4 yX4_readWays wsX4_readWays) := goodIn_app (goodIn_of _ (by decide +kernel)) ggX4_readRest_X4_readWays
set_option maxRecDepth 20000 in
theorem ggX4_readRest_X4_readNumber : GoodIn wsX4_readRest wsX4_readNumber := goodIn_r _ [111, 21, 102, 79, 80, 81, 9, 82, 83, 23, 84, 85, 86, 87, 88, 22, 40, 36, 37, 38, 39, 41, 89, 90, 91, 92, 93, 94, 95, 96, 97, 98, 99, 100, 101, 103, 104, 105, 106, 107, 118, 119, 120, 121, 122, 123, 124, 125, 126, 127, 128] (by decide +kernel) (by decide +kernel)
set_option maxRecDepth 20000 in
theorem gX4_readRest_X4_readNumber : GoodIn wsX4_readRest (wsV RX4 79 RX4 yX4_readNumber wsX4_readNumber) := goodIn_app (goodIn_of _ (by decide +kernel)) ggX4_readRest_X4_readNumber
set_option maxRecDepth 20000 in
theorem ggX4_readRest_X4_readAges : GoodIn wsX4_readRest wsX4_readAges := goodIn_r _ [115, 1, 116, 83, 117, 108, 109, 110, 9, 111, 21, 102, 79, 80, 81, 82, 23, 84, 85, 86, 87, 88, 22, 40, 36, 37, 38, 39, 41, 89, 90, 91, 92, 93, 94, 95, 96, 97, 98, 99, 100, 101, 103, 104, 105, 106, 107, 118, 119, 120, 121, 122, 123, 124, 125, 126, 127, 128, 129, 130, 131, 132, 133, 134, 135, 136, 137] (by decide +kernel) (by decide +kernel)
set_option maxRecDepth 20000 in
theorem gX4_readRest_X4_readAges : GoodIn wsX4_readRest (wsV RX4 85 RX4 yX4_readAges wsX4_readAges) := goodIn_app (goodIn_of _ (by decide +kernel)) ggX4_readRest_X4_readAges
set_option maxRecDepth 20000 in
theorem ggX4_readWays_X4_wayNamed : GoodIn wsX4_readWays wsX4_wayNamed := goodIn_r _ [8, 9, 10, 11, 7, 12, 13, 14, 15, 16, 17, 18, 19, 20, 21, 22, 23, 24, 25, 26, 27, 28, 29, 30, 31, 32, 33, 34, 35, 36, 37, 38, 39, 40, 41, 42, 43, 44, 45, 46, 47, 48, 49, 50, 51, 52, 53, 54, 55, 56, 57, 58, 59, 60, 61, 62, 63, 64, 65, 66, 67, 68, 69, 70, 100, 101, 102, 103, 104, 105, 106, 107, 108, 109, 110] (by decide +kernel) (by decide +kernel)
set_option maxRecDepth 20000 in
theorem gX4_readWays_X4_wayNamed : GoodIn wsX4_readWays (wsV RX4 97 RX4 yX4_wayNamed wsX4_wayNamed) := goodIn_app (goodIn_of _ (by decide +kernel)) ggX4_readWays_X4_wayNamed
set_option maxRecDepth 20000 in
theorem ggX4_readWays_X4_blame : GoodIn wsX4_readWays wsX4_blame := goodIn_r _ [74, 75, 15, 76, 100, 101, 102, 103, 104, 105, 106, 107, 108, 109, 110] (by decide +kernel) (by decide +kernel)
set_option maxRecDepth 20000 in
theorem gX4_readWays_X4_blame : GoodIn wsX4_readWays (wsV RX4 73 RX4 yX4_blame wsX4_blame) := goodIn_app (goodIn_of _ (by decide +kernel)) ggX4_readWays_X4_blame
set_option maxRecDepth 20000 in
theorem ggX4_readWays_X4_advance : GoodIn wsX4_readWays wsX4_advance := goodIn_r _ [80, 14, 15, 32, 13, 28, 29, 30, 7, 31, 33, 81, 82, 83, 84, 85, 86, 87, 88, 89, 90, 91, 92, 93, 94, 95, 96, 97, 98, 99, 100, 101, 102, 103, 104, 105, 106, 107, 108, 109, 110] (by decide +kernel) (by decide +kernel)
set_option maxRecDepth 20000 in
theorem gX4_readWays_X4_advance : GoodIn wsX4_readWays (wsV RX4 50 RX4 yX4_advance wsX4_advance) := goodIn_app (goodIn_of _ (by decide +kernel)) ggX4_readWays_X4_advance
set_option maxRecDepth 20000 in
theorem ggX4_readAges_X4_readNumber : GoodIn wsX4_readAges wsX4_readNumber := goodIn_r _ [9, 10, 11, 12, 13, 14, 8, 15, 3, 16, 17, 18, 19, 20, 21, 22, 23, 24, 25, 26, 27, 28, 29, 30, 31, 32, 33, 34, 35, 36, 37, 38, 39, 40, 41, 42, 43, 44, 45, 46, 47, 48, 49, 50, 51, 52, 53, 54, 55, 56, 57] (by decide +kernel) (by decide +kernel)
set_option maxRecDepth 20000 in
theorem gX4_readAges_X4_readNumber : GoodIn wsX4_readAges (wsV RX4 79 RX4 yX4_readNumber wsX4_readNumber) := goodIn_app (goodIn_of _ (by decide +kernel)) ggX4_readAges_X4_readNumber
set_option maxRecDepth 20000 in
theorem ggX4_readNumber_X4_blame : GoodIn wsX4_readNumber wsX4_blame := goodIn_r _ [7, 8, 9, 10, 40, 41, 42, 43, 44, 45, 46, 47, 48, 49, 50] (by decide +kernel) (by decide +kernel)
set_option maxRecDepth 20000 in
theorem gX4_readNumber_X4_blame : GoodIn wsX4_readNumber (wsV RX4 73 RX4 yX4_blame wsX4_blame) := goodIn_app (goodIn_of _ (by decide +kernel)) ggX4_readNumber_X4_blame
set_option maxRecDepth 20000 in
theorem ggX4_readNumber_X4_advance : GoodIn wsX4_readNumber wsX4_advance := goodIn_r _ [14, 15, 9, 16, 1, 17, 18, 19, 6, 20, 21, 22, 23, 24, 25, 26, 27, 28, 29, 30, 31, 32, 33, 34, 2, 35, 36, 37, 38, 39, 40, 41, 42, 43, 44, 45, 46, 47, 48, 49, 50] (by decide +kernel) (by decide +kernel)
set_option maxRecDepth 20000 in
theorem gX4_readNumber_X4_advance : GoodIn wsX4_readNumber (wsV RX4 50 RX4 yX4_advance wsX4_advance) := goodIn_app (goodIn_of _ (by decide +kernel)) ggX4_readNumber_X4_advance
set_option maxRecDepth 20000 in
theorem ggX4_lineNamed_X4_isWord : GoodIn wsX4_lineNamed wsX4_isWord := goodIn_r _ [5, 6, 7, 8, 9, 10, 11, 12, 13, 14, 15, 16, 17, 18, 19, 20, 21, 22, 23, 4, 24, 25, 26, 27, 28, 29, 30, 31, 32, 33, 34, 35, 36, 37, 38, 39, 40, 41, 42, 43, 44, 45, 46, 47, 48, 49, 50, 51, 52, 53, 54, 55, 56, 57, 58, 59, 60, 61, 62, 63, 64, 65, 66, 67, 68, 69, 70, 71, 72, 73, 74] (by decide +kernel) (by decide +kernel)
set_option maxRecDepth 20000 in
theorem gX4_lineNamed_X4_isWord : GoodIn wsX4_lineNamed (wsV RX4 117 RX4 yX4_isWord wsX4_isWord) := goodIn_app (goodIn_of _ (by decide +kernel)) ggX4_lineNamed_X4_isWord
set_option maxRecDepth 20000 in
theorem ggX4_wayNamed_X4_isWord : GoodIn wsX4_wayNamed wsX4_isWord := goodIn_r _ [5, 6, 7, 8, 9, 10, 11, 12, 13, 14, 15, 16, 17, 18, 19, 20, 21, 22, 23, 4, 24, 25, 26, 27, 28, 29, 30, 31, 32, 33, 34, 35, 36, 37, 38, 39, 40, 41, 42, 43, 44, 45, 46, 47, 48, 49, 50, 51, 52, 53, 54, 55, 56, 57, 58, 59, 60, 61, 62, 63, 64, 65, 66, 67, 68, 69, 70, 71, 72, 73, 74] (by decide +kernel) (by decide +kernel)
set_option maxRecDepth 20000 in
theorem gX4_wayNamed_X4_isWord : GoodIn wsX4_wayNamed (wsV RX4 117 RX4 yX4_isWord wsX4_isWord) := goodIn_app (goodIn_of _ (by decide +kernel)) ggX4_wayNamed_X4_isWord
set_option maxRecDepth 20000 in
theorem ggX4_isWord_J0_length_8abf5 : GoodIn wsX4_isWord wsJ0_length_8abf5 := goodIn_r _ [8, 9, 10, 11, 12, 7, 13, 14, 15] (by decide +kernel) (by decide +kernel)
set_option maxRecDepth 20000 in
theorem gX4_isWord_J0_length_8abf5 : GoodIn wsX4_isWord (wsV RX4 131 RJ0 yJ0_length_8abf5 wsJ0_length_8abf5) := goodIn_app (goodIn_of _ (by decide +kernel)) ggX4_isWord_J0_length_8abf5
set_option maxRecDepth 20000 in
theorem ggX4_isWord_X4_signAt : GoodIn wsX4_isWord wsX4_signAt := goodIn_r _ [20, 21, 22, 60, 61, 62, 63, 64, 65, 66, 67, 68, 69, 70] (by decide +kernel) (by decide +kernel)
set_option maxRecDepth 20000 in
theorem gX4_isWord_X4_signAt : GoodIn wsX4_isWord (wsV RX4 135 RX4 yX4_signAt wsX4_signAt) := goodIn_app (goodIn_of _ (by decide +kernel)) ggX4_isWord_X4_signAt
set_option maxRecDepth 20000 in
theorem ggX4_isWord_J0_charAt_5068e : GoodIn wsX4_isWord wsJ0_charAt_5068e := goodIn_r _ [26, 9, 27, 28, 29, 7, 30, 14, 15, 31, 32, 33, 34, 35, 36, 37, 38, 39, 40, 41, 42, 43, 44, 45, 46, 47, 48, 49, 50, 51, 52, 53, 54, 55, 56, 57, 58, 59] (by decide +kernel) (by decide +kernel)
set_option maxRecDepth 20000 in
theorem gX4_isWord_J0_charAt_5068e : GoodIn wsX4_isWord (wsV RX4 139 RJ0 yJ0_charAt_5068e wsJ0_charAt_5068e) := goodIn_app (goodIn_of _ (by decide +kernel)) ggX4_isWord_J0_charAt_5068e
set_option maxRecDepth 20000 in
theorem ggX4_advance_X4_signAt : GoodIn wsX4_advance wsX4_signAt := goodIn_r _ [9, 3, 10, 30, 31, 32, 33, 34, 35, 36, 37, 38, 39, 40] (by decide +kernel) (by decide +kernel)
set_option maxRecDepth 20000 in
theorem gX4_advance_X4_signAt : GoodIn wsX4_advance (wsV RX4 135 RX4 yX4_signAt wsX4_signAt) := goodIn_app (goodIn_of _ (by decide +kernel)) ggX4_advance_X4_signAt
set_option maxRecDepth 20000 in
theorem ggX4_advance_X4_isBlank : GoodIn wsX4_advance wsX4_isBlank := goodIn_r _ [13] (by decide +kernel) (by decide +kernel)
set_option maxRecDepth 20000 in
theorem gX4_advance_X4_isBlank : GoodIn wsX4_advance (va_wsS RX4 143 yX4_isBlank wsX4_isBlank) := goodIn_app (goodIn_of _ (by decide +kernel)) ggX4_advance_X4_isBlank
set_option maxRecDepth 20000 in
theorem ggX4_advance_X4_isLetter : GoodIn wsX4_advance wsX4_isLetter := goodIn_r _ [16] (by decide +kernel) (by decide +kernel)
set_option maxRecDepth 20000 in
theorem gX4_advance_X4_isLetter : GoodIn wsX4_advance (va_wsS RX4 147 yX4_isLetter wsX4_isLetter) := goodIn_app (goodIn_of _ (by decide +kernel)) ggX4_advance_X4_isLetter
set_option maxRecDepth 20000 in
theorem ggX4_advance_X4_isDigit : GoodIn wsX4_advance wsX4_isDigit := goodIn_r _ [19] (by decide +kernel) (by decide +kernel)
set_option maxRecDepth 20000 in
theorem gX4_advance_X4_isDigit : GoodIn wsX4_advance (va_wsS RX4 150 yX4_isDigit wsX4_isDigit) := goodIn_app (goodIn_of _ (by decide +kernel)) ggX4_advance_X4_isDigit
set_option maxRecDepth 20000 in
theorem ggX4_advance_X4_scanDigits : GoodIn wsX4_advance wsX4_scanDigits := goodIn_r _ [23, 24, 1, 3, 25, 26, 27, 28, 29, 5, 6, 7, 8, 9, 10, 17, 18, 19, 30, 31, 32, 33, 34, 35, 36, 37, 38, 39, 40] (by decide +kernel) (by decide +kernel)
set_option maxRecDepth 20000 in
theorem gX4_advance_X4_scanDigits : GoodIn wsX4_advance (wsV RX4 153 RX4 yX4_scanDigits wsX4_scanDigits) := goodIn_app (goodIn_of _ (by decide +kernel)) ggX4_advance_X4_scanDigits
set_option maxRecDepth 20000 in
theorem ggX4_scanDigits_X4_signAt : GoodIn wsX4_scanDigits wsX4_signAt := goodIn_r _ [13, 3, 14, 18, 19, 20, 21, 22, 23, 24, 25, 26, 27, 28] (by decide +kernel) (by decide +kernel)
set_option maxRecDepth 20000 in
theorem gX4_scanDigits_X4_signAt : GoodIn wsX4_scanDigits (wsV RX4 135 RX4 yX4_signAt wsX4_signAt) := goodIn_app (goodIn_of _ (by decide +kernel)) ggX4_scanDigits_X4_signAt
set_option maxRecDepth 20000 in
theorem ggX4_scanDigits_X4_isDigit : GoodIn wsX4_scanDigits wsX4_isDigit := goodIn_r _ [17] (by decide +kernel) (by decide +kernel)
set_option maxRecDepth 20000 in
theorem gX4_scanDigits_X4_isDigit : GoodIn wsX4_scanDigits (va_wsS RX4 150 yX4_isDigit wsX4_isDigit) := goodIn_app (goodIn_of _ (by decide +kernel)) ggX4_scanDigits_X4_isDigit
set_option maxRecDepth 20000 in
theorem ggX5_init_X5_sayNothing : GoodIn wsX5_init wsX5_sayNothing := goodIn_r _ [10, 5, 11, 12, 13, 14, 15, 16, 17, 18, 19, 20, 21, 22, 23, 24, 25, 26, 27] (by decide +kernel) (by decide +kernel)
set_option maxRecDepth 20000 in
theorem gX5_init_X5_sayNothing : GoodIn wsX5_init (wsV RX5 15 RX5 yX5_sayNothing wsX5_sayNothing) := goodIn_app (goodIn_of _ (by decide +kernel)) ggX5_init_X5_sayNothing
set_option maxRecDepth 20000 in
theorem ggX6_wearOut_X6_has : GoodIn wsX6_wearOut wsX6_has := goodIn_r _ [7, 8, 9, 10, 11, 12, 13] (by decide +kernel) (by decide +kernel)
set_option maxRecDepth 20000 in
theorem gX6_wearOut_X6_has : GoodIn wsX6_wearOut (wsV RX6 29 RX6 yX6_has wsX6_has) := goodIn_app (goodIn_of _ (by decide +kernel)) ggX6_wearOut_X6_has
set_option maxRecDepth 20000 in
theorem ggX7_init_X4_init : GoodIn wsX7_init wsX4_init := goodIn_r _ [34, 35, 2, 3, 36, 9, 10, 37, 38, 39, 40, 41, 42, 43, 44, 45, 46, 47, 48, 49, 50, 51, 52, 53, 54, 55, 56, 57, 58, 59, 119, 120, 121, 122, 123, 124, 125, 126, 127, 100, 101, 102, 103, 104, 105, 106, 107, 108, 109, 110] (by decide +kernel) (by decide +kernel)
set_option maxRecDepth 20000 in
theorem gX7_init_X4_init_n9 : GoodIn wsX7_init (wsX4_init) := ggX7_init_X4_init
set_option maxRecDepth 20000 in
theorem ggX7_init_X5_init : GoodIn wsX7_init wsX5_init := goodIn_r _ [44, 45, 2, 3, 46, 47, 48, 49, 50, 10, 51, 52, 53, 54, 55, 56, 57, 58, 59, 119, 120, 121, 122, 123, 124, 125, 126, 127] (by decide +kernel) (by decide +kernel)
set_option maxRecDepth 20000 in
theorem gX7_init_X5_init : GoodIn wsX7_init (wsX5_init) := ggX7_init_X5_init
set_option maxRecDepth 20000 in
theorem ggX7_init_X3_init : GoodIn wsX7_init wsX3_init := goodIn_r _ [62, 63, 2, 3, 46, 64, 65, 128, 129, 130, 131] (by decide +kernel) (by decide +kernel)
set_option maxRecDepth 20000 in
theorem gX7_init_X3_init_n25 : GoodIn wsX7_init (wsX3_init) := ggX7_init_X3_init
set_option maxRecDepth 20000 in
theorem ggX7_init_X1_init : GoodIn wsX7_init wsX1_init := goodIn_r _ [67, 68, 2, 3, 46, 69, 70, 71, 72, 73, 74, 132, 133, 134, 135, 136, 137, 138] (by decide +kernel) (by decide +kernel)
set_option maxRecDepth 20000 in
theorem gX7_init_X1_init_n32 : GoodIn wsX7_init (wsX1_init) := ggX7_init_X1_init
set_option maxRecDepth 20000 in
theorem ggX7_init_X6_init : GoodIn wsX7_init wsX6_init := goodIn_r _ [76, 77, 2, 3, 46, 78, 79, 80, 81, 82, 139, 140, 141, 142, 143] (by decide +kernel) (by decide +kernel)
set_option maxRecDepth 20000 in
theorem gX7_init_X6_init_n39 : GoodIn wsX7_init (wsX6_init) := ggX7_init_X6_init
set_option maxRecDepth 20000 in
theorem ggX7_init_X2_init : GoodIn wsX7_init wsX2_init := goodIn_r _ [84, 85, 2, 3, 46, 86, 87, 88, 89, 90, 144, 145, 146, 147, 148, 149] (by decide +kernel) (by decide +kernel)
set_option maxRecDepth 20000 in
theorem gX7_init_X2_init_n46 : GoodIn wsX7_init (wsX2_init) := ggX7_init_X2_init
set_option maxRecDepth 20000 in
theorem ggX7_init_X0_init : GoodIn wsX7_init wsX0_init := goodIn_r _ [92, 93, 2, 3, 46, 94, 95, 96, 97, 98, 99, 150, 151, 152, 153, 154, 155, 156, 157, 158] (by decide +kernel) (by decide +kernel)
set_option maxRecDepth 20000 in
theorem gX7_init_X0_init_n53 : GoodIn wsX7_init (wsX0_init) := ggX7_init_X0_init
set_option maxRecDepth 20000 in
theorem ggX7_feed_X4_append : GoodIn wsX7_feed wsX4_append := goodIn_r _ [7, 8, 9, 18, 19, 20, 21, 22, 23, 24, 25, 26, 27, 28] (by decide +kernel) (by decide +kernel)
set_option maxRecDepth 20000 in
theorem gX7_feed_X4_append : GoodIn wsX7_feed (wsV RX7 65 RX4 yX4_append wsX4_append) := goodIn_app (goodIn_of _ (by decide +kernel)) ggX7_feed_X4_append
set_option maxRecDepth 20000 in
theorem ggX7_statutes_X4_read : GoodIn wsX7_statutes wsX4_read := goodIn_r _ [9, 10, 11, 12, 13, 14, 15, 16, 17, 18, 19, 20, 21, 22, 23, 24, 25, 26, 27, 28, 29, 30, 31, 32, 33, 34, 35, 36, 37, 38, 8, 39, 40, 41, 42, 43, 44, 45, 46, 47, 48, 49, 50, 51, 52, 53, 54, 55, 56, 57, 58, 59, 60, 61, 62, 63, 64, 65, 66, 67, 68, 69, 70, 71, 72, 73, 74, 75, 76, 77, 78, 79, 80, 81, 82, 83, 84, 85, 86, 87, 88, 89, 90, 91, 92, 93, 94, 95, 96, 97, 98, 99, 100, 101, 102, 103, 104, 105, 106, 107, 108, 109, 110, 111, 112, 113, 114, 115, 116, 117, 118, 119, 120, 121, 122, 123, 124, 125, 126, 127, 128, 129, 130, 131, 132, 133, 134, 135, 136, 137, 138, 139, 140, 141, 142, 143, 144, 145, 146, 147, 148, 149, 150, 151, 152, 153, 154, 155, 156, 157, 174, 175, 176, 177, 178, 179, 180, 181, 182, 183, 184, 185, 186, 187, 188, 189, 190, 191, 192, 193] (by decide +kernel) (by decide +kernel)
set_option maxRecDepth 20000 in
theorem gX7_statutes_X4_read : GoodIn wsX7_statutes (wsV RX7 69 RX4 yX4_read wsX4_read) := goodIn_app (goodIn_of _ (by decide +kernel)) ggX7_statutes_X4_read
set_option maxRecDepth 20000 in
theorem ggX7_statutes_X5_takeOver : GoodIn wsX7_statutes wsX5_takeOver := goodIn_r _ [161, 27, 162, 163, 164, 165, 28, 29, 30, 31, 32, 33, 34, 35, 185, 186, 187, 188, 189, 190, 191, 192, 193] (by decide +kernel) (by decide +kernel)
set_option maxRecDepth 20000 in
theorem gX7_statutes_X5_takeOver : GoodIn wsX7_statutes (wsV RX7 76 RX5 yX5_takeOver wsX5_takeOver) := goodIn_app (goodIn_of _ (by decide +kernel)) ggX7_statutes_X5_takeOver
set_option maxRecDepth 20000 in
theorem ggX7_giver_X3_add : GoodIn wsX7_giver wsX3_add := goodIn_r _ [6, 7, 8, 9, 18, 19, 20, 21] (by decide +kernel) (by decide +kernel)
set_option maxRecDepth 20000 in
theorem gX7_giver_X3_add : GoodIn wsX7_giver (wsV RX7 86 RX3 yX3_add wsX3_add) := goodIn_app (goodIn_of _ (by decide +kernel)) ggX7_giver_X3_add
set_option maxRecDepth 20000 in
theorem ggX7_gift_X3_has : GoodIn wsX7_gift wsX3_has := goodIn_r _ [6, 7, 23, 24, 25, 26] (by decide +kernel) (by decide +kernel)
set_option maxRecDepth 20000 in
theorem gX7_gift_X3_has : GoodIn wsX7_gift (wsV RX7 90 RX3 yX3_has wsX3_has) := goodIn_app (goodIn_of _ (by decide +kernel)) ggX7_gift_X3_has
set_option maxRecDepth 20000 in
theorem ggX7_gift_X3_take : GoodIn wsX7_gift wsX3_take := goodIn_r _ [11, 12, 13, 14, 3, 4, 5, 6, 7, 23, 24, 25, 26] (by decide +kernel) (by decide +kernel)
set_option maxRecDepth 20000 in
theorem gX7_gift_X3_take : GoodIn wsX7_gift (wsV RX7 94 RX3 yX3_take wsX3_take) := goodIn_app (goodIn_of _ (by decide +kernel)) ggX7_gift_X3_take
set_option maxRecDepth 20000 in
theorem ggX7_support_X3_has : GoodIn wsX7_support wsX3_has := goodIn_r _ [8, 9, 24, 25, 26, 27] (by decide +kernel) (by decide +kernel)
set_option maxRecDepth 20000 in
theorem gX7_support_X3_has : GoodIn wsX7_support (wsV RX7 90 RX3 yX3_has wsX3_has) := goodIn_app (goodIn_of _ (by decide +kernel)) ggX7_support_X3_has
set_option maxRecDepth 20000 in
theorem ggX7_support_X1_has : GoodIn wsX7_support wsX1_has := goodIn_r _ [14, 15, 28, 29, 30, 31, 32, 33, 34] (by decide +kernel) (by decide +kernel)
set_option maxRecDepth 20000 in
theorem gX7_support_X1_has : GoodIn wsX7_support (wsV RX7 98 RX1 yX1_has wsX1_has) := goodIn_app (goodIn_of _ (by decide +kernel)) ggX7_support_X1_has
set_option maxRecDepth 20000 in
theorem ggX7_child_X1_add : GoodIn wsX7_child wsX1_add := goodIn_r _ [6, 7, 8, 9, 10, 11, 12, 13, 14, 15, 5, 16, 25, 26, 27, 28, 29, 30, 31] (by decide +kernel) (by decide +kernel)
set_option maxRecDepth 20000 in
theorem gX7_child_X1_add : GoodIn wsX7_child (wsV RX7 103 RX1 yX1_add wsX1_add) := goodIn_app (goodIn_of _ (by decide +kernel)) ggX7_child_X1_add
set_option maxRecDepth 20000 in
theorem ggX7_fill_X1_in : GoodIn wsX7_fill wsX1_in := goodIn_r _ [9, 10, 11, 91, 92, 93, 94, 95, 96, 97] (by decide +kernel) (by decide +kernel)
set_option maxRecDepth 20000 in
theorem gX7_fill_X1_in : GoodIn wsX7_fill (wsV RX7 106 RX1 yX1_in wsX1_in) := goodIn_app (goodIn_of _ (by decide +kernel)) ggX7_fill_X1_in
set_option maxRecDepth 20000 in
theorem ggX7_fill_X5_wayNext : GoodIn wsX7_fill wsX5_wayNext := goodIn_r _ [16, 17, 18, 82, 83, 84, 85, 86, 87, 88, 89, 90] (by decide +kernel) (by decide +kernel)
set_option maxRecDepth 20000 in
theorem gX7_fill_X5_wayNext : GoodIn wsX7_fill (wsV RX7 112 RX5 yX5_wayNext wsX5_wayNext) := goodIn_app (goodIn_of _ (by decide +kernel)) ggX7_fill_X5_wayNext
set_option maxRecDepth 20000 in
theorem ggX7_fill_X7_chosenBy : GoodIn wsX7_fill wsX7_chosenBy := goodIn_r _ [23, 24, 25, 26, 22, 27, 28, 29, 30, 31, 32, 33, 34, 35, 36, 37, 38, 39, 40, 41, 42, 43, 44, 45, 1, 4, 46, 2, 47, 48, 49, 50, 51, 8, 52, 10, 53, 54, 55, 56, 57, 58, 59, 60, 61, 62, 63, 64, 65, 66, 67, 68, 74, 75, 76, 77, 78, 79, 80, 81, 98, 99, 100, 101, 91, 92, 93, 94, 95, 96, 97, 82, 83, 84, 85, 86, 87, 88, 89, 90] (by decide +kernel) (by decide +kernel)
set_option maxRecDepth 20000 in
theorem gX7_fill_X7_chosenBy : GoodIn wsX7_fill (wsV RX7 115 RX7 yX7_chosenBy wsX7_chosenBy) := goodIn_app (goodIn_of _ (by decide +kernel)) ggX7_fill_X7_chosenBy
set_option maxRecDepth 20000 in
theorem ggX7_fill_X1_has : GoodIn wsX7_fill wsX1_has := goodIn_r _ [52, 10, 91, 92, 93, 94, 95, 96, 97] (by decide +kernel) (by decide +kernel)
set_option maxRecDepth 20000 in
theorem gX7_fill_X1_has : GoodIn wsX7_fill (wsV RX7 98 RX1 yX1_has wsX1_has) := goodIn_app (goodIn_of _ (by decide +kernel)) ggX7_fill_X1_has
set_option maxRecDepth 20000 in
theorem ggX7_fill_X5_goOn : GoodIn wsX7_fill wsX5_goOn := goodIn_r _ [72, 17, 73, 82, 83, 84, 85, 86, 87, 88, 89, 90] (by decide +kernel) (by decide +kernel)
set_option maxRecDepth 20000 in
theorem gX7_fill_X5_goOn : GoodIn wsX7_fill (wsV RX7 121 RX5 yX5_goOn wsX5_goOn) := goodIn_app (goodIn_of _ (by decide +kernel)) ggX7_fill_X5_goOn
set_option maxRecDepth 20000 in
theorem ggX7_chosenBy_X7_chosenByTurn : GoodIn wsX7_chosenBy wsX7_chosenByTurn := goodIn_r _ [5, 6, 7, 8, 9, 10, 11, 12, 13, 14, 15, 16, 17, 18, 19, 20, 21, 22, 4, 23, 24, 25, 26, 27, 28, 29, 30, 31, 32, 33, 34, 35, 52, 53, 54, 55, 56, 57, 58, 59, 60, 61, 62, 63, 64, 65, 66, 67, 68, 69, 70, 71, 72, 73, 74, 75, 76, 77, 78, 79] (by decide +kernel) (by decide +kernel)
set_option maxRecDepth 20000 in
theorem gX7_chosenBy_X7_chosenByTurn : GoodIn wsX7_chosenBy (wsV RX7 124 RX7 yX7_chosenByTurn wsX7_chosenByTurn) := goodIn_app (goodIn_of _ (by decide +kernel)) ggX7_chosenBy_X7_chosenByTurn
set_option maxRecDepth 20000 in
theorem ggX7_chosenBy_X7_chosenByVote : GoodIn wsX7_chosenBy wsX7_chosenByVote := goodIn_r _ [39, 24, 40, 6, 27, 41, 42, 20, 21, 22, 4, 23, 25, 26, 28, 29, 30, 31, 32, 33, 34, 35, 43, 44, 45, 12, 46, 19, 14, 47, 52, 53, 54, 55, 56, 57, 58, 59, 64, 65, 66, 67, 68, 69, 70, 71, 72, 73, 74, 75, 76, 77, 78, 79, 60, 61, 62, 63] (by decide +kernel) (by decide +kernel)
set_option maxRecDepth 20000 in
theorem gX7_chosenBy_X7_chosenByVote : GoodIn wsX7_chosenBy (wsV RX7 127 RX7 yX7_chosenByVote wsX7_chosenByVote) := goodIn_app (goodIn_of _ (by decide +kernel)) ggX7_chosenBy_X7_chosenByVote
set_option maxRecDepth 20000 in
theorem ggX7_chosenBy_X7_chosenByNeed : GoodIn wsX7_chosenBy wsX7_chosenByNeed := goodIn_r _ [51, 24, 40, 42, 20, 21, 22, 4, 23, 25, 26, 27, 28, 29, 30, 31, 32, 33, 34, 35, 52, 53, 54, 55, 56, 57, 58, 59, 64, 65, 66, 67, 68, 69, 70, 71, 72, 73, 74, 75, 76, 77, 78, 79] (by decide +kernel) (by decide +kernel)
set_option maxRecDepth 20000 in
theorem gX7_chosenBy_X7_chosenByNeed : GoodIn wsX7_chosenBy (wsV RX7 130 RX7 yX7_chosenByNeed wsX7_chosenByNeed) := goodIn_app (goodIn_of _ (by decide +kernel)) ggX7_chosenBy_X7_chosenByNeed
set_option maxRecDepth 20000 in
theorem ggX7_chosenByTurn_X3_childOf : GoodIn wsX7_chosenByTurn wsX3_childOf := goodIn_r _ [8, 9, 10, 11, 12, 7, 13, 14, 40, 41, 42, 43] (by decide +kernel) (by decide +kernel)
set_option maxRecDepth 20000 in
theorem gX7_chosenByTurn_X3_childOf : GoodIn wsX7_chosenByTurn (wsV RX7 139 RX3 yX3_childOf wsX3_childOf) := goodIn_app (goodIn_of _ (by decide +kernel)) ggX7_chosenByTurn_X3_childOf
set_option maxRecDepth 20000 in
theorem ggX7_chosenByTurn_X7_mayCome : GoodIn wsX7_chosenByTurn wsX7_mayCome := goodIn_r _ [19, 20, 21, 22, 23, 24, 25, 26, 27, 28, 29, 30, 31, 32, 33, 34, 35, 36, 37, 38, 39, 44, 45, 46, 47, 48, 49, 50, 51, 52, 53, 54, 55, 56, 57, 58, 59] (by decide +kernel) (by decide +kernel)
set_option maxRecDepth 20000 in
theorem gX7_chosenByTurn_X7_mayCome : GoodIn wsX7_chosenByTurn (wsV RX7 142 RX7 yX7_mayCome wsX7_mayCome) := goodIn_app (goodIn_of _ (by decide +kernel)) ggX7_chosenByTurn_X7_mayCome
set_option maxRecDepth 20000 in
theorem ggX7_chosenByVote_X7_mayCome : GoodIn wsX7_chosenByVote wsX7_mayCome := goodIn_r _ [11, 1, 12, 13, 4, 14, 15, 16, 17, 18, 19, 20, 21, 30, 31, 32, 33, 34, 35, 36, 37, 38, 39, 40, 41, 42, 43, 44, 45, 46, 47, 48, 49, 50, 51, 52, 53] (by decide +kernel) (by decide +kernel)
set_option maxRecDepth 20000 in
theorem gX7_chosenByVote_X7_mayCome : GoodIn wsX7_chosenByVote (wsV RX7 142 RX7 yX7_mayCome wsX7_mayCome) := goodIn_app (goodIn_of _ (by decide +kernel)) ggX7_chosenByVote_X7_mayCome
set_option maxRecDepth 20000 in
theorem ggX7_chosenByVote_X3_votesFor : GoodIn wsX7_chosenByVote wsX3_votesFor := goodIn_r _ [26, 27, 28, 29, 54, 55, 56, 57] (by decide +kernel) (by decide +kernel)
set_option maxRecDepth 20000 in
theorem gX7_chosenByVote_X3_votesFor : GoodIn wsX7_chosenByVote (wsV RX7 149 RX3 yX3_votesFor wsX3_votesFor) := goodIn_app (goodIn_of _ (by decide +kernel)) ggX7_chosenByVote_X3_votesFor
set_option maxRecDepth 20000 in
theorem ggX7_chosenByNeed_X7_mayCome : GoodIn wsX7_chosenByNeed wsX7_mayCome := goodIn_r _ [8, 1, 9, 10, 11, 12, 13, 14, 15, 16, 17, 18, 19, 20, 21, 22, 23, 24, 25, 26, 27, 28, 29, 30, 31, 32, 33, 34, 35, 36, 37, 38, 39, 40, 41, 42, 43] (by decide +kernel) (by decide +kernel)
set_option maxRecDepth 20000 in
theorem gX7_chosenByNeed_X7_mayCome : GoodIn wsX7_chosenByNeed (wsV RX7 142 RX7 yX7_mayCome wsX7_mayCome) := goodIn_app (goodIn_of _ (by decide +kernel)) ggX7_chosenByNeed_X7_mayCome
set_option maxRecDepth 20000 in
theorem ggX7_mayCome_X1_has : GoodIn wsX7_mayCome wsX1_has := goodIn_r _ [11, 12, 21, 22, 23, 24, 25, 26, 27] (by decide +kernel) (by decide +kernel)
set_option maxRecDepth 20000 in
theorem gX7_mayCome_X1_has : GoodIn wsX7_mayCome (wsV RX7 98 RX1 yX1_has wsX1_has) := goodIn_app (goodIn_of _ (by decide +kernel)) ggX7_mayCome_X1_has
set_option maxRecDepth 20000 in
theorem ggX7_year_X1_grow : GoodIn wsX7_year wsX1_grow := goodIn_r _ [16, 17, 18, 19, 20, 21, 22, 23, 24, 25, 26, 15, 27, 28, 57, 58, 59, 60, 61, 62, 63] (by decide +kernel) (by decide +kernel)
set_option maxRecDepth 20000 in
theorem gX7_year_X1_grow : GoodIn wsX7_year (wsV RX7 164 RX1 yX1_grow wsX1_grow) := goodIn_app (goodIn_of _ (by decide +kernel)) ggX7_year_X1_grow
set_option maxRecDepth 20000 in
theorem ggX7_year_X7_handIn : GoodIn wsX7_year wsX7_handIn := goodIn_r _ [33, 9, 34, 2, 8, 35, 36, 37, 38, 39, 40, 41, 25, 26, 15, 27, 28, 49, 50, 51, 52, 53, 54, 55, 56, 73, 74, 75, 76, 77, 57, 58, 59, 60, 61, 62, 63] (by decide +kernel) (by decide +kernel)
set_option maxRecDepth 20000 in
theorem gX7_year_X7_handIn : GoodIn wsX7_year (wsV RX7 170 RX7 yX7_handIn wsX7_handIn) := goodIn_app (goodIn_of _ (by decide +kernel)) ggX7_year_X7_handIn
set_option maxRecDepth 20000 in
theorem ggX7_year_X6_wearOut : GoodIn wsX7_year wsX6_wearOut := goodIn_r _ [45, 46, 47, 48, 36, 37, 38, 39, 40, 73, 74, 75, 76, 77] (by decide +kernel) (by decide +kernel)
set_option maxRecDepth 20000 in
theorem gX7_year_X6_wearOut : GoodIn wsX7_year (wsV RX7 177 RX6 yX6_wearOut wsX6_wearOut) := goodIn_app (goodIn_of _ (by decide +kernel)) ggX7_year_X6_wearOut
set_option maxRecDepth 20000 in
theorem ggX7_handIn_X6_has : GoodIn wsX7_handIn wsX6_has := goodIn_r _ [9, 10, 25, 26, 27, 28, 29] (by decide +kernel) (by decide +kernel)
set_option maxRecDepth 20000 in
theorem gX7_handIn_X6_has : GoodIn wsX7_handIn (wsV RX7 181 RX6 yX6_has wsX6_has) := goodIn_app (goodIn_of _ (by decide +kernel)) ggX7_handIn_X6_has
set_option maxRecDepth 20000 in
theorem ggX7_handIn_X1_has : GoodIn wsX7_handIn wsX1_has := goodIn_r _ [15, 16, 30, 31, 32, 33, 34, 35, 36] (by decide +kernel) (by decide +kernel)
set_option maxRecDepth 20000 in
theorem gX7_handIn_X1_has : GoodIn wsX7_handIn (wsV RX7 98 RX1 yX1_has wsX1_has) := goodIn_app (goodIn_of _ (by decide +kernel)) ggX7_handIn_X1_has
set_option maxRecDepth 20000 in
theorem ggX7_handOut_X6_has : GoodIn wsX7_handOut wsX6_has := goodIn_r _ [9, 10, 25, 26, 27, 28, 29] (by decide +kernel) (by decide +kernel)
set_option maxRecDepth 20000 in
theorem gX7_handOut_X6_has : GoodIn wsX7_handOut (wsV RX7 181 RX6 yX6_has wsX6_has) := goodIn_app (goodIn_of _ (by decide +kernel)) ggX7_handOut_X6_has
set_option maxRecDepth 20000 in
theorem ggX7_handOut_X1_has : GoodIn wsX7_handOut wsX1_has := goodIn_r _ [15, 16, 30, 31, 32, 33, 34, 35, 36] (by decide +kernel) (by decide +kernel)
set_option maxRecDepth 20000 in
theorem gX7_handOut_X1_has : GoodIn wsX7_handOut (wsV RX7 98 RX1 yX1_has wsX1_has) := goodIn_app (goodIn_of _ (by decide +kernel)) ggX7_handOut_X1_has
set_option maxRecDepth 20000 in
theorem ggX7_feast_X2_plan : GoodIn wsX7_feast wsX2_plan := goodIn_r _ [15, 16, 17, 18, 14, 19, 20, 21, 22, 23, 24, 25, 26, 27, 28, 29, 30, 31, 32, 33, 34, 35, 36, 37, 38, 39, 40, 41, 42, 43, 44, 45, 46, 47, 48, 49, 50, 51, 52, 53, 54, 55, 56, 57, 58, 59, 60, 61, 62, 63, 64, 65, 66, 67, 68, 69, 70, 71, 72, 73, 74, 75, 76, 77, 78, 132, 133, 134, 135, 136, 137, 138, 139, 140, 141, 142, 143, 144, 127, 128, 129, 130, 131] (by decide +kernel) (by decide +kernel)
set_option maxRecDepth 20000 in
theorem gX7_feast_X2_plan : GoodIn wsX7_feast (wsV RX7 188 RX2 yX2_plan wsX2_plan) := goodIn_app (goodIn_of _ (by decide +kernel)) ggX7_feast_X2_plan
set_option maxRecDepth 20000 in
theorem ggX7_feast_X2_newCoats : GoodIn wsX7_feast wsX2_newCoats := goodIn_r _ [82, 20, 43, 59, 60, 61, 62, 63, 64, 65, 132, 133, 134, 135, 136, 137] (by decide +kernel) (by decide +kernel)
set_option maxRecDepth 20000 in
theorem gX7_feast_X2_newCoats : GoodIn wsX7_feast (wsV RX7 192 RX2 yX2_newCoats wsX2_newCoats) := goodIn_app (goodIn_of _ (by decide +kernel)) ggX7_feast_X2_newCoats
set_option maxRecDepth 20000 in
theorem ggX7_feast_X7_handIn : GoodIn wsX7_feast wsX7_handIn := goodIn_r _ [87, 3, 88, 2, 89, 90, 91, 92, 34, 93, 36, 94, 95, 96, 97, 98, 99, 110, 111, 112, 113, 114, 115, 116, 117, 127, 128, 129, 130, 131, 138, 139, 140, 141, 142, 143, 144] (by decide +kernel) (by decide +kernel)
set_option maxRecDepth 20000 in
theorem gX7_feast_X7_handIn : GoodIn wsX7_feast (wsV RX7 170 RX7 yX7_handIn wsX7_handIn) := goodIn_app (goodIn_of _ (by decide +kernel)) ggX7_feast_X7_handIn
set_option maxRecDepth 20000 in
theorem ggX7_feast_X6_cut : GoodIn wsX7_feast wsX6_cut := goodIn_r _ [103, 36, 38, 104, 37, 105, 127, 128, 129, 130, 131] (by decide +kernel) (by decide +kernel)
set_option maxRecDepth 20000 in
theorem gX7_feast_X6_cut : GoodIn wsX7_feast (wsV RX7 207 RX6 yX6_cut wsX6_cut) := goodIn_app (goodIn_of _ (by decide +kernel)) ggX7_feast_X6_cut
set_option maxRecDepth 20000 in
theorem ggX7_feast_X7_handOut : GoodIn wsX7_feast wsX7_handOut := goodIn_r _ [109, 3, 2, 88, 89, 90, 91, 92, 34, 93, 36, 94, 95, 96, 97, 98, 99, 110, 111, 112, 113, 114, 115, 116, 117, 127, 128, 129, 130, 131, 138, 139, 140, 141, 142, 143, 144] (by decide +kernel) (by decide +kernel)
set_option maxRecDepth 20000 in
theorem gX7_feast_X7_handOut : GoodIn wsX7_feast (wsV RX7 210 RX7 yX7_handOut wsX7_handOut) := goodIn_app (goodIn_of _ (by decide +kernel)) ggX7_feast_X7_handOut
set_option maxRecDepth 20000 in
theorem ggX7_legacy_X0_add : GoodIn wsX7_legacy wsX0_add := goodIn_r _ [6, 7, 8, 9, 18, 19, 20, 21, 22, 23, 24, 25, 26] (by decide +kernel) (by decide +kernel)
set_option maxRecDepth 20000 in
theorem gX7_legacy_X0_add : GoodIn wsX7_legacy (wsV RX7 214 RX0 yX0_add wsX0_add) := goodIn_app (goodIn_of _ (by decide +kernel)) ggX7_legacy_X0_add
set_option maxRecDepth 20000 in
theorem ggX7_owed_X0_plan : GoodIn wsX7_owed wsX0_plan := goodIn_r _ [11, 12, 13, 14, 10, 15, 16, 17, 18, 19, 20, 21, 22, 23, 24, 25, 26, 27, 28, 29, 30, 31, 32, 33, 34, 35, 36, 37, 38, 39, 40, 41, 42, 43, 44, 53, 54, 55, 56, 57, 58, 59, 60, 61] (by decide +kernel) (by decide +kernel)
set_option maxRecDepth 20000 in
theorem gX7_owed_X0_plan : GoodIn wsX7_owed (wsV RX7 217 RX0 yX0_plan wsX0_plan) := goodIn_app (goodIn_of _ (by decide +kernel)) ggX7_owed_X0_plan
set_option maxRecDepth 20000 in
theorem ggX7_pay_X0_plan : GoodIn wsX7_pay wsX0_plan := goodIn_r _ [6, 7, 8, 9, 5, 10, 11, 12, 13, 14, 15, 16, 17, 18, 19, 20, 21, 22, 23, 24, 25, 26, 27, 28, 29, 30, 31, 32, 33, 34, 35, 36, 37, 38, 39, 52, 53, 54, 55, 56, 57, 58, 59, 60] (by decide +kernel) (by decide +kernel)
set_option maxRecDepth 20000 in
theorem gX7_pay_X0_plan : GoodIn wsX7_pay (wsV RX7 217 RX0 yX0_plan wsX0_plan) := goodIn_app (goodIn_of _ (by decide +kernel)) ggX7_pay_X0_plan
set_option maxRecDepth 20000 in
theorem ggX7_pay_X0_payPlanned : GoodIn wsX7_pay wsX0_payPlanned := goodIn_r _ [43, 11, 16, 12, 26, 31, 52, 53, 54, 55, 56, 57, 58, 59, 60] (by decide +kernel) (by decide +kernel)
set_option maxRecDepth 20000 in
theorem gX7_pay_X0_payPlanned : GoodIn wsX7_pay (wsV RX7 232 RX0 yX0_payPlanned wsX0_payPlanned) := goodIn_app (goodIn_of _ (by decide +kernel)) ggX7_pay_X0_payPlanned
set_option maxRecDepth 20000 in
theorem ggX7_look_X1_has : GoodIn wsX7_look wsX1_has := goodIn_r _ [18, 19, 36, 37, 38, 39, 40, 41, 42] (by decide +kernel) (by decide +kernel)
set_option maxRecDepth 20000 in
theorem gX7_look_X1_has : GoodIn wsX7_look (wsV RX7 98 RX1 yX1_has wsX1_has) := goodIn_app (goodIn_of _ (by decide +kernel)) ggX7_look_X1_has
set_option maxRecDepth 20000 in
theorem ggX7_look_X3_votesFor : GoodIn wsX7_look wsX3_votesFor := goodIn_r _ [24, 25, 26, 27, 52, 53, 54, 55] (by decide +kernel) (by decide +kernel)
set_option maxRecDepth 20000 in
theorem gX7_look_X3_votesFor : GoodIn wsX7_look (wsV RX7 149 RX3 yX3_votesFor wsX3_votesFor) := goodIn_app (goodIn_of _ (by decide +kernel)) ggX7_look_X3_votesFor
set_option maxRecDepth 20000 in
theorem ggX7_coat_X6_has : GoodIn wsX7_coat wsX6_has := goodIn_r _ [10, 11, 20, 21, 22, 23, 24] (by decide +kernel) (by decide +kernel)
set_option maxRecDepth 20000 in
theorem gX7_coat_X6_has : GoodIn wsX7_coat (wsV RX7 181 RX6 yX6_has wsX6_has) := goodIn_app (goodIn_of _ (by decide +kernel)) ggX7_coat_X6_has
set_option maxRecDepth 20000 in
theorem ggX7_count_X1_in : GoodIn wsX7_count wsX1_in := goodIn_r _ [16, 17, 18, 38, 39, 40, 41, 42, 43, 44] (by decide +kernel) (by decide +kernel)
set_option maxRecDepth 20000 in
theorem gX7_count_X1_in : GoodIn wsX7_count (wsV RX7 106 RX1 yX1_in wsX1_in) := goodIn_app (goodIn_of _ (by decide +kernel)) ggX7_count_X1_in
set_option maxRecDepth 20000 in
theorem ggX7_count_X5_wayNext : GoodIn wsX7_count wsX5_wayNext := goodIn_r _ [23, 24, 25, 59, 60, 61, 62, 63, 64, 65, 66, 67] (by decide +kernel) (by decide +kernel)
set_option maxRecDepth 20000 in
theorem gX7_count_X5_wayNext : GoodIn wsX7_count (wsV RX7 112 RX5 yX5_wayNext wsX5_wayNext) := goodIn_app (goodIn_of _ (by decide +kernel)) ggX7_count_X5_wayNext
set_option maxRecDepth 20000 in
theorem ggJ0_length_8abf5_J0_coder_7d493 : GoodIn wsJ0_length_8abf5 wsJ0_coder_7d493 := goodIn_r _ [6, 7, 8] (by decide +kernel) (by decide +kernel)
set_option maxRecDepth 20000 in
theorem gJ0_length_8abf5_J0_coder_7d493 : GoodIn wsJ0_length_8abf5 (wsV RJ0 335 RJ0 yJ0_coder_7d493 wsJ0_coder_7d493) := goodIn_app (goodIn_of _ (by decide +kernel)) ggJ0_length_8abf5_J0_coder_7d493
set_option maxRecDepth 20000 in
theorem ggJ0_charAt_5068e_J0_isLatin1_aae02 : GoodIn wsJ0_charAt_5068e wsJ0_isLatin1_aae02 := goodIn_r _ [6, 7, 8] (by decide +kernel) (by decide +kernel)
set_option maxRecDepth 20000 in
theorem gJ0_charAt_5068e_J0_isLatin1_aae02 : GoodIn wsJ0_charAt_5068e (wsV RJ0 492 RJ0 yJ0_isLatin1_aae02 wsJ0_isLatin1_aae02) := goodIn_app (goodIn_of _ (by decide +kernel)) ggJ0_charAt_5068e_J0_isLatin1_aae02
set_option maxRecDepth 20000 in
theorem ggJ0_charAt_5068e_J1_charAt_3b067 : GoodIn wsJ0_charAt_5068e wsJ1_charAt_3b067 := goodIn_r _ [12, 13, 14, 5, 15, 16, 17, 18, 19, 20] (by decide +kernel) (by decide +kernel)
set_option maxRecDepth 20000 in
theorem gJ0_charAt_5068e_J1_charAt_3b067 : GoodIn wsJ0_charAt_5068e (va_wsS RJ0 495 yJ1_charAt_3b067 wsJ1_charAt_3b067) := goodIn_app (goodIn_of _ (by decide +kernel)) ggJ0_charAt_5068e_J1_charAt_3b067
set_option maxRecDepth 20000 in
theorem ggJ0_charAt_5068e_J2_charAt_3b067 : GoodIn wsJ0_charAt_5068e wsJ2_charAt_3b067 := goodIn_r _ [24, 25, 26, 23, 27, 28, 29, 30, 31, 14, 5, 15, 16, 17, 18, 19, 20, 32, 33, 34, 35, 36, 37] (by decide +kernel) (by decide +kernel)
set_option maxRecDepth 20000 in
theorem gJ0_charAt_5068e_J2_charAt_3b067 : GoodIn wsJ0_charAt_5068e (va_wsS RJ0 498 yJ2_charAt_3b067 wsJ2_charAt_3b067) := goodIn_app (goodIn_of _ (by decide +kernel)) ggJ0_charAt_5068e_J2_charAt_3b067
set_option maxRecDepth 20000 in
theorem ggJ0_checkIndex_df160_J3_checkIndex_8e157 : GoodIn wsJ0_checkIndex_df160 wsJ3_checkIndex_8e157 := goodIn_r _ [5] (by decide +kernel) (by decide +kernel)
set_option maxRecDepth 20000 in
theorem gJ0_checkIndex_df160_J3_checkIndex_8e157 : GoodIn wsJ0_checkIndex_df160 (va_wsS RJ0 1059 yJ3_checkIndex_8e157 wsJ3_checkIndex_8e157) := goodIn_app (goodIn_of _ (by decide +kernel)) ggJ0_checkIndex_df160_J3_checkIndex_8e157
set_option maxRecDepth 20000 in
theorem ggJ1_charAt_3b067_J0_checkIndex_df160 : GoodIn wsJ1_charAt_3b067 wsJ0_checkIndex_df160 := goodIn_r _ [4, 5, 6, 7, 8, 9] (by decide +kernel) (by decide +kernel)
set_option maxRecDepth 20000 in
theorem gJ1_charAt_3b067_J0_checkIndex_df160 : GoodIn wsJ1_charAt_3b067 (va_wsS RJ1 9 yJ0_checkIndex_df160 wsJ0_checkIndex_df160) := goodIn_app (goodIn_of _ (by decide +kernel)) ggJ1_charAt_3b067_J0_checkIndex_df160
set_option maxRecDepth 20000 in
theorem ggJ2_getChar_3b067_J2_length_9d52b : GoodIn wsJ2_getChar_3b067 wsJ2_length_9d52b := goodIn_r _ [7] (by decide +kernel) (by decide +kernel)
set_option maxRecDepth 20000 in
theorem gJ2_getChar_3b067_J2_length_9d52b : GoodIn wsJ2_getChar_3b067 (va_wsS RJ2 48 yJ2_length_9d52b wsJ2_length_9d52b) := goodIn_app (goodIn_of _ (by decide +kernel)) ggJ2_getChar_3b067_J2_length_9d52b
set_option maxRecDepth 20000 in
theorem ggJ2_charAt_3b067_J2_checkIndex_2214a : GoodIn wsJ2_charAt_3b067 wsJ2_checkIndex_2214a := goodIn_r _ [4, 5, 6, 3, 7, 8, 9, 10, 11, 12, 13, 14, 15, 16] (by decide +kernel) (by decide +kernel)
set_option maxRecDepth 20000 in
theorem gJ2_charAt_3b067_J2_checkIndex_2214a : GoodIn wsJ2_charAt_3b067 (va_wsS RJ2 67 yJ2_checkIndex_2214a wsJ2_checkIndex_2214a) := goodIn_app (goodIn_of _ (by decide +kernel)) ggJ2_charAt_3b067_J2_checkIndex_2214a
set_option maxRecDepth 20000 in
theorem ggJ2_charAt_3b067_J2_getChar_3b067 : GoodIn wsJ2_charAt_3b067 wsJ2_getChar_3b067 := goodIn_r _ [19, 20, 21, 22, 5, 6, 3, 7] (by decide +kernel) (by decide +kernel)
set_option maxRecDepth 20000 in
theorem gJ2_charAt_3b067_J2_getChar_3b067 : GoodIn wsJ2_charAt_3b067 (va_wsS RJ2 71 yJ2_getChar_3b067 wsJ2_getChar_3b067) := goodIn_app (goodIn_of _ (by decide +kernel)) ggJ2_charAt_3b067_J2_getChar_3b067
set_option maxRecDepth 20000 in
theorem ggJ2_checkIndex_2214a_J2_length_9d52b : GoodIn wsJ2_checkIndex_2214a wsJ2_length_9d52b := goodIn_r _ [4] (by decide +kernel) (by decide +kernel)
set_option maxRecDepth 20000 in
theorem gJ2_checkIndex_2214a_J2_length_9d52b : GoodIn wsJ2_checkIndex_2214a (va_wsS RJ2 48 yJ2_length_9d52b wsJ2_length_9d52b) := goodIn_app (goodIn_of _ (by decide +kernel)) ggJ2_checkIndex_2214a_J2_length_9d52b
set_option maxRecDepth 20000 in
theorem ggJ2_checkIndex_2214a_J0_checkIndex_df160 : GoodIn wsJ2_checkIndex_2214a wsJ0_checkIndex_df160 := goodIn_r _ [8, 9, 10, 11, 12, 13] (by decide +kernel) (by decide +kernel)
set_option maxRecDepth 20000 in
theorem gJ2_checkIndex_2214a_J0_checkIndex_df160 : GoodIn wsJ2_checkIndex_2214a (va_wsS RJ2 414 yJ0_checkIndex_df160 wsJ0_checkIndex_df160) := goodIn_app (goodIn_of _ (by decide +kernel)) ggJ2_checkIndex_2214a_J0_checkIndex_df160
