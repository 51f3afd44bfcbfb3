set_option maxRecDepth 100000 in
theorem ggL_law_X5_init : GoodIn lw_tbl wsX5_init := goodIn_g _ [58, 0, 0, 0, 0, 11, 0, 0, 0, 0, 0, 0, 0, 0, 0, 0, 0, 2, 1, 2, 0, 1, 0, 0, 0, 0, 1, 0, 0, 0, 0, 0, 0, 0, 0, 0, 1, 2, 1, 1, 1, 2, 1, 1, 1, 1, 1, 1, 1, 2, 0, 0, 0, 0, 0, 0, 0, 0, 0, 1, 1, 2, 1, 0, 0, 0, 0, 0, 1, 1, 1, 1, 1, 2, 0, 0, 0, 0, 0, 0, 0, 0, 0, 1, 1, 0, 0, 0, 0, 1, 1, 1, 1, 1, 1, 1, 1, 2, 0, 0, 0, 0, 0, 0, 0, 0, 0, 1, 1, 1, 1, 1, 1, 1, 1] [5, 6, 7, 8, 9, 10, 0, 97, 98, 20, 21, 22, 23, 24, 25, 26, 99, 100, 27, 28, 1, 101, 49, 50, 2, 102, 61, 103, 62, 3, 73, 74, 4, 104, 105, 11, 12, 13, 14, 19, 15, 16, 29, 30, 31, 32, 33, 34, 35, 36, 37, 38, 39, 40, 51, 52, 53, 54, 55, 56, 57, 63, 64, 65, 66, 67, 68, 69, 75, 76, 77, 78, 79, 80, 81, 82, 83, 84, 85, 86, 87, 17, 18, 106, 107, 108, 109, 110, 111, 112, 113, 114, 41, 42, 43, 44, 45, 46, 47, 48, 58, 59, 60, 70, 71, 72, 88, 89, 90, 91, 92, 93, 94, 95, 96] rfl (by decide +kernel)
set_option maxRecDepth 100000 in
theorem gL_law_X5_init : GoodIn lw_tbl (wsX5_init) := ggL_law_X5_init
set_option maxRecDepth 100000 in
theorem ggL_law_X6_init : GoodIn lw_tbl wsX6_init := goodIn_g _ [76, 0, 15, 685, 0, 0, 0, 1, 0, 0, 0, 0, 3, 0, 0, 0, 0, 0, 0, 1, 0, 0, 4, 1, 1, 1, 1, 1, 1, 1, 1, 1, 1, 1, 1, 1, 1, 1, 1, 1, 1, 1, 1, 1, 1, 1, 1, 1, 1, 1, 1, 2] [3, 4, 0, 1, 2, 5, 6, 7, 8, 9, 10, 11, 12, 13, 14, 15, 16, 17, 18, 51, 19, 20, 21, 22, 23, 24, 25, 26, 27, 28, 29, 30, 31, 32, 33, 34, 35, 36, 37, 38, 39, 40, 41, 42, 43, 44, 45, 46, 47, 48, 49, 50] rfl (by decide +kernel)
set_option maxRecDepth 100000 in
theorem gL_law_X6_init : GoodIn lw_tbl (wsX6_init) := ggL_law_X6_init
set_option maxRecDepth 100000 in
theorem ggL_law_X5_piece : GoodIn lw_tbl wsX5_piece := goodIn_g _ [57, 0, 0, 24, 0, 0, 0, 0, 1, 18, 0, 0, 1, 2, 1, 1, 1, 2, 1, 1, 1, 1, 1, 1, 1, 74, 3, 4, 1, 1, 1, 1, 1, 1, 1, 1, 5, 0, 0, 0, 0, 1, 0, 0, 0, 1, 0, 0, 0, 0, 0, 0, 0, 0, 0, 0, 1, 0, 0, 0, 0, 0, 1, 0, 0, 0, 0, 0, 0, 0, 0, 1, 0, 0, 0, 0, 0, 0, 0, 2, 0, 0, 0, 0] [36, 25, 6, 26, 37, 38, 0, 39, 40, 44, 41, 42, 43, 45, 46, 47, 48, 49, 50, 1, 51, 3, 52, 53, 54, 55, 4, 56, 57, 58, 59, 60, 2, 61, 9, 5, 10, 16, 14, 12, 15, 62, 63, 64, 65, 11, 13, 66, 67, 68, 69, 70, 71, 72, 73, 74, 75, 76, 77, 78, 79, 80, 81, 82, 83, 27, 28, 29, 30, 31, 32, 33, 34, 35, 7, 8, 17, 18, 19, 20, 21, 22, 23, 24] rfl (by decide +kernel)
set_option maxRecDepth 100000 in
theorem gL_law_X5_piece : GoodIn lw_tbl (wsV RL 13 RX5 yX5_piece wsX5_piece) := goodIn_app (goodIn_of _ (by decide +kernel)) ggL_law_X5_piece
set_option maxRecDepth 100000 in
theorem ggL_law_X6_piece : GoodIn lw_tbl wsX6_piece := goodIn_g _ [63, 717, 27, 1, 1, 1, 1, 1, 1, 1, 1, 1, 1, 1, 1, 1, 1, 1, 1, 1, 1, 1, 1, 1, 1, 1, 1, 1, 1, 1, 6, 0, 0, 0, 0, 0, 0, 0, 0, 0, 0, 0] [30, 1, 31, 32, 0, 33, 34, 38, 39, 40, 41, 35, 36, 37, 2, 3, 4, 5, 6, 7, 8, 9, 10, 11, 12, 13, 14, 15, 16, 17, 18, 19, 20, 21, 22, 23, 24, 25, 26, 27, 28, 29] rfl (by decide +kernel)
set_option maxRecDepth 100000 in
theorem gL_law_X6_piece : GoodIn lw_tbl (wsV RL 17 RX6 yX6_piece wsX6_piece) := goodIn_app (goodIn_of _ (by decide +kernel)) ggL_law_X6_piece
set_option maxRecDepth 100000 in
theorem ggL_law_X5_drop : GoodIn lw_tbl wsX5_drop := goodIn_g _ [57, 0, 0, 24, 0, 0, 0, 0, 1, 18, 0, 0, 1, 2, 1, 1, 1, 2, 1, 1, 1, 1, 1, 1, 1, 74, 3, 4, 1, 1, 1, 1, 1, 1, 1, 1, 12, 0, 10, 0, 0, 1, 0, 0, 0, 0, 0, 1, 0, 0, 0, 0, 0, 0, 0, 0, 1, 0, 0, 0, 0, 0, 0, 0, 2, 0, 0, 0, 0, 3] [69, 25, 6, 26, 43, 44, 45, 2, 46, 9, 5, 10, 16, 14, 12, 15, 41, 0, 42, 47, 48, 49, 50, 11, 13, 51, 38, 39, 1, 40, 4, 52, 53, 54, 55, 3, 36, 37, 56, 57, 58, 59, 60, 61, 62, 63, 64, 65, 66, 67, 68, 27, 28, 29, 30, 31, 32, 33, 34, 35, 7, 8, 17, 18, 19, 20, 21, 22, 23, 24] rfl (by decide +kernel)
set_option maxRecDepth 100000 in
theorem gL_law_X5_drop : GoodIn lw_tbl (wsV RL 18 RX5 yX5_drop wsX5_drop) := goodIn_app (goodIn_of _ (by decide +kernel)) ggL_law_X5_drop
set_option maxRecDepth 100000 in
theorem ggL_law_X6_drop : GoodIn lw_tbl wsX6_drop := goodIn_g _ [781, 27, 1, 1, 1, 1, 1, 1, 1, 1, 1, 1, 1, 1, 1, 1, 1, 1, 1, 1, 1, 1, 1, 1, 1, 1, 1, 1, 1, 21] [29, 0, 1, 2, 3, 4, 5, 6, 7, 8, 9, 10, 11, 12, 13, 14, 15, 16, 17, 18, 19, 20, 21, 22, 23, 24, 25, 26, 27, 28] rfl (by decide +kernel)
set_option maxRecDepth 100000 in
theorem gL_law_X6_drop : GoodIn lw_tbl (wsV RL 22 RX6 yX6_drop wsX6_drop) := goodIn_app (goodIn_of _ (by decide +kernel)) ggL_law_X6_drop
set_option maxRecDepth 100000 in
theorem ggL_law_X5_set : GoodIn lw_tbl wsX5_set := goodIn_g _ [57, 0, 0, 24, 0, 0, 1, 1, 18, 0, 0, 1, 2, 1, 1, 1, 2, 1, 1, 1, 1, 1, 1, 1, 74, 3, 4, 1, 1, 1, 1, 1, 1, 1, 1, 6, 0, 0, 0, 1, 0, 0, 0, 1, 0, 0, 0, 0, 0, 0, 0, 0, 0, 0, 1, 0, 0, 0, 0, 0, 1, 0, 0, 0, 0, 0, 0, 0, 0, 1, 0, 0, 0, 0, 0, 0, 0, 2, 0, 0, 0, 0, 7, 0, 0] [82, 24, 25, 83, 51, 52, 1, 53, 4, 43, 44, 0, 45, 35, 36, 37, 38, 42, 39, 40, 41, 84, 66, 67, 68, 3, 46, 47, 48, 49, 50, 54, 55, 56, 57, 58, 2, 59, 8, 5, 9, 15, 13, 11, 14, 60, 61, 62, 63, 10, 12, 64, 65, 69, 70, 71, 72, 73, 74, 75, 76, 77, 78, 79, 80, 81, 26, 27, 28, 29, 30, 31, 32, 33, 34, 6, 7, 16, 17, 18, 19, 20, 21, 22, 23] rfl (by decide +kernel)
set_option maxRecDepth 100000 in
theorem gL_law_X5_set : GoodIn lw_tbl (wsV RL 23 RX5 yX5_set wsX5_set) := goodIn_app (goodIn_of _ (by decide +kernel)) ggL_law_X5_set
set_option maxRecDepth 100000 in
theorem ggL_law_X6_set : GoodIn lw_tbl wsX6_set := goodIn_g _ [22, 0, 39, 717, 27, 1, 1, 1, 1, 1, 1, 1, 1, 1, 1, 1, 1, 1, 1, 1, 1, 1, 1, 1, 1, 1, 1, 1, 1, 1, 1, 1, 7, 0, 0, 0, 0, 0, 0, 0, 0, 0, 0, 7, 0, 1, 0, 0, 0, 1, 0] [43, 47, 3, 44, 45, 0, 2, 46, 36, 37, 38, 32, 33, 34, 35, 39, 40, 41, 42, 48, 49, 1, 50, 4, 5, 6, 7, 8, 9, 10, 11, 12, 13, 14, 15, 16, 17, 18, 19, 20, 21, 22, 23, 24, 25, 26, 27, 28, 29, 30, 31] rfl (by decide +kernel)
set_option maxRecDepth 100000 in
theorem gL_law_X6_set : GoodIn lw_tbl (wsV RL 27 RX6 yX6_set wsX6_set) := goodIn_app (goodIn_of _ (by decide +kernel)) ggL_law_X6_set
set_option maxRecDepth 100000 in
theorem ggL_law_X5_of : GoodIn lw_tbl wsX5_of := goodIn_g _ [57, 0, 0, 24, 0, 2, 1, 18, 0, 14, 1, 1, 1, 1, 1, 1, 1, 74, 3, 4, 1, 1, 1, 1, 1, 1, 1, 1, 11, 0, 0, 2, 0, 0, 5, 0, 0, 13, 0, 0, 0, 5, 0, 0, 0, 15, 0, 3, 0, 0, 0, 0, 0, 0, 0, 1, 0, 0, 0, 0] [47, 17, 18, 45, 34, 35, 1, 36, 4, 31, 32, 0, 33, 46, 38, 39, 40, 3, 29, 30, 48, 49, 50, 51, 52, 53, 54, 28, 55, 42, 43, 2, 44, 8, 56, 57, 58, 59, 7, 41, 37, 19, 20, 21, 22, 23, 24, 25, 26, 27, 5, 6, 9, 10, 11, 12, 13, 14, 15, 16] rfl (by decide +kernel)
set_option maxRecDepth 100000 in
theorem gL_law_X5_of : GoodIn lw_tbl (wsV RL 28 RX5 yX5_of wsX5_of) := goodIn_app (goodIn_of _ (by decide +kernel)) ggL_law_X5_of
set_option maxRecDepth 100000 in
theorem ggL_law_X6_of : GoodIn lw_tbl wsX6_of := goodIn_g _ [22, 0, 0, 0, 0, 36, 717, 27, 1, 1, 1, 1, 1, 1, 1, 1, 1, 1, 1, 1, 1, 1, 1, 1, 1, 1, 1, 1, 1, 1, 1, 1, 1, 1, 1, 11, 0, 0, 12, 1, 0, 1, 1, 0, 3, 0, 0, 1, 0, 0, 0, 0, 0, 1, 0, 0, 1, 0] [44, 45, 38, 39, 0, 5, 40, 6, 35, 36, 37, 41, 42, 1, 43, 46, 47, 2, 48, 49, 50, 51, 52, 53, 3, 54, 55, 56, 4, 57, 7, 8, 9, 10, 11, 12, 13, 14, 15, 16, 17, 18, 19, 20, 21, 22, 23, 24, 25, 26, 27, 28, 29, 30, 31, 32, 33, 34] rfl (by decide +kernel)
set_option maxRecDepth 100000 in
theorem gL_law_X6_of : GoodIn lw_tbl (wsV RL 32 RX6 yX6_of wsX6_of) := goodIn_app (goodIn_of _ (by decide +kernel)) ggL_law_X6_of
set_option maxRecDepth 100000 in
theorem ggL_law_X5_taken : GoodIn lw_tbl wsX5_taken := goodIn_g _ [57, 0, 25, 0, 2, 1, 123, 8, 1, 1, 1, 1, 1, 1, 1, 1, 6, 0, 0, 0, 1, 0, 0, 0, 1, 0, 0, 5, 0, 0, 14, 0, 0, 24, 0, 7, 0, 0, 0, 9] [39, 6, 33, 27, 28, 1, 29, 3, 16, 17, 0, 18, 19, 23, 20, 21, 22, 24, 25, 26, 34, 30, 31, 32, 2, 35, 36, 37, 38, 7, 8, 9, 10, 11, 12, 13, 14, 15, 4, 5] rfl (by decide +kernel)
set_option maxRecDepth 100000 in
theorem gL_law_X5_taken : GoodIn lw_tbl (wsV RL 33 RX5 yX5_taken wsX5_taken) := goodIn_app (goodIn_of _ (by decide +kernel)) ggL_law_X5_taken
set_option maxRecDepth 100000 in
theorem ggL_law_X6_taken : GoodIn lw_tbl wsX6_taken := goodIn_g _ [22, 0, 39, 717, 27, 1, 1, 1, 1, 1, 1, 1, 1, 1, 1, 1, 1, 1, 1, 1, 1, 1, 1, 1, 1, 1, 1, 1, 1, 1, 1, 1, 10, 0, 0, 0, 12, 1, 0, 1, 1, 0, 9, 0, 0, 11] [45, 32, 36, 37, 0, 2, 38, 3, 33, 34, 35, 39, 40, 1, 41, 42, 43, 44, 4, 5, 6, 7, 8, 9, 10, 11, 12, 13, 14, 15, 16, 17, 18, 19, 20, 21, 22, 23, 24, 25, 26, 27, 28, 29, 30, 31] rfl (by decide +kernel)
set_option maxRecDepth 100000 in
theorem gL_law_X6_taken : GoodIn lw_tbl (wsV RL 36 RX6 yX6_taken wsX6_taken) := goodIn_app (goodIn_of _ (by decide +kernel)) ggL_law_X6_taken
set_option maxRecDepth 100000 in
theorem ggL_law_X5_rule : GoodIn lw_tbl wsX5_rule := goodIn_g _ [57, 158, 6, 1, 1, 1, 1, 1, 1, 1, 1, 11, 0, 0, 2, 0, 0, 9, 0, 64, 0, 0, 1, 1] [19, 1, 20, 21, 22, 14, 15, 0, 16, 11, 12, 13, 23, 17, 18, 2, 3, 4, 5, 6, 7, 8, 9, 10] rfl (by decide +kernel)
set_option maxRecDepth 100000 in
theorem gL_law_X5_rule : GoodIn lw_tbl (wsV RL 37 RX5 yX5_rule wsX5_rule) := goodIn_app (goodIn_of _ (by decide +kernel)) ggL_law_X5_rule
set_option maxRecDepth 100000 in
theorem ggL_law_X6_rule_ : GoodIn lw_tbl wsX6_rule_ := goodIn_g _ [27, 35, 717, 27, 1, 1, 1, 1, 1, 1, 1, 1, 1, 1, 1, 1, 1, 1, 1, 1, 1, 1, 1, 1, 1, 1, 1, 1, 1, 1, 1, 11, 0, 0, 2, 0, 44, 0, 0, 0, 0, 0, 0, 0, 0, 0, 0, 0, 1, 0] [36, 37, 46, 2, 31, 32, 1, 33, 38, 39, 40, 41, 34, 42, 43, 44, 45, 35, 47, 48, 0, 49, 3, 4, 5, 6, 7, 8, 9, 10, 11, 12, 13, 14, 15, 16, 17, 18, 19, 20, 21, 22, 23, 24, 25, 26, 27, 28, 29, 30] rfl (by decide +kernel)
set_option maxRecDepth 100000 in
theorem gL_law_X6_rule_ : GoodIn lw_tbl (wsV RL 41 RX6 yX6_rule_ wsX6_rule_) := goodIn_app (goodIn_of _ (by decide +kernel)) ggL_law_X6_rule_
set_option maxRecDepth 100000 in
theorem ggL_law_X5_at : GoodIn lw_tbl wsX5_at := goodIn_g _ [57, 54, 2, 1, 1, 1, 2, 0, 1, 1, 1, 1, 1, 1, 1, 78, 4, 1, 1, 1, 1, 1, 1, 1, 1, 11, 0, 0, 2, 0, 0, 76, 8] [32, 15, 6, 31, 2, 3, 4, 5, 1, 28, 29, 0, 30, 25, 26, 27, 16, 17, 18, 19, 20, 21, 22, 23, 24, 7, 8, 9, 10, 11, 12, 13, 14] rfl (by decide +kernel)
set_option maxRecDepth 100000 in
theorem gL_law_X5_at : GoodIn lw_tbl (wsV RL 42 RX5 yX5_at wsX5_at) := goodIn_app (goodIn_of _ (by decide +kernel)) ggL_law_X5_at
set_option maxRecDepth 100000 in
theorem ggL_law_X6_at : GoodIn lw_tbl wsX6_at := goodIn_g _ [23, 4, 34, 717, 2, 0, 0, 0, 0, 0, 19, 1, 1, 1, 1, 1, 1, 1, 1, 1, 1, 1, 1, 1, 1, 1, 1, 1, 1, 1, 1, 1, 1, 1, 1, 1, 1, 1, 11, 0, 0, 17, 1, 0, 9, 0, 0, 25, 7, 0, 1, 0, 0] [48, 9, 52, 47, 4, 5, 7, 8, 6, 49, 50, 1, 2, 51, 3, 41, 42, 0, 43, 44, 45, 46, 38, 39, 40, 10, 11, 12, 13, 14, 15, 16, 17, 18, 19, 20, 21, 22, 23, 24, 25, 26, 27, 28, 29, 30, 31, 32, 33, 34, 35, 36, 37] rfl (by decide +kernel)
set_option maxRecDepth 100000 in
theorem gL_law_X6_at : GoodIn lw_tbl (wsV RL 45 RX6 yX6_at wsX6_at) := goodIn_app (goodIn_of _ (by decide +kernel)) ggL_law_X6_at
set_option maxRecDepth 100000 in
theorem ggL_law_X5_scaled : GoodIn lw_tbl wsX5_scaled := goodIn_g _ [57, 63, 2, 0, 1, 1, 1, 1, 1, 1, 1, 76, 1, 4, 1, 1, 1, 1, 1, 1, 1, 1, 11, 0, 0, 2, 0, 0, 76, 12] [29, 12, 2, 28, 1, 11, 25, 26, 0, 27, 22, 23, 24, 13, 14, 15, 16, 17, 18, 19, 20, 21, 3, 4, 5, 6, 7, 8, 9, 10] rfl (by decide +kernel)
set_option maxRecDepth 100000 in
theorem gL_law_X5_scaled : GoodIn lw_tbl (wsV RL 46 RX5 yX5_scaled wsX5_scaled) := goodIn_app (goodIn_of _ (by decide +kernel)) ggL_law_X5_scaled
set_option maxRecDepth 100000 in
theorem ggL_law_X6_scaled : GoodIn lw_tbl wsX6_scaled := goodIn_g _ [23, 3, 0, 34, 717, 2, 0, 0, 0, 0, 0, 19, 1, 1, 1, 1, 1, 1, 1, 1, 1, 1, 1, 1, 1, 1, 1, 1, 1, 1, 1, 1, 1, 1, 1, 1, 1, 1, 1, 11, 0, 0, 17, 1, 0, 9, 0, 0, 25, 0, 1, 0, 4, 1, 0, 4] [55, 10, 48, 9, 52, 53, 2, 3, 54, 4, 5, 6, 7, 8, 42, 43, 0, 44, 45, 46, 47, 39, 40, 41, 49, 50, 1, 51, 11, 12, 13, 14, 15, 16, 17, 18, 19, 20, 21, 22, 23, 24, 25, 26, 27, 28, 29, 30, 31, 32, 33, 34, 35, 36, 37, 38] rfl (by decide +kernel)
set_option maxRecDepth 100000 in
theorem gL_law_X6_scaled : GoodIn lw_tbl (wsV RL 50 RX6 yX6_scaled wsX6_scaled) := goodIn_app (goodIn_of _ (by decide +kernel)) ggL_law_X6_scaled
set_option maxRecDepth 100000 in
theorem ggL_law_X5_join : GoodIn lw_tbl wsX5_join := goodIn_g _ [0, 0, 55, 1, 4, 22, 0, 1, 19, 4, 1, 7, 1, 1, 1, 1, 1, 1, 1, 74, 1, 1, 4, 1, 1, 1, 1, 1, 1, 1, 1, 11, 0, 0, 2, 0, 0, 31, 0, 0, 29, 29, 0, 1, 0, 0, 0, 0, 0, 1, 0] [41, 19, 5, 21, 9, 10, 34, 35, 2, 36, 42, 43, 0, 44, 45, 46, 4, 47, 40, 37, 38, 3, 39, 8, 32, 33, 31, 48, 49, 1, 50, 20, 22, 23, 24, 25, 26, 27, 28, 29, 30, 6, 7, 11, 12, 13, 14, 15, 16, 17, 18] rfl (by decide +kernel)
set_option maxRecDepth 100000 in
theorem gL_law_X5_join : GoodIn lw_tbl (wsV RL 51 RX5 yX5_join wsX5_join) := goodIn_app (goodIn_of _ (by decide +kernel)) ggL_law_X5_join
set_option maxRecDepth 100000 in
theorem ggL_law_X6_join : GoodIn lw_tbl wsX6_join := goodIn_g _ [23, 1, 0, 0, 0, 0, 0, 0, 31, 717, 2, 0, 0, 0, 0, 0, 19, 1, 1, 1, 1, 1, 1, 1, 1, 1, 1, 1, 1, 1, 1, 1, 1, 1, 1, 1, 1, 1, 1, 1, 1, 1, 1, 1, 11, 0, 0, 17, 1, 0, 9, 0, 0, 0, 1, 0, 0, 1, 0, 18, 1, 0, 4, 1, 0, 8, 0, 0, 1, 0, 0, 0, 0, 0, 1, 0, 0, 1, 0] [65, 9, 66, 44, 45, 8, 46, 62, 63, 4, 64, 15, 10, 11, 12, 13, 14, 47, 48, 0, 49, 50, 51, 52, 67, 68, 5, 69, 56, 57, 2, 58, 53, 54, 1, 55, 70, 71, 72, 73, 74, 6, 75, 76, 77, 7, 78, 59, 60, 3, 61, 16, 17, 18, 19, 20, 21, 22, 23, 24, 25, 26, 27, 28, 29, 30, 31, 32, 33, 34, 35, 36, 37, 38, 39, 40, 41, 42, 43] rfl (by decide +kernel)
set_option maxRecDepth 100000 in
theorem gL_law_X6_join : GoodIn lw_tbl (wsV RL 54 RX6 yX6_join wsX6_join) := goodIn_app (goodIn_of _ (by decide +kernel)) ggL_law_X6_join
set_option maxRecDepth 100000 in
theorem ggL_law_X5_joins : GoodIn lw_tbl wsX5_joins := goodIn_g _ [0, 0, 55, 1, 4, 22, 0, 1, 19, 4, 1, 7, 1, 1, 1, 1, 1, 1, 1, 74, 1, 1, 4, 1, 1, 1, 1, 1, 1, 1, 1, 11, 0, 0, 36, 0, 0, 29, 30, 1, 0, 0, 0, 0, 0, 1, 0, 3] [47, 19, 5, 44, 45, 1, 2, 46, 21, 9, 20, 10, 38, 39, 0, 40, 41, 42, 4, 43, 37, 34, 35, 3, 36, 8, 32, 33, 31, 22, 23, 24, 25, 26, 27, 28, 29, 30, 6, 7, 11, 12, 13, 14, 15, 16, 17, 18] rfl (by decide +kernel)
set_option maxRecDepth 100000 in
theorem gL_law_X5_joins : GoodIn lw_tbl (wsV RL 55 RX5 yX5_joins wsX5_joins) := goodIn_app (goodIn_of _ (by decide +kernel)) ggL_law_X5_joins
set_option maxRecDepth 100000 in
theorem ggL_law_X6_joins : GoodIn lw_tbl wsX6_joins := goodIn_g _ [23, 1, 0, 0, 0, 0, 0, 0, 31, 717, 2, 0, 0, 0, 0, 0, 19, 1, 1, 1, 1, 1, 1, 1, 1, 1, 1, 1, 1, 1, 1, 1, 1, 1, 1, 1, 1, 1, 1, 1, 1, 1, 1, 1, 31, 1, 0, 9, 0, 0, 0, 1, 0, 0, 1, 0, 18, 1, 0, 4, 1, 0, 10, 1, 0, 0, 0, 0, 0, 1, 0, 0, 1, 0, 3] [74, 9, 59, 60, 4, 8, 61, 15, 10, 11, 12, 13, 14, 44, 45, 0, 46, 47, 48, 49, 71, 72, 7, 73, 62, 63, 5, 64, 53, 54, 2, 55, 50, 51, 1, 52, 65, 66, 67, 56, 57, 3, 58, 68, 69, 6, 70, 16, 17, 18, 19, 20, 21, 22, 23, 24, 25, 26, 27, 28, 29, 30, 31, 32, 33, 34, 35, 36, 37, 38, 39, 40, 41, 42, 43] rfl (by decide +kernel)
set_option maxRecDepth 100000 in
theorem gL_law_X6_joins : GoodIn lw_tbl (wsV RL 58 RX6 yX6_joins wsX6_joins) := goodIn_app (goodIn_of _ (by decide +kernel)) ggL_law_X6_joins
set_option maxRecDepth 100000 in
theorem ggL_law_X5_need : GoodIn lw_tbl wsX5_need := goodIn_g _ [2, 0, 0, 0, 51, 6, 50, 1, 6, 0, 1, 1, 1, 1, 1, 1, 1, 76, 1, 4, 1, 1, 1, 1, 1, 1, 1, 1, 11, 0, 0, 2, 0, 0, 98, 0, 0, 11, 0, 1, 0, 0, 1, 0, 0, 1, 0, 0, 1, 0] [37, 18, 8, 17, 31, 32, 4, 33, 28, 29, 30, 38, 39, 0, 40, 6, 34, 35, 5, 36, 41, 42, 1, 43, 7, 44, 45, 2, 46, 47, 48, 3, 49, 19, 20, 21, 22, 23, 24, 25, 26, 27, 9, 10, 11, 12, 13, 14, 15, 16] rfl (by decide +kernel)
set_option maxRecDepth 100000 in
theorem gL_law_X5_need : GoodIn lw_tbl (wsV RL 59 RX5 yX5_need wsX5_need) := goodIn_app (goodIn_of _ (by decide +kernel)) ggL_law_X5_need
set_option maxRecDepth 100000 in
theorem ggL_law_X6_need : GoodIn lw_tbl wsX6_need := goodIn_g _ [23, 3, 0, 3, 0, 0, 0, 0, 26, 717, 2, 0, 0, 0, 0, 0, 19, 1, 1, 1, 1, 1, 1, 1, 1, 1, 1, 1, 1, 1, 1, 1, 1, 1, 1, 1, 1, 1, 1, 1, 1, 1, 1, 1, 11, 0, 0, 16, 0, 1, 0, 9, 0, 0, 26, 1, 0, 4, 1, 0, 14, 0, 0, 15, 0, 1, 0, 0, 1, 0, 0, 1, 0, 0, 0, 0, 0, 1, 0, 0, 1, 0] [63, 47, 57, 58, 2, 8, 59, 15, 9, 10, 11, 12, 13, 14, 48, 49, 0, 50, 51, 52, 53, 64, 65, 3, 66, 44, 45, 46, 54, 55, 1, 56, 67, 68, 4, 69, 60, 61, 62, 70, 71, 5, 72, 73, 74, 75, 76, 77, 6, 78, 79, 80, 7, 81, 16, 17, 18, 19, 20, 21, 22, 23, 24, 25, 26, 27, 28, 29, 30, 31, 32, 33, 34, 35, 36, 37, 38, 39, 40, 41, 42, 43] rfl (by decide +kernel)
set_option maxRecDepth 100000 in
theorem gL_law_X6_need : GoodIn lw_tbl (wsV RL 62 RX6 yX6_need wsX6_need) := goodIn_app (goodIn_of _ (by decide +kernel)) ggL_law_X6_need
set_option maxRecDepth 100000 in
theorem ggL_law_X5_fault : GoodIn lw_tbl wsX5_fault := goodIn_g _ [0, 1, 0, 0, 0, 0, 0, 0, 48, 0, 0, 4, 19, 0, 2, 1, 19, 1, 2, 1, 6, 0, 1, 1, 1, 1, 1, 1, 1, 74, 1, 1, 4, 1, 1, 1, 1, 1, 1, 1, 1, 11, 0, 0, 27, 0, 0, 6, 0, 0, 16, 12, 30, 1, 0, 0, 0, 0, 12, 1, 0, 0, 1, 0, 0, 1, 0, 0, 1, 0, 3, 0, 1, 0, 0, 1, 0, 0, 1, 0, 0] [70, 80, 71, 72, 5, 8, 73, 31, 20, 74, 75, 6, 76, 30, 41, 42, 43, 61, 62, 2, 63, 19, 58, 59, 1, 60, 18, 55, 56, 11, 57, 64, 65, 3, 66, 67, 68, 4, 69, 77, 78, 7, 79, 17, 29, 50, 44, 45, 9, 46, 13, 12, 51, 47, 48, 10, 49, 16, 52, 53, 0, 54, 32, 33, 34, 35, 36, 37, 38, 39, 40, 21, 22, 23, 24, 25, 26, 27, 28, 14, 15] rfl (by decide +kernel)
set_option maxRecDepth 100000 in
theorem gL_law_X5_fault : GoodIn lw_tbl (wsV RL 63 RX5 yX5_fault wsX5_fault) := goodIn_app (goodIn_of _ (by decide +kernel)) ggL_law_X5_fault
set_option maxRecDepth 100000 in
theorem ggL_law_X6_fault : GoodIn lw_tbl wsX6_fault := goodIn_g _ [23, 1, 0, 0, 0, 0, 3, 0, 0, 0, 0, 0, 0, 23, 717, 2, 0, 0, 0, 0, 0, 0, 0, 17, 1, 1, 1, 1, 1, 1, 1, 1, 1, 1, 1, 1, 1, 1, 1, 1, 1, 1, 1, 1, 1, 1, 1, 1, 1, 1, 1, 11, 0, 0, 16, 0, 1, 0, 9, 0, 0, 0, 1, 0, 0, 1, 0, 18, 1, 0, 4, 1, 0, 10, 1, 0, 0, 0, 0, 20, 1, 0, 0, 1, 0, 3, 1, 0, 0, 1, 0, 3, 0, 1, 0, 0, 1, 0, 0, 1, 0] [91, 54, 20, 21, 22, 51, 52, 13, 53, 70, 71, 4, 72, 14, 15, 16, 17, 18, 19, 55, 56, 0, 57, 58, 59, 60, 92, 93, 10, 94, 67, 68, 3, 69, 82, 83, 7, 84, 79, 80, 6, 81, 76, 77, 78, 85, 86, 8, 87, 88, 89, 9, 90, 95, 96, 11, 97, 98, 99, 12, 100, 61, 62, 1, 63, 73, 74, 5, 75, 64, 65, 2, 66, 23, 24, 25, 26, 27, 28, 29, 30, 31, 32, 33, 34, 35, 36, 37, 38, 39, 40, 41, 42, 43, 44, 45, 46, 47, 48, 49, 50] rfl (by decide +kernel)
set_option maxRecDepth 100000 in
theorem gL_law_X6_fault : GoodIn lw_tbl (wsV RL 67 RX6 yX6_fault wsX6_fault) := goodIn_app (goodIn_of _ (by decide +kernel)) ggL_law_X6_fault
set_option maxRecDepth 100000 in
theorem ggL_law_X5_may : GoodIn lw_tbl wsX5_may := goodIn_g _ [2, 0, 0, 4, 47, 6, 50, 1, 6, 0, 1, 1, 1, 1, 1, 1, 1, 76, 1, 4, 1, 1, 1, 1, 1, 1, 1, 1, 11, 0, 0, 2, 0, 0, 98, 0, 0, 12, 1, 0, 0, 1, 0, 0, 1, 0, 25, 0, 1, 0] [46, 18, 8, 31, 32, 4, 33, 47, 48, 3, 49, 40, 41, 1, 42, 7, 17, 37, 38, 0, 39, 6, 34, 35, 5, 36, 28, 29, 30, 43, 44, 2, 45, 19, 20, 21, 22, 23, 24, 25, 26, 27, 9, 10, 11, 12, 13, 14, 15, 16] rfl (by decide +kernel)
set_option maxRecDepth 100000 in
theorem gL_law_X5_may : GoodIn lw_tbl (wsV RL 68 RX5 yX5_may wsX5_may) := goodIn_app (goodIn_of _ (by decide +kernel)) ggL_law_X5_may
set_option maxRecDepth 100000 in
theorem ggL_law_X6_may_ : GoodIn lw_tbl wsX6_may_ := goodIn_g _ [23, 3, 0, 3, 0, 0, 0, 4, 22, 717, 2, 0, 0, 0, 0, 0, 19, 1, 1, 1, 1, 1, 1, 1, 1, 1, 1, 1, 1, 1, 1, 1, 1, 1, 1, 1, 1, 1, 1, 1, 1, 1, 1, 1, 11, 0, 0, 17, 1, 0, 9, 0, 0, 26, 1, 0, 4, 1, 0, 14, 0, 0, 16, 1, 0, 0, 1, 0, 0, 1, 0, 3, 1, 0, 23, 0, 1, 0] [74, 56, 57, 2, 8, 58, 15, 9, 10, 11, 12, 13, 14, 47, 48, 0, 49, 50, 51, 52, 62, 63, 3, 64, 44, 45, 46, 75, 76, 7, 77, 68, 69, 5, 70, 65, 66, 4, 67, 59, 60, 61, 53, 54, 1, 55, 71, 72, 6, 73, 16, 17, 18, 19, 20, 21, 22, 23, 24, 25, 26, 27, 28, 29, 30, 31, 32, 33, 34, 35, 36, 37, 38, 39, 40, 41, 42, 43] rfl (by decide +kernel)
set_option maxRecDepth 100000 in
theorem gL_law_X6_may_ : GoodIn lw_tbl (wsV RL 71 RX6 yX6_may_ wsX6_may_) := goodIn_app (goodIn_of _ (by decide +kernel)) ggL_law_X6_may_
set_option maxRecDepth 100000 in
theorem ggL_law_X5_limit : GoodIn lw_tbl wsX5_limit := goodIn_g _ [2, 0, 0, 4, 0, 46, 6, 50, 1, 6, 0, 1, 1, 1, 1, 1, 1, 1, 76, 1, 4, 1, 1, 1, 1, 1, 1, 1, 1, 11, 0, 0, 103, 0, 0, 12, 1, 0, 0, 1, 0, 0, 1, 0, 26, 1, 0, 3, 0, 1, 0] [47, 48, 49, 4, 5, 50, 19, 9, 44, 45, 3, 46, 38, 39, 1, 40, 8, 18, 35, 36, 0, 37, 7, 32, 33, 6, 34, 29, 30, 31, 41, 42, 2, 43, 20, 21, 22, 23, 24, 25, 26, 27, 28, 10, 11, 12, 13, 14, 15, 16, 17] rfl (by decide +kernel)
set_option maxRecDepth 100000 in
theorem gL_law_X5_limit : GoodIn lw_tbl (wsV RL 72 RX5 yX5_limit wsX5_limit) := goodIn_app (goodIn_of _ (by decide +kernel)) ggL_law_X5_limit
set_option maxRecDepth 100000 in
theorem ggL_law_X6_limit : GoodIn lw_tbl wsX6_limit := goodIn_g _ [23, 3, 0, 4, 0, 0, 4, 22, 717, 2, 0, 0, 0, 0, 0, 19, 1, 1, 1, 1, 1, 1, 1, 1, 1, 1, 1, 1, 1, 1, 1, 1, 1, 1, 1, 1, 1, 1, 1, 1, 1, 1, 1, 31, 1, 0, 9, 0, 0, 26, 1, 0, 4, 1, 0, 14, 0, 0, 20, 1, 0, 0, 1, 0, 3, 1, 0, 24, 1, 0, 3] [70, 14, 52, 53, 2, 7, 54, 8, 9, 10, 11, 12, 13, 43, 44, 0, 45, 46, 47, 48, 67, 68, 6, 69, 61, 62, 4, 63, 58, 59, 3, 60, 55, 56, 57, 49, 50, 1, 51, 64, 65, 5, 66, 15, 16, 17, 18, 19, 20, 21, 22, 23, 24, 25, 26, 27, 28, 29, 30, 31, 32, 33, 34, 35, 36, 37, 38, 39, 40, 41, 42] rfl (by decide +kernel)
set_option maxRecDepth 100000 in
theorem gL_law_X6_limit : GoodIn lw_tbl (wsV RL 75 RX6 yX6_limit wsX6_limit) := goodIn_app (goodIn_of _ (by decide +kernel)) ggL_law_X6_limit
set_option maxRecDepth 100000 in
theorem ggL_law_X5_least : GoodIn lw_tbl wsX5_least := goodIn_g _ [2, 0, 7, 45, 0, 0, 4, 19, 0, 2, 1, 18, 0, 0, 1, 1, 0, 0, 7, 1, 1, 1, 1, 1, 1, 1, 74, 1, 1, 4, 1, 1, 1, 1, 1, 1, 1, 1, 11, 0, 0, 5, 0, 0, 0, 0, 0, 0, 0, 1, 0, 6, 0, 0, 0, 0, 0, 0, 0, 1, 0, 0, 0, 0, 0, 0, 0, 2, 0, 0, 0, 0, 8, 0, 12, 0, 0, 0, 0, 30, 0, 0, 12, 1, 0, 0, 1, 0, 45, 0, 0, 1, 0] [88, 26, 28, 72, 46, 47, 4, 48, 8, 73, 56, 57, 58, 7, 39, 3, 40, 41, 42, 43, 44, 45, 49, 50, 89, 51, 52, 5, 53, 11, 13, 14, 16, 54, 55, 59, 60, 61, 62, 63, 64, 65, 66, 12, 67, 68, 69, 70, 71, 90, 91, 2, 92, 27, 38, 75, 76, 77, 78, 74, 85, 86, 1, 87, 17, 82, 83, 0, 84, 15, 79, 80, 6, 81, 29, 30, 31, 32, 33, 34, 35, 36, 37, 9, 10, 18, 19, 20, 21, 22, 23, 24, 25] rfl (by decide +kernel)
set_option maxRecDepth 100000 in
theorem gL_law_X5_least : GoodIn lw_tbl (wsV RL 76 RX5 yX5_least wsX5_least) := goodIn_app (goodIn_of _ (by decide +kernel)) ggL_law_X5_least
set_option maxRecDepth 100000 in
theorem ggL_law_X6_least : GoodIn lw_tbl wsX6_least := goodIn_g _ [22, 0, 1, 0, 0, 0, 4, 0, 6, 21, 717, 2, 0, 0, 0, 0, 0, 19, 1, 1, 1, 1, 1, 1, 1, 1, 1, 1, 1, 1, 1, 1, 1, 1, 1, 1, 1, 1, 1, 1, 1, 1, 1, 1, 1, 11, 0, 0, 12, 1, 0, 1, 1, 0, 9, 0, 0, 0, 1, 0, 0, 1, 0, 18, 1, 0, 4, 1, 0, 14, 0, 0, 20, 1, 0, 0, 1, 0, 42, 0, 1, 0] [78, 10, 48, 49, 0, 9, 50, 45, 46, 47, 51, 52, 1, 53, 66, 67, 5, 68, 16, 11, 12, 13, 14, 15, 54, 55, 56, 79, 80, 8, 81, 57, 58, 2, 59, 60, 61, 3, 62, 63, 64, 4, 65, 75, 76, 7, 77, 72, 73, 6, 74, 69, 70, 71, 17, 18, 19, 20, 21, 22, 23, 24, 25, 26, 27, 28, 29, 30, 31, 32, 33, 34, 35, 36, 37, 38, 39, 40, 41, 42, 43, 44] rfl (by decide +kernel)
set_option maxRecDepth 100000 in
theorem gL_law_X6_least : GoodIn lw_tbl (wsV RL 79 RX6 yX6_least wsX6_least) := goodIn_app (goodIn_of _ (by decide +kernel)) ggL_law_X6_least
set_option maxRecDepth 100000 in
theorem ggL_law_X5_miss : GoodIn lw_tbl wsX5_miss := goodIn_g _ [57, 61, 1, 2, 0, 1, 1, 1, 1, 1, 1, 1, 76, 1, 4, 1, 1, 1, 1, 1, 1, 1, 1, 11, 0, 0, 81, 98] [27, 13, 2, 3, 12, 1, 26, 23, 24, 0, 25, 14, 15, 16, 17, 18, 19, 20, 21, 22, 4, 5, 6, 7, 8, 9, 10, 11] rfl (by decide +kernel)
set_option maxRecDepth 100000 in
theorem gL_law_X5_miss : GoodIn lw_tbl (wsV RL 80 RX5 yX5_miss wsX5_miss) := goodIn_app (goodIn_of _ (by decide +kernel)) ggL_law_X5_miss
set_option maxRecDepth 100000 in
theorem ggL_law_X6_miss : GoodIn lw_tbl wsX6_miss := goodIn_g _ [23, 3, 0, 34, 717, 2, 0, 0, 0, 0, 0, 19, 1, 1, 1, 1, 1, 1, 1, 1, 1, 1, 1, 1, 1, 1, 1, 1, 1, 1, 1, 1, 1, 1, 1, 1, 1, 1, 1, 11, 0, 0, 17, 1, 0, 9, 0, 0, 25, 0, 1, 0, 4, 1, 0, 95] [55, 48, 9, 10, 8, 39, 40, 3, 41, 52, 53, 2, 54, 4, 5, 6, 7, 42, 43, 0, 44, 45, 46, 47, 49, 50, 1, 51, 11, 12, 13, 14, 15, 16, 17, 18, 19, 20, 21, 22, 23, 24, 25, 26, 27, 28, 29, 30, 31, 32, 33, 34, 35, 36, 37, 38] rfl (by decide +kernel)
set_option maxRecDepth 100000 in
theorem gL_law_X6_miss : GoodIn lw_tbl (wsV RL 83 RX6 yX6_miss wsX6_miss) := goodIn_app (goodIn_of _ (by decide +kernel)) ggL_law_X6_miss
set_option maxRecDepth 100000 in
theorem ggL_law_X5_meets : GoodIn lw_tbl wsX5_meets := goodIn_g _ [12, 44, 0, 0, 24, 0, 0, 1, 1, 18, 0, 11, 2, 1, 1, 1, 1, 1, 1, 1, 74, 1, 1, 4, 1, 1, 1, 1, 1, 1, 1, 1, 11, 0, 0, 5, 0, 0, 0, 0, 0, 0, 0, 1, 0, 10, 0, 0, 0, 1, 0, 0, 0, 0, 0, 0, 0, 2, 0, 0, 0, 0, 8, 0, 8, 0, 0, 117, 0, 0, 0, 0, 0, 0, 0, 0, 1, 0, 0, 0, 0, 0, 0, 0, 0, 1, 0, 0, 0, 0, 0, 0, 0, 0, 0] [67, 20, 21, 22, 62, 40, 41, 2, 42, 5, 63, 46, 47, 48, 4, 33, 1, 34, 32, 68, 69, 70, 3, 71, 9, 6, 72, 73, 74, 75, 45, 49, 50, 51, 52, 64, 65, 66, 57, 58, 59, 60, 61, 76, 77, 78, 79, 80, 81, 82, 83, 11, 53, 54, 55, 56, 10, 84, 85, 0, 86, 35, 36, 37, 38, 39, 43, 44, 87, 88, 89, 90, 91, 92, 93, 94, 23, 24, 25, 26, 27, 28, 29, 30, 31, 7, 8, 12, 13, 14, 15, 16, 17, 18, 19] rfl (by decide +kernel)
set_option maxRecDepth 100000 in
theorem gL_law_X5_meets : GoodIn lw_tbl (wsV RL 84 RX5 yX5_meets wsX5_meets) := goodIn_app (goodIn_of _ (by decide +kernel)) ggL_law_X5_meets
set_option maxRecDepth 100000 in
theorem ggL_law_X6_meets : GoodIn lw_tbl wsX6_meets := goodIn_g _ [22, 0, 3, 0, 13, 20, 717, 2, 0, 0, 0, 0, 0, 19, 1, 1, 1, 1, 1, 1, 1, 1, 1, 1, 1, 1, 1, 1, 1, 1, 1, 1, 1, 1, 1, 1, 1, 1, 1, 1, 1, 11, 0, 0, 12, 1, 0, 1, 1, 0, 9, 0, 0, 26, 1, 0, 4, 1, 0, 99, 0, 1, 0] [59, 6, 44, 45, 0, 5, 46, 41, 42, 43, 47, 48, 1, 49, 60, 61, 4, 62, 11, 12, 10, 56, 57, 3, 58, 7, 8, 9, 50, 51, 52, 53, 54, 2, 55, 13, 14, 15, 16, 17, 18, 19, 20, 21, 22, 23, 24, 25, 26, 27, 28, 29, 30, 31, 32, 33, 34, 35, 36, 37, 38, 39, 40] rfl (by decide +kernel)
set_option maxRecDepth 100000 in
theorem gL_law_X6_meets : GoodIn lw_tbl (wsV RL 87 RX6 yX6_meets wsX6_meets) := goodIn_app (goodIn_of _ (by decide +kernel)) ggL_law_X6_meets
set_option maxRecDepth 100000 in
theorem ggL_law_X5_both : GoodIn lw_tbl wsX5_both := goodIn_g _ [12, 0, 43, 0, 0, 24, 0, 0, 1, 1, 18, 0, 11, 2, 1, 1, 1, 1, 1, 1, 1, 74, 1, 1, 4, 1, 1, 1, 1, 1, 1, 1, 1, 11, 0, 0, 5, 0, 0, 0, 0, 0, 0, 0, 1, 0, 10, 0, 0, 0, 1, 0, 0, 0, 0, 0, 0, 0, 2, 0, 0, 0, 0, 8, 0, 8, 0, 0, 118, 0, 0, 0, 0, 0, 0, 0, 1, 0, 0, 0, 0, 0, 0, 0, 0, 1, 0, 0, 0, 0, 0, 0, 0, 0, 0, 3, 0, 1, 0] [95, 21, 63, 41, 42, 3, 43, 6, 64, 47, 48, 49, 5, 34, 2, 35, 36, 37, 38, 39, 40, 44, 45, 96, 97, 1, 98, 22, 23, 33, 68, 69, 70, 4, 71, 10, 7, 72, 73, 74, 75, 46, 50, 51, 52, 53, 65, 66, 67, 58, 59, 60, 61, 62, 76, 77, 78, 79, 80, 81, 82, 83, 12, 54, 55, 56, 57, 11, 84, 85, 0, 86, 87, 88, 89, 90, 91, 92, 93, 94, 24, 25, 26, 27, 28, 29, 30, 31, 32, 8, 9, 13, 14, 15, 16, 17, 18, 19, 20] rfl (by decide +kernel)
set_option maxRecDepth 100000 in
theorem gL_law_X5_both : GoodIn lw_tbl (wsV RL 88 RX5 yX5_both wsX5_both) := goodIn_app (goodIn_of _ (by decide +kernel)) ggL_law_X5_both
set_option maxRecDepth 100000 in
theorem ggL_law_X6_both : GoodIn lw_tbl wsX6_both := goodIn_g _ [22, 0, 3, 0, 13, 20, 717, 2, 0, 0, 0, 0, 0, 19, 1, 1, 1, 1, 1, 1, 1, 1, 1, 1, 1, 1, 1, 1, 1, 1, 1, 1, 1, 1, 1, 1, 1, 1, 1, 1, 1, 11, 0, 0, 12, 1, 0, 1, 1, 0, 9, 0, 0, 26, 1, 0, 4, 1, 0, 100, 1, 0, 3] [62, 6, 44, 45, 0, 5, 46, 41, 42, 43, 47, 48, 1, 49, 59, 60, 4, 61, 11, 12, 10, 56, 57, 3, 58, 7, 8, 9, 50, 51, 52, 53, 54, 2, 55, 13, 14, 15, 16, 17, 18, 19, 20, 21, 22, 23, 24, 25, 26, 27, 28, 29, 30, 31, 32, 33, 34, 35, 36, 37, 38, 39, 40] rfl (by decide +kernel)
set_option maxRecDepth 100000 in
theorem gL_law_X6_both : GoodIn lw_tbl (wsV RL 91 RX6 yX6_both wsX6_both) := goodIn_app (goodIn_of _ (by decide +kernel)) ggL_law_X6_both
set_option maxRecDepth 100000 in
theorem ggL_law_X5_alike : GoodIn lw_tbl wsX5_alike := goodIn_g _ [14, 0, 41, 0, 25, 0, 1, 0, 1, 123, 8, 1, 1, 1, 1, 1, 1, 1, 1, 12, 0, 10, 0, 0, 14, 0, 0, 24, 170, 0, 1, 0, 0, 1, 0, 0, 0, 0, 0, 0] [28, 9, 29, 30, 0, 2, 31, 6, 32, 33, 1, 34, 35, 36, 37, 3, 38, 39, 24, 25, 26, 5, 4, 19, 20, 27, 21, 22, 23, 10, 11, 12, 13, 14, 15, 16, 17, 18, 7, 8] rfl (by decide +kernel)
set_option maxRecDepth 100000 in
theorem gL_law_X5_alike : GoodIn lw_tbl (wsV RL 92 RX5 yX5_alike wsX5_alike) := goodIn_app (goodIn_of _ (by decide +kernel)) ggL_law_X5_alike
set_option maxRecDepth 100000 in
theorem ggL_law_X6_alike : GoodIn lw_tbl wsX6_alike := goodIn_g _ [22, 0, 19, 19, 717, 27, 1, 1, 1, 1, 1, 1, 1, 1, 1, 1, 1, 1, 1, 1, 1, 1, 1, 1, 1, 1, 1, 1, 1, 1, 1, 1, 1, 11, 0, 0, 12, 1, 0, 1, 1, 0, 95, 0, 0, 63, 0, 1, 0] [45, 4, 36, 37, 0, 3, 38, 33, 34, 35, 46, 47, 2, 48, 39, 40, 1, 41, 42, 43, 44, 5, 6, 7, 8, 9, 10, 11, 12, 13, 14, 15, 16, 17, 18, 19, 20, 21, 22, 23, 24, 25, 26, 27, 28, 29, 30, 31, 32] rfl (by decide +kernel)
set_option maxRecDepth 100000 in
theorem gL_law_X6_alike : GoodIn lw_tbl (wsV RL 95 RX6 yX6_alike wsX6_alike) := goodIn_app (goodIn_of _ (by decide +kernel)) ggL_law_X6_alike
set_option maxRecDepth 100000 in
theorem ggL_law_X5_slew : GoodIn lw_tbl wsX5_slew := goodIn_g _ [16, 40, 2, 0, 2, 49, 8, 0, 0, 1, 1, 1, 1, 1, 1, 1, 8, 0, 0, 0, 1, 1, 9, 1, 1, 1, 1, 1, 42, 0, 0, 2, 1, 1, 1, 1, 1, 1, 1, 1, 12, 0, 2, 0, 0, 9, 0, 65, 160, 0, 1, 0, 0, 0, 0, 0, 0, 0, 0, 0, 0, 0, 0, 0, 1, 0, 0, 0, 0, 0, 1, 0, 0, 0, 1, 0, 0, 0] [48, 28, 7, 47, 29, 49, 50, 0, 1, 51, 30, 42, 43, 44, 52, 53, 54, 3, 55, 23, 56, 57, 58, 2, 59, 17, 64, 65, 4, 66, 67, 68, 69, 60, 61, 62, 63, 24, 22, 40, 41, 45, 46, 70, 71, 72, 73, 16, 6, 5, 18, 74, 75, 76, 77, 31, 32, 33, 34, 35, 36, 37, 38, 39, 8, 9, 10, 11, 12, 13, 14, 15, 25, 26, 27, 19, 20, 21] rfl (by decide +kernel)
set_option maxRecDepth 100000 in
theorem gL_law_X5_slew : GoodIn lw_tbl (wsV RL 96 RX5 yX5_slew wsX5_slew) := goodIn_app (goodIn_of _ (by decide +kernel)) ggL_law_X5_slew
set_option maxRecDepth 100000 in
theorem ggL_law_X6_slew : GoodIn lw_tbl wsX6_slew := goodIn_g _ [23, 4, 15, 0, 17, 717, 2, 0, 0, 0, 0, 0, 2, 0, 0, 1, 0, 11, 1, 1, 1, 1, 1, 1, 1, 1, 1, 1, 1, 1, 1, 1, 1, 1, 1, 1, 1, 1, 1, 1, 1, 1, 1, 1, 1, 11, 0, 0, 16, 0, 1, 0, 9, 0, 0, 25, 8, 1, 0, 120, 0, 0, 12, 0, 1, 0, 0, 1, 0] [62, 11, 12, 55, 16, 56, 57, 1, 4, 58, 5, 6, 7, 8, 9, 10, 49, 50, 0, 51, 52, 53, 54, 45, 46, 47, 59, 60, 61, 48, 63, 64, 2, 65, 13, 14, 15, 66, 67, 3, 68, 17, 18, 19, 20, 21, 22, 23, 24, 25, 26, 27, 28, 29, 30, 31, 32, 33, 34, 35, 36, 37, 38, 39, 40, 41, 42, 43, 44] rfl (by decide +kernel)
set_option maxRecDepth 100000 in
theorem gL_law_X6_slew : GoodIn lw_tbl (wsV RL 99 RX6 yX6_slew wsX6_slew) := goodIn_app (goodIn_of _ (by decide +kernel)) ggL_law_X6_slew
set_option maxRecDepth 100000 in
theorem ggL_law_X5_slews : GoodIn lw_tbl wsX5_slews := goodIn_g _ [16, 40, 2, 0, 2, 49, 8, 0, 0, 1, 1, 1, 1, 1, 1, 1, 8, 0, 0, 0, 1, 1, 9, 1, 1, 1, 1, 1, 42, 0, 0, 2, 1, 1, 1, 1, 1, 1, 1, 1, 12, 0, 2, 0, 0, 9, 0, 65, 22, 0, 137, 1, 0, 0, 0, 0, 0, 0, 0, 0, 0, 0, 0, 0, 0, 1, 0, 0, 0, 0, 0, 1, 0, 0, 0, 1, 0, 0, 0, 3, 0, 0, 0, 0, 0, 0, 0, 0, 0, 0, 0, 0, 0, 0] [79, 47, 29, 28, 7, 50, 51, 0, 1, 52, 30, 42, 43, 44, 53, 54, 55, 3, 56, 23, 57, 58, 59, 2, 60, 17, 65, 66, 4, 67, 68, 69, 70, 61, 62, 63, 64, 24, 22, 40, 41, 45, 46, 71, 72, 73, 74, 16, 6, 5, 18, 80, 81, 82, 83, 89, 48, 49, 84, 85, 86, 87, 88, 76, 77, 78, 90, 91, 92, 93, 75, 31, 32, 33, 34, 35, 36, 37, 38, 39, 8, 9, 10, 11, 12, 13, 14, 15, 25, 26, 27, 19, 20, 21] rfl (by decide +kernel)
set_option maxRecDepth 100000 in
theorem gL_law_X5_slews : GoodIn lw_tbl (wsV RL 100 RX5 yX5_slews wsX5_slews) := goodIn_app (goodIn_of _ (by decide +kernel)) ggL_law_X5_slews
set_option maxRecDepth 100000 in
theorem ggL_law_X6_slews_ : GoodIn lw_tbl wsX6_slews_ := goodIn_g _ [23, 4, 15, 0, 0, 16, 717, 2, 0, 0, 0, 0, 0, 2, 0, 0, 1, 0, 11, 1, 1, 1, 1, 1, 1, 1, 1, 1, 1, 1, 1, 1, 1, 1, 1, 1, 1, 1, 1, 1, 1, 1, 1, 1, 1, 1, 11, 0, 0, 16, 0, 1, 0, 9, 0, 0, 25, 8, 1, 0, 9, 4, 0, 0, 103, 0, 0, 13, 1, 0, 0, 1, 0, 3, 0, 1, 0] [73, 13, 60, 56, 12, 17, 64, 65, 5, 66, 49, 46, 47, 48, 57, 58, 1, 59, 6, 7, 8, 9, 10, 11, 50, 51, 0, 52, 53, 54, 55, 67, 68, 2, 69, 14, 15, 16, 70, 71, 3, 72, 61, 62, 63, 74, 75, 4, 76, 18, 19, 20, 21, 22, 23, 24, 25, 26, 27, 28, 29, 30, 31, 32, 33, 34, 35, 36, 37, 38, 39, 40, 41, 42, 43, 44, 45] rfl (by decide +kernel)
set_option maxRecDepth 100000 in
theorem gL_law_X6_slews_ : GoodIn lw_tbl (wsV RL 103 RX6 yX6_slews_ wsX6_slews_) := goodIn_app (goodIn_of _ (by decide +kernel)) ggL_law_X6_slews_
set_option maxRecDepth 100000 in
theorem ggL_law_X5_by : GoodIn lw_tbl wsX5_by := goodIn_g _ [16, 40, 0, 0, 0, 0, 2, 19, 0, 2, 1, 18, 0, 0, 1, 0, 1, 6, 1, 1, 1, 1, 1, 1, 1, 1, 8, 0, 0, 0, 1, 1, 9, 1, 1, 1, 1, 1, 38, 3, 0, 0, 2, 1, 1, 1, 1, 1, 1, 1, 1, 12, 0, 2, 0, 0, 1, 0, 0, 0, 0, 0, 0, 1, 0, 5, 0, 0, 0, 0, 0, 0, 0, 0, 1, 0, 0, 0, 0, 0, 0, 0, 2, 0, 0, 0, 0, 8, 0, 48, 0, 137, 1, 0, 0, 0, 0, 0, 0, 0, 0, 0, 0, 0, 0, 0, 1, 0, 0, 0, 0, 0, 1, 0, 0, 0, 2, 0, 0, 9, 0, 0, 0, 0, 7, 0, 0, 0, 0, 0, 0, 0] [124, 38, 40, 39, 91, 92, 0, 1, 93, 41, 53, 54, 55, 87, 60, 61, 2, 62, 8, 94, 95, 96, 5, 97, 33, 98, 99, 100, 4, 101, 27, 106, 107, 6, 108, 109, 110, 111, 102, 103, 104, 105, 34, 32, 51, 52, 63, 64, 112, 113, 114, 115, 26, 17, 15, 28, 88, 71, 72, 73, 7, 125, 126, 127, 3, 128, 11, 129, 56, 57, 58, 59, 65, 66, 67, 68, 13, 14, 16, 69, 70, 74, 75, 76, 77, 78, 79, 80, 81, 12, 82, 83, 84, 85, 86, 130, 131, 119, 120, 121, 123, 89, 90, 122, 116, 117, 118, 42, 43, 44, 45, 46, 47, 48, 49, 50, 9, 10, 35, 36, 37, 29, 30, 31, 18, 19, 20, 21, 22, 23, 24, 25] rfl (by decide +kernel)
set_option maxRecDepth 100000 in
theorem gL_law_X5_by : GoodIn lw_tbl (wsV RL 104 RX5 yX5_by wsX5_by) := goodIn_app (goodIn_of _ (by decide +kernel)) ggL_law_X5_by
set_option maxRecDepth 100000 in
theorem ggL_law_X6_by : GoodIn lw_tbl wsX6_by := goodIn_g _ [22, 0, 4, 15, 0, 0, 0, 15, 717, 2, 0, 0, 0, 0, 0, 2, 0, 0, 1, 0, 11, 1, 1, 1, 1, 1, 1, 1, 1, 1, 1, 1, 1, 1, 1, 1, 1, 1, 1, 1, 1, 1, 1, 1, 1, 1, 1, 1, 11, 0, 0, 12, 1, 0, 0, 0, 1, 0, 9, 0, 0, 34, 1, 0, 14, 0, 0, 103, 0, 0, 13, 1, 0, 0, 1, 0, 4, 1, 0, 3, 0, 1, 0] [79, 15, 8, 67, 68, 7, 69, 54, 48, 49, 50, 51, 52, 0, 53, 55, 56, 1, 57, 61, 62, 2, 63, 14, 9, 10, 11, 12, 13, 58, 59, 60, 70, 71, 3, 72, 16, 17, 18, 73, 74, 4, 75, 19, 80, 81, 6, 82, 76, 77, 5, 78, 64, 65, 66, 20, 21, 22, 23, 24, 25, 26, 27, 28, 29, 30, 31, 32, 33, 34, 35, 36, 37, 38, 39, 40, 41, 42, 43, 44, 45, 46, 47] rfl (by decide +kernel)
set_option maxRecDepth 100000 in
theorem gL_law_X6_by : GoodIn lw_tbl (wsV RL 107 RX6 yX6_by wsX6_by) := goodIn_app (goodIn_of _ (by decide +kernel)) ggL_law_X6_by
set_option maxRecDepth 100000 in
theorem ggL_law_X5_errors : GoodIn lw_tbl wsX5_errors := goodIn_g _ [57, 2, 3, 49, 8, 1, 1, 1, 1, 1, 1, 1, 1, 8, 0, 0, 0, 1, 1, 63, 3, 1, 1, 1, 1, 1, 1, 1, 1, 12, 0, 2, 0, 0, 9, 0, 65, 22, 0, 157, 0, 0, 1, 0, 0, 0, 2, 0, 0, 9, 0, 0, 0, 0, 14, 3, 0, 0, 0, 0, 0] [55, 36, 19, 31, 32, 0, 33, 56, 57, 58, 1, 59, 13, 4, 60, 14, 3, 29, 30, 34, 35, 42, 43, 44, 45, 15, 54, 49, 50, 51, 53, 37, 2, 38, 39, 40, 41, 52, 46, 47, 48, 20, 21, 22, 23, 24, 25, 26, 27, 28, 16, 17, 18, 5, 6, 7, 8, 9, 10, 11, 12] rfl (by decide +kernel)
set_option maxRecDepth 100000 in
theorem gL_law_X5_errors : GoodIn lw_tbl (wsV RL 108 RX5 yX5_errors wsX5_errors) := goodIn_app (goodIn_of _ (by decide +kernel)) ggL_law_X5_errors
set_option maxRecDepth 100000 in
theorem ggL_law_X6_errors : GoodIn lw_tbl wsX6_errors := goodIn_g _ [23, 4, 16, 0, 0, 0, 14, 717, 2, 0, 0, 0, 0, 0, 6, 0, 11, 1, 1, 1, 1, 1, 1, 1, 1, 1, 1, 1, 1, 1, 1, 1, 1, 1, 1, 1, 1, 1, 1, 1, 1, 1, 1, 1, 11, 0, 0, 17, 1, 0, 9, 0, 0, 25, 8, 1, 0, 14, 0, 0, 123, 1, 0, 4, 1, 0, 4, 1, 0, 3, 0, 0, 1, 0, 0] [69, 70, 53, 44, 45, 6, 46, 71, 72, 5, 73, 13, 74, 14, 8, 54, 55, 1, 56, 7, 9, 10, 11, 12, 47, 48, 0, 49, 50, 51, 52, 60, 61, 2, 62, 15, 66, 67, 4, 68, 63, 64, 3, 65, 57, 58, 59, 16, 17, 18, 19, 20, 21, 22, 23, 24, 25, 26, 27, 28, 29, 30, 31, 32, 33, 34, 35, 36, 37, 38, 39, 40, 41, 42, 43] rfl (by decide +kernel)
set_option maxRecDepth 100000 in
theorem gL_law_X6_errors : GoodIn lw_tbl (wsV RL 111 RX6 yX6_errors wsX6_errors) := goodIn_app (goodIn_of _ (by decide +kernel)) ggL_law_X6_errors
set_option maxRecDepth 100000 in
theorem ggL_law_X5_chance : GoodIn lw_tbl wsX5_chance := goodIn_g _ [57, 2, 3, 49, 8, 1, 1, 1, 1, 1, 1, 1, 1, 8, 0, 0, 0, 1, 1, 63, 3, 1, 1, 1, 1, 1, 1, 1, 1, 12, 0, 2, 0, 0, 9, 0, 27, 0, 0, 58, 0, 157, 0, 0, 1, 0, 0, 0, 2, 0, 0, 9, 0, 0, 0, 0, 14, 4, 0, 0, 0, 0, 3, 0, 0, 0] [62, 19, 31, 32, 0, 33, 57, 58, 59, 1, 60, 13, 4, 61, 14, 3, 29, 30, 34, 35, 44, 45, 46, 47, 15, 56, 51, 52, 53, 55, 39, 2, 40, 41, 42, 43, 54, 48, 49, 50, 63, 64, 65, 36, 37, 38, 20, 21, 22, 23, 24, 25, 26, 27, 28, 16, 17, 18, 5, 6, 7, 8, 9, 10, 11, 12] rfl (by decide +kernel)
set_option maxRecDepth 100000 in
theorem gL_law_X5_chance : GoodIn lw_tbl (wsV RL 112 RX5 yX5_chance wsX5_chance) := goodIn_app (goodIn_of _ (by decide +kernel)) ggL_law_X5_chance
set_option maxRecDepth 100000 in
theorem ggL_law_X6_chance : GoodIn lw_tbl wsX6_chance := goodIn_g _ [23, 4, 16, 0, 0, 0, 14, 717, 2, 0, 0, 0, 0, 0, 6, 0, 11, 1, 1, 1, 1, 1, 1, 1, 1, 1, 1, 1, 1, 1, 1, 1, 1, 1, 1, 1, 1, 1, 1, 1, 1, 1, 1, 1, 11, 0, 0, 0, 16, 1, 0, 9, 0, 0, 34, 1, 0, 14, 0, 0, 28, 0, 0, 92, 1, 0, 4, 1, 0, 4, 1, 0, 4, 0, 1, 0, 0, 3] [77, 47, 72, 44, 45, 6, 46, 73, 74, 5, 75, 13, 76, 14, 8, 54, 55, 1, 56, 7, 9, 10, 11, 12, 48, 49, 0, 50, 51, 52, 53, 63, 64, 2, 65, 15, 69, 70, 4, 71, 66, 67, 3, 68, 57, 58, 59, 60, 61, 62, 16, 17, 18, 19, 20, 21, 22, 23, 24, 25, 26, 27, 28, 29, 30, 31, 32, 33, 34, 35, 36, 37, 38, 39, 40, 41, 42, 43] rfl (by decide +kernel)
set_option maxRecDepth 100000 in
theorem gL_law_X6_chance : GoodIn lw_tbl (wsV RL 116 RX6 yX6_chance wsX6_chance) := goodIn_app (goodIn_of _ (by decide +kernel)) ggL_law_X6_chance
set_option maxRecDepth 100000 in
theorem ggL_law_X5_tells : GoodIn lw_tbl wsX5_tells := goodIn_g _ [16, 0, 0, 38, 0, 0, 1, 22, 0, 2, 1, 18, 0, 0, 1, 1, 0, 7, 0, 1, 1, 1, 1, 1, 1, 1, 25, 1, 1, 0, 0, 1, 1, 38, 3, 1, 2, 1, 1, 1, 1, 1, 1, 1, 1, 11, 0, 0, 2, 0, 0, 1, 0, 0, 0, 0, 0, 0, 1, 0, 5, 0, 0, 0, 0, 0, 0, 0, 0, 1, 0, 0, 0, 0, 0, 0, 0, 2, 0, 0, 0, 0, 8, 0, 187, 1, 0, 0, 0, 0, 0, 5, 0, 0, 39, 0, 0, 0, 0, 21, 0, 1, 0, 0, 0, 1, 0] [99, 33, 29, 84, 85, 0, 3, 86, 35, 48, 49, 50, 82, 55, 56, 4, 57, 8, 87, 88, 89, 6, 90, 27, 100, 101, 1, 102, 34, 17, 15, 103, 91, 92, 93, 28, 26, 46, 47, 45, 104, 105, 2, 106, 83, 66, 67, 68, 7, 94, 95, 96, 5, 97, 11, 98, 51, 52, 53, 54, 58, 59, 60, 61, 62, 63, 13, 14, 16, 64, 65, 69, 70, 71, 72, 73, 74, 75, 76, 12, 77, 78, 79, 80, 81, 36, 37, 38, 39, 40, 41, 42, 43, 44, 30, 31, 32, 9, 10, 18, 19, 20, 21, 22, 23, 24, 25] rfl (by decide +kernel)
set_option maxRecDepth 100000 in
theorem gL_law_X5_tells : GoodIn lw_tbl (wsV RL 117 RX5 yX5_tells wsX5_tells) := goodIn_app (goodIn_of _ (by decide +kernel)) ggL_law_X5_tells
set_option maxRecDepth 100000 in
theorem ggL_law_X6_tells : GoodIn lw_tbl wsX6_tells := goodIn_g _ [22, 0, 4, 3, 16, 13, 717, 2, 0, 0, 0, 0, 0, 2, 0, 0, 14, 1, 1, 1, 1, 1, 1, 1, 1, 1, 1, 1, 1, 1, 1, 1, 1, 1, 1, 1, 1, 1, 1, 1, 1, 1, 1, 1, 11, 0, 0, 12, 1, 0, 0, 0, 1, 0, 9, 0, 0, 21, 12, 1, 0, 33, 1, 0, 83, 0, 0, 54, 0, 1, 0] [67, 57, 13, 14, 6, 64, 65, 5, 66, 50, 44, 45, 46, 47, 48, 0, 49, 68, 69, 4, 70, 7, 15, 58, 59, 2, 60, 12, 8, 9, 10, 11, 51, 52, 1, 53, 54, 55, 56, 61, 62, 3, 63, 16, 17, 18, 19, 20, 21, 22, 23, 24, 25, 26, 27, 28, 29, 30, 31, 32, 33, 34, 35, 36, 37, 38, 39, 40, 41, 42, 43] rfl (by decide +kernel)
set_option maxRecDepth 100000 in
theorem gL_law_X6_tells : GoodIn lw_tbl (wsV RL 120 RX6 yX6_tells wsX6_tells) := goodIn_app (goodIn_of _ (by decide +kernel)) ggL_law_X6_tells
set_option maxRecDepth 100000 in
theorem ggL_law_X5_film : GoodIn lw_tbl wsX5_film := goodIn_g _ [16, 40, 3, 2, 50, 8, 0, 1, 1, 1, 1, 1, 1, 1, 25, 1, 1, 1, 1, 1, 42, 1, 2, 1, 1, 1, 1, 1, 1, 1, 1, 11, 0, 0, 2, 0, 0, 9, 0, 227, 1, 0, 14, 0, 74, 0, 0, 0, 0, 0, 0, 0, 0, 0] [44, 20, 5, 4, 39, 40, 0, 1, 41, 21, 34, 35, 36, 45, 46, 47, 2, 48, 14, 15, 49, 42, 3, 43, 16, 31, 32, 33, 50, 51, 52, 53, 37, 38, 22, 23, 24, 25, 26, 27, 28, 29, 30, 6, 7, 8, 9, 10, 11, 12, 13, 17, 18, 19] rfl (by decide +kernel)
set_option maxRecDepth 100000 in
theorem gL_law_X5_film : GoodIn lw_tbl (wsV RL 121 RX5 yX5_film wsX5_film) := goodIn_app (goodIn_of _ (by decide +kernel)) ggL_law_X5_film
set_option maxRecDepth 100000 in
theorem ggL_law_X6_film : GoodIn lw_tbl wsX6_film := goodIn_g _ [23, 4, 3, 30, 717, 2, 0, 0, 0, 0, 0, 2, 0, 0, 14, 1, 1, 1, 1, 1, 1, 1, 1, 1, 1, 1, 1, 1, 1, 1, 1, 1, 1, 1, 1, 1, 1, 1, 1, 1, 1, 1, 11, 0, 0, 16, 0, 1, 0, 9, 0, 0, 21, 12, 1, 0, 33, 1, 0, 80, 0, 0, 0, 0, 0, 0, 61, 0, 0] [66, 52, 67, 13, 5, 62, 63, 3, 64, 45, 42, 43, 44, 68, 59, 60, 61, 65, 11, 12, 53, 54, 1, 55, 10, 4, 6, 7, 8, 9, 46, 47, 0, 48, 49, 50, 51, 56, 57, 2, 58, 14, 15, 16, 17, 18, 19, 20, 21, 22, 23, 24, 25, 26, 27, 28, 29, 30, 31, 32, 33, 34, 35, 36, 37, 38, 39, 40, 41] rfl (by decide +kernel)
set_option maxRecDepth 100000 in
theorem gL_law_X6_film : GoodIn lw_tbl (wsV RL 124 RX6 yX6_film wsX6_film) := goodIn_app (goodIn_of _ (by decide +kernel)) ggL_law_X6_film
set_option maxRecDepth 100000 in
theorem ggL_law_X5_feed : GoodIn lw_tbl wsX5_feed := goodIn_g _ [57, 4, 121, 2, 0, 6, 1, 1, 1, 1, 1, 1, 1, 1, 9, 1, 1, 1, 1, 1, 1, 1, 1, 1, 16, 0, 0, 9, 0, 335, 0, 0, 0, 0, 0, 0, 0] [29, 14, 4, 24, 25, 0, 26, 30, 31, 32, 33, 34, 35, 1, 36, 2, 3, 27, 28, 15, 16, 17, 18, 19, 20, 21, 22, 23, 5, 6, 7, 8, 9, 10, 11, 12, 13] rfl (by decide +kernel)
set_option maxRecDepth 100000 in
theorem gL_law_X5_feed : GoodIn lw_tbl (wsV RL 125 RX5 yX5_feed wsX5_feed) := goodIn_app (goodIn_of _ (by decide +kernel)) ggL_law_X5_feed
set_option maxRecDepth 100000 in
theorem ggL_law_X6_feed : GoodIn lw_tbl wsX6_feed := goodIn_g _ [63, 734, 0, 9, 1, 1, 1, 1, 1, 1, 1, 1, 1, 1, 1, 1, 1, 1, 1, 1, 1, 1, 1, 1, 1, 1, 1, 1, 1, 1, 1, 10, 0, 0, 0, 268, 0] [35, 31, 36, 2, 1, 32, 33, 0, 34, 3, 4, 5, 6, 7, 8, 9, 10, 11, 12, 13, 14, 15, 16, 17, 18, 19, 20, 21, 22, 23, 24, 25, 26, 27, 28, 29, 30] rfl (by decide +kernel)
set_option maxRecDepth 100000 in
theorem gL_law_X6_feed : GoodIn lw_tbl (wsV RL 129 RX6 yX6_feed wsX6_feed) := goodIn_app (goodIn_of _ (by decide +kernel)) ggL_law_X6_feed
set_option maxRecDepth 100000 in
theorem ggL_law_X5_text : GoodIn lw_tbl wsX5_text := goodIn_g _ [19, 37, 0, 0, 2, 2, 0, 0, 0, 15, 0, 0, 0, 0, 1, 18, 0, 0, 1, 2, 1, 1, 1, 2, 1, 1, 1, 1, 1, 1, 1, 44, 0, 0, 0, 0, 0, 0, 0, 0, 0, 0, 0, 1, 1, 1, 1, 1, 1, 1, 1, 2, 1, 1, 2, 1, 1, 1, 1, 1, 1, 1, 1, 1, 3, 0, 0, 0, 0, 0, 0, 1, 0, 0, 0, 1, 0, 0, 0, 0, 0, 0, 0, 0, 0, 0, 1, 0, 0, 0, 0, 0, 1, 0, 0, 0, 0, 0, 0, 0, 0, 1, 0, 0, 0, 0, 0, 0, 0, 2, 0, 0, 0, 0, 1, 0, 0, 1, 0, 0, 0, 0, 22, 0, 0, 0, 0, 1, 1, 276, 0, 0, 0, 0, 0, 0, 0, 0, 0, 0, 0, 0, 1, 0, 0, 0, 0, 0, 1, 0, 0, 0, 2, 0, 0, 5, 0, 0, 0, 0, 0, 0, 0, 0, 0, 0, 0, 0, 1, 0, 0, 0, 0, 0, 0, 0, 0, 0, 0, 0, 0, 0, 0, 1, 0, 0, 0, 0, 0, 0, 0, 0, 0, 0, 0, 0, 0, 0, 0, 0, 1, 1, 1, 0, 0, 0, 0, 0, 0, 0, 1, 0, 0, 0, 0, 0, 0, 0, 0, 0, 0, 0, 0, 0, 468, 0] [129, 54, 35, 37, 130, 131, 132, 4, 133, 38, 36, 39, 40, 134, 135, 136, 137, 41, 32, 33, 138, 139, 140, 141, 34, 31, 72, 1, 73, 142, 143, 144, 145, 146, 147, 76, 77, 148, 149, 150, 151, 152, 153, 154, 155, 156, 157, 158, 159, 160, 161, 5, 162, 224, 163, 164, 165, 166, 167, 225, 168, 169, 170, 171, 172, 173, 174, 175, 176, 177, 6, 178, 179, 180, 181, 182, 183, 184, 7, 185, 186, 187, 8, 188, 189, 190, 191, 192, 193, 194, 195, 196, 197, 198, 199, 200, 201, 202, 203, 204, 205, 206, 207, 208, 86, 87, 209, 210, 0, 211, 125, 212, 213, 214, 215, 216, 217, 218, 219, 220, 64, 65, 66, 51, 12, 53, 67, 68, 69, 70, 74, 71, 75, 78, 79, 80, 2, 81, 9, 82, 83, 84, 85, 10, 88, 89, 90, 3, 91, 15, 11, 16, 22, 20, 18, 21, 92, 93, 94, 95, 17, 19, 96, 97, 98, 99, 100, 101, 102, 103, 104, 105, 106, 107, 108, 109, 110, 111, 112, 113, 221, 117, 118, 119, 120, 121, 222, 122, 123, 124, 52, 126, 127, 128, 223, 114, 115, 116, 55, 56, 57, 58, 59, 60, 61, 62, 63, 42, 43, 44, 45, 46, 47, 48, 49, 50, 13, 14, 23, 24, 25, 26, 27, 28, 29, 30] rfl (by decide +kernel)
set_option maxRecDepth 100000 in
theorem gL_law_X5_text : GoodIn lw_tbl (wsV RL 130 RX5 yX5_text wsX5_text) := goodIn_app (goodIn_of _ (by decide +kernel)) ggL_law_X5_text
set_option maxRecDepth 100000 in
theorem ggL_law_X6_text : GoodIn lw_tbl wsX6_text := goodIn_g _ [22, 0, 3, 22, 0, 0, 0, 0, 0, 7, 717, 16, 0, 0, 0, 0, 0, 0, 0, 0, 0, 0, 0, 1, 1, 1, 1, 1, 1, 1, 1, 1, 1, 1, 1, 1, 1, 1, 1, 1, 1, 1, 1, 1, 1, 1, 1, 1, 1, 1, 4, 0, 0, 0, 0, 0, 0, 0, 0, 0, 0, 0, 0, 0, 1, 0, 0, 1, 0, 0, 0, 1, 0, 0, 0, 1, 0, 25, 0, 0, 0, 0, 0, 0, 0, 0, 0, 0, 0, 0, 0, 1, 0, 53, 0, 0, 145, 8, 0, 1, 0, 0, 1, 0, 0, 0, 0, 1, 0, 0, 0, 0, 1, 0, 0, 1, 0, 0, 1, 0, 0, 0, 0] [97, 16, 21, 18, 12, 17, 98, 99, 3, 9, 100, 104, 105, 109, 110, 101, 102, 4, 103, 11, 57, 58, 59, 106, 107, 5, 108, 14, 13, 111, 112, 6, 113, 19, 73, 114, 115, 7, 116, 20, 15, 117, 118, 8, 119, 89, 96, 50, 51, 52, 10, 53, 54, 55, 56, 60, 61, 62, 63, 120, 67, 68, 69, 70, 71, 0, 72, 74, 75, 1, 76, 121, 77, 78, 79, 80, 81, 82, 83, 84, 85, 86, 87, 88, 90, 91, 2, 92, 122, 64, 65, 66, 93, 94, 95, 22, 23, 24, 25, 26, 27, 28, 29, 30, 31, 32, 33, 34, 35, 36, 37, 38, 39, 40, 41, 42, 43, 44, 45, 46, 47, 48, 49] rfl (by decide +kernel)
set_option maxRecDepth 100000 in
theorem gL_law_X6_text : GoodIn lw_tbl (wsV RL 133 RX6 yX6_text wsX6_text) := goodIn_app (goodIn_of _ (by decide +kernel)) ggL_law_X6_text
set_option maxRecDepth 100000 in
theorem ggL_law_X5_image : GoodIn lw_tbl wsX5_image := goodIn_g _ [58, 5, 4, 14, 0, 1, 0, 1, 123, 0, 0, 0, 4, 0, 1, 1, 1, 1, 1, 1, 1, 1, 275, 0, 214, 0, 0, 0, 0, 0, 0, 0, 0, 0, 0] [24, 9, 8, 10, 11, 33, 22, 1, 23, 34, 32, 31, 2, 12, 5, 25, 26, 27, 0, 28, 3, 29, 30, 4, 13, 14, 15, 16, 17, 18, 19, 20, 21, 6, 7] rfl (by decide +kernel)
set_option maxRecDepth 100000 in
theorem gL_law_X5_image : GoodIn lw_tbl (wsV RL 134 RX5 yX5_image wsX5_image) := goodIn_app (goodIn_of _ (by decide +kernel)) ggL_law_X5_image
set_option maxRecDepth 100000 in
theorem ggL_law_X6_image : GoodIn lw_tbl wsX6_image := goodIn_g _ [781, 0, 0, 25, 1, 1, 1, 1, 1, 1, 1, 1, 1, 1, 1, 1, 1, 1, 1, 1, 1, 1, 1, 1, 1, 1, 1, 1, 1, 1, 1, 322] [31, 2, 1, 0, 3, 4, 5, 6, 7, 8, 9, 10, 11, 12, 13, 14, 15, 16, 17, 18, 19, 20, 21, 22, 23, 24, 25, 26, 27, 28, 29, 30] rfl (by decide +kernel)
set_option maxRecDepth 100000 in
theorem gL_law_X6_image : GoodIn lw_tbl (wsV RL 137 RX6 yX6_image wsX6_image) := goodIn_app (goodIn_of _ (by decide +kernel)) ggL_law_X6_image
set_option maxRecDepth 100000 in
theorem ggL_law_X5_back : GoodIn lw_tbl wsX5_back := goodIn_g _ [57, 0, 0, 4, 4, 14, 0, 0, 0, 0, 1, 18, 0, 0, 1, 2, 1, 1, 1, 2, 1, 1, 1, 1, 1, 1, 1, 74, 0, 0, 0, 0, 3, 0, 1, 1, 1, 1, 1, 1, 1, 1, 12, 0, 10, 0, 0, 1, 0, 0, 0, 0, 0, 1, 0, 0, 0, 0, 0, 0, 0, 0, 1, 0, 0, 0, 0, 0, 0, 0, 2, 0, 0, 0, 0, 215, 0, 215, 0, 0, 0, 0, 0, 0, 0, 0, 0, 3] [87, 32, 27, 28, 30, 29, 85, 75, 3, 76, 86, 84, 83, 4, 31, 8, 77, 78, 79, 1, 80, 5, 81, 82, 6, 49, 50, 51, 2, 52, 11, 7, 12, 18, 16, 14, 17, 47, 0, 48, 53, 54, 55, 56, 13, 15, 57, 44, 45, 46, 58, 59, 60, 61, 42, 43, 62, 63, 64, 65, 66, 67, 68, 69, 70, 71, 72, 73, 74, 33, 34, 35, 36, 37, 38, 39, 40, 41, 9, 10, 19, 20, 21, 22, 23, 24, 25, 26] rfl (by decide +kernel)
set_option maxRecDepth 100000 in
theorem gL_law_X5_back : GoodIn lw_tbl (wsV RL 138 RX5 yX5_back wsX5_back) := goodIn_app (goodIn_of _ (by decide +kernel)) ggL_law_X5_back
set_option maxRecDepth 100000 in
theorem ggL_law_X6_back : GoodIn lw_tbl wsX6_back := goodIn_g _ [781, 0, 0, 25, 1, 1, 1, 1, 1, 1, 1, 1, 1, 1, 1, 1, 1, 1, 1, 1, 1, 1, 1, 1, 1, 1, 1, 1, 1, 1, 1, 326] [31, 2, 0, 1, 3, 4, 5, 6, 7, 8, 9, 10, 11, 12, 13, 14, 15, 16, 17, 18, 19, 20, 21, 22, 23, 24, 25, 26, 27, 28, 29, 30] rfl (by decide +kernel)
set_option maxRecDepth 100000 in
theorem gL_law_X6_back : GoodIn lw_tbl (wsV RL 141 RX6 yX6_back wsX6_back) := goodIn_app (goodIn_of _ (by decide +kernel)) ggL_law_X6_back
set_option maxRecDepth 100000 in
theorem ggL_law_X5_load : GoodIn lw_tbl wsX5_load := goodIn_g _ [16, 40, 0, 0, 1, 22, 0, 0, 0, 0, 1, 18, 0, 0, 1, 2, 1, 1, 1, 2, 1, 1, 1, 1, 1, 1, 1, 25, 1, 0, 0, 0, 0, 1, 1, 38, 3, 1, 2, 1, 1, 1, 1, 1, 1, 1, 1, 3, 0, 0, 0, 0, 0, 0, 1, 0, 0, 0, 1, 0, 0, 0, 0, 0, 0, 0, 0, 0, 0, 1, 0, 0, 0, 0, 0, 1, 0, 0, 0, 0, 0, 0, 0, 0, 1, 0, 0, 0, 0, 0, 0, 0, 2, 0, 0, 0, 0, 197, 1, 0, 0, 0, 0, 0, 5, 0, 0, 70, 139, 25, 0] [109, 29, 110, 31, 97, 98, 0, 1, 99, 37, 58, 59, 60, 100, 101, 102, 4, 103, 28, 107, 104, 105, 106, 30, 27, 55, 56, 108, 47, 48, 49, 35, 8, 36, 50, 51, 52, 53, 57, 54, 61, 62, 63, 2, 64, 5, 65, 66, 67, 68, 6, 69, 70, 71, 72, 73, 3, 74, 11, 7, 12, 18, 16, 14, 17, 75, 76, 77, 78, 13, 15, 79, 80, 81, 82, 83, 84, 85, 86, 87, 88, 89, 90, 91, 92, 93, 94, 95, 96, 32, 33, 34, 38, 39, 40, 41, 42, 43, 44, 45, 46, 9, 10, 19, 20, 21, 22, 23, 24, 25, 26] rfl (by decide +kernel)
set_option maxRecDepth 100000 in
theorem gL_law_X5_load : GoodIn lw_tbl (wsV RL 142 RX5 yX5_load wsX5_load) := goodIn_app (goodIn_of _ (by decide +kernel)) ggL_law_X5_load
set_option maxRecDepth 100000 in
theorem ggL_law_X6_load : GoodIn lw_tbl wsX6_load := goodIn_g _ [63, 717, 10, 0, 0, 14, 1, 1, 1, 1, 1, 1, 1, 1, 1, 1, 1, 1, 1, 1, 1, 1, 1, 1, 1, 1, 1, 1, 1, 1, 1, 1, 1, 4, 0, 0, 0, 0, 0, 0, 0, 0, 0, 0, 0, 0, 0, 12, 54, 44, 0, 0, 72, 0, 0, 68, 0, 0] [55, 56, 2, 48, 3, 4, 52, 53, 0, 54, 47, 40, 41, 42, 57, 33, 34, 35, 1, 36, 37, 38, 39, 43, 44, 45, 46, 49, 50, 51, 5, 6, 7, 8, 9, 10, 11, 12, 13, 14, 15, 16, 17, 18, 19, 20, 21, 22, 23, 24, 25, 26, 27, 28, 29, 30, 31, 32] rfl (by decide +kernel)
set_option maxRecDepth 100000 in
theorem gL_law_X6_load : GoodIn lw_tbl (wsV RL 145 RX6 yX6_load wsX6_load) := goodIn_app (goodIn_of _ (by decide +kernel)) ggL_law_X6_load
set_option maxRecDepth 100000 in
theorem ggL_law_X5_count : GoodIn lw_tbl wsX5_count := goodIn_g _ [20, 0, 35, 0, 25, 0, 1, 0, 1, 26, 6, 0, 1, 1, 1, 1, 1, 1, 1, 48, 6, 1, 1, 1, 1, 1, 1, 1, 1, 2, 3, 2, 1, 1, 1, 1, 1, 1, 1, 1, 1, 11, 0, 0, 27, 0, 0, 25, 444, 0, 1, 0, 0, 1, 0] [48, 29, 6, 30, 10, 31, 19, 49, 50, 0, 2, 51, 47, 44, 45, 3, 46, 5, 4, 42, 43, 52, 53, 1, 54, 9, 41, 32, 33, 34, 35, 36, 37, 38, 39, 40, 7, 8, 11, 12, 13, 14, 15, 16, 17, 18, 20, 21, 22, 23, 24, 25, 26, 27, 28] rfl (by decide +kernel)
set_option maxRecDepth 100000 in
theorem gL_law_X5_count : GoodIn lw_tbl (wsV RL 146 RX5 yX5_count wsX5_count) := goodIn_app (goodIn_of _ (by decide +kernel)) ggL_law_X5_count
set_option maxRecDepth 100000 in
theorem ggL_law_X6_count : GoodIn lw_tbl wsX6_count := goodIn_g _ [23, 4, 34, 717, 2, 0, 0, 0, 0, 0, 9, 9, 1, 1, 1, 1, 1, 1, 1, 1, 1, 1, 1, 1, 1, 1, 1, 1, 1, 1, 1, 1, 1, 1, 1, 1, 1, 1, 1, 31, 1, 0, 9, 0, 0, 34, 1, 0, 45, 0, 0, 197] [51, 3, 9, 10, 5, 45, 46, 1, 2, 47, 4, 6, 7, 8, 39, 40, 0, 41, 42, 43, 44, 48, 49, 50, 11, 12, 13, 14, 15, 16, 17, 18, 19, 20, 21, 22, 23, 24, 25, 26, 27, 28, 29, 30, 31, 32, 33, 34, 35, 36, 37, 38] rfl (by decide +kernel)
set_option maxRecDepth 100000 in
theorem gL_law_X6_count : GoodIn lw_tbl (wsV RL 149 RX6 yX6_count wsX6_count) := goodIn_app (goodIn_of _ (by decide +kernel)) ggL_law_X6_count
set_option maxRecDepth 100000 in
theorem ggL_law_X5_sheet : GoodIn lw_tbl wsX5_sheet := goodIn_g _ [16, 40, 3, 2, 100, 1, 1, 1, 1, 1, 44, 2, 1, 1, 1, 1, 1, 1, 1, 1, 16, 0, 0, 238, 1, 0, 14, 0, 75, 0, 0, 0, 0, 169] [33, 23, 24, 0, 1, 25, 10, 20, 21, 22, 28, 29, 30, 2, 31, 4, 5, 32, 26, 3, 27, 6, 11, 12, 13, 14, 15, 16, 17, 18, 19, 7, 8, 9] rfl (by decide +kernel)
set_option maxRecDepth 100000 in
theorem gL_law_X5_sheet : GoodIn lw_tbl (wsV RL 150 RX5 yX5_sheet wsX5_sheet) := goodIn_app (goodIn_of _ (by decide +kernel)) ggL_law_X5_sheet
set_option maxRecDepth 100000 in
theorem ggL_law_X6_sheet : GoodIn lw_tbl wsX6_sheet := goodIn_g _ [63, 728, 0, 0, 14, 1, 1, 1, 1, 1, 1, 1, 1, 1, 1, 1, 1, 1, 1, 1, 1, 1, 1, 1, 1, 1, 1, 1, 1, 1, 1, 1, 11, 0, 0, 16, 173, 0, 0, 0, 0] [36, 40, 1, 2, 3, 37, 38, 0, 39, 35, 32, 33, 34, 4, 5, 6, 7, 8, 9, 10, 11, 12, 13, 14, 15, 16, 17, 18, 19, 20, 21, 22, 23, 24, 25, 26, 27, 28, 29, 30, 31] rfl (by decide +kernel)
set_option maxRecDepth 100000 in
theorem gL_law_X6_sheet : GoodIn lw_tbl (wsV RL 153 RX6 yX6_sheet wsX6_sheet) := goodIn_app (goodIn_of _ (by decide +kernel)) ggL_law_X6_sheet
set_option maxRecDepth 100000 in
theorem ggL_law_X5_put : GoodIn lw_tbl wsX5_put := goodIn_g _ [16, 40, 3, 103, 1, 1, 0, 0, 1, 1, 44, 2, 1, 1, 1, 1, 1, 1, 1, 1, 16, 0, 0, 9, 0, 227, 1, 0, 0, 0, 0, 0, 92, 0, 0, 0, 169] [36, 6, 25, 26, 0, 1, 27, 10, 20, 21, 22, 28, 29, 30, 2, 31, 4, 32, 33, 34, 35, 5, 3, 23, 24, 7, 8, 9, 11, 12, 13, 14, 15, 16, 17, 18, 19] rfl (by decide +kernel)
set_option maxRecDepth 100000 in
theorem gL_law_X5_put : GoodIn lw_tbl (wsV RL 154 RX5 yX5_put wsX5_put) := goodIn_app (goodIn_of _ (by decide +kernel)) ggL_law_X5_put
set_option maxRecDepth 100000 in
theorem ggL_law_X6_put : GoodIn lw_tbl wsX6_put := goodIn_g _ [63, 728, 0, 0, 14, 1, 1, 1, 1, 1, 1, 1, 1, 1, 1, 1, 1, 1, 1, 1, 1, 1, 1, 1, 1, 1, 1, 1, 1, 1, 1, 1, 11, 0, 0, 16, 174, 0, 0, 4] [39, 1, 2, 3, 36, 37, 0, 38, 35, 32, 33, 34, 4, 5, 6, 7, 8, 9, 10, 11, 12, 13, 14, 15, 16, 17, 18, 19, 20, 21, 22, 23, 24, 25, 26, 27, 28, 29, 30, 31] rfl (by decide +kernel)
set_option maxRecDepth 100000 in
theorem gL_law_X6_put : GoodIn lw_tbl (wsV RL 157 RX6 yX6_put wsX6_put) := goodIn_app (goodIn_of _ (by decide +kernel)) ggL_law_X6_put
set_option maxRecDepth 100000 in
theorem ggL_law_X5_copy : GoodIn lw_tbl wsX5_copy := goodIn_g _ [16, 40, 3, 7, 96, 0, 0, 1, 0, 1, 1, 44, 2, 1, 1, 1, 1, 1, 1, 1, 1, 16, 0, 0, 238, 1, 0, 0, 0, 0, 0, 233, 0, 1, 32] [34, 6, 7, 4, 33, 32, 31, 3, 24, 25, 0, 1, 26, 11, 21, 22, 23, 27, 28, 29, 2, 30, 5, 8, 9, 10, 12, 13, 14, 15, 16, 17, 18, 19, 20] rfl (by decide +kernel)
set_option maxRecDepth 100000 in
theorem gL_law_X5_copy : GoodIn lw_tbl (wsV RL 158 RX5 yX5_copy wsX5_copy) := goodIn_app (goodIn_of _ (by decide +kernel)) ggL_law_X5_copy
set_option maxRecDepth 100000 in
theorem ggL_law_X6_copy : GoodIn lw_tbl wsX6_copy := goodIn_g _ [63, 728, 0, 0, 0, 13, 1, 1, 1, 1, 1, 1, 1, 1, 1, 1, 1, 1, 1, 1, 1, 1, 1, 1, 1, 1, 1, 1, 1, 1, 1, 1, 1, 11, 0, 0, 16, 174, 0, 0, 8] [40, 1, 2, 4, 3, 37, 38, 0, 39, 36, 33, 34, 35, 5, 6, 7, 8, 9, 10, 11, 12, 13, 14, 15, 16, 17, 18, 19, 20, 21, 22, 23, 24, 25, 26, 27, 28, 29, 30, 31, 32] rfl (by decide +kernel)
set_option maxRecDepth 100000 in
theorem gL_law_X6_copy : GoodIn lw_tbl (wsV RL 161 RX6 yX6_copy wsX6_copy) := goodIn_app (goodIn_of _ (by decide +kernel)) ggL_law_X6_copy
