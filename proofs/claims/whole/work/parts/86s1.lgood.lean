set_option maxRecDepth 20000 in
theorem ggL_law_X5_init : GoodIn lw_tbl wsX5_init := goodIn_r _ [74, 75, 76, 77, 78, 79, 58, 208, 209, 94, 96, 97, 98, 99, 100, 102, 210, 211, 103, 104, 59, 212, 142, 143, 60, 213, 152, 214, 154, 61, 172, 173, 62, 215, 216, 80, 81, 82, 83, 93, 84, 85, 105, 106, 107, 108, 109, 110, 111, 113, 116, 118, 120, 122, 144, 145, 146, 147, 148, 155, 156, 157, 158, 159, 161, 163, 174, 175, 176, 177, 178, 179, 180, 181, 183, 185, 186, 187, 188, 88, 90, 217, 219, 221, 223, 225, 227, 229, 231, 233, 125, 127, 129, 131, 133, 135, 137, 139, 149, 165, 167, 169, 189, 191, 193, 195, 197, 199, 201, 203, 205] (by decide +kernel) (by decide +kernel)
set_option maxRecDepth 20000 in
theorem gL_law_X5_init : GoodIn lw_tbl (wsX5_init) := ggL_law_X5_init
set_option maxRecDepth 20000 in
theorem ggL_law_X6_init : GoodIn lw_tbl wsX6_init := goodIn_r _ [772, 773, 76, 77, 93, 774, 775, 777, 778, 779, 780, 781, 785, 786, 787, 788, 789, 790, 791, 859, 793, 794, 795, 800, 802, 804, 806, 808, 810, 812, 814, 816, 818, 820, 822, 824, 826, 828, 830, 832, 834, 836, 838, 840, 842, 844, 846, 848, 850, 852, 854, 856] (by decide +kernel) (by decide +kernel)
set_option maxRecDepth 20000 in
theorem gL_law_X6_init : GoodIn lw_tbl (wsX6_init) := ggL_law_X6_init
set_option maxRecDepth 20000 in
theorem ggL_law_X5_piece : GoodIn lw_tbl wsX5_piece := goodIn_r _ [239, 208, 87, 212, 240, 241, 57, 242, 243, 248, 245, 246, 247, 250, 251, 252, 253, 254, 255, 58, 256, 84, 257, 258, 259, 260, 85, 262, 263, 264, 265, 266, 59, 267, 109, 86, 110, 122, 118, 113, 120, 269, 270, 271, 272, 111, 116, 273, 274, 275, 276, 277, 279, 280, 281, 282, 283, 284, 285, 286, 289, 290, 291, 292, 293, 217, 219, 221, 223, 225, 227, 229, 231, 233, 88, 90, 125, 127, 129, 131, 133, 135, 137, 139] (by decide +kernel) (by decide +kernel)
set_option maxRecDepth 20000 in
theorem gL_law_X5_piece : GoodIn lw_tbl (wsV RL 13 RX5 yX5_piece wsX5_piece) := goodIn_app (goodIn_of _ (by decide +kernel)) ggL_law_X5_piece
set_option maxRecDepth 20000 in
theorem ggL_law_X6_piece : GoodIn lw_tbl wsX6_piece := goodIn_r _ [863, 774, 864, 865, 63, 866, 867, 871, 872, 873, 874, 868, 869, 870, 802, 804, 806, 808, 810, 812, 814, 816, 818, 820, 822, 824, 826, 828, 830, 832, 834, 836, 838, 840, 842, 844, 846, 848, 850, 852, 854, 856] (by decide +kernel) (by decide +kernel)
set_option maxRecDepth 20000 in
theorem gL_law_X6_piece : GoodIn lw_tbl (wsV RL 17 RX6 yX6_piece wsX6_piece) := goodIn_app (goodIn_of _ (by decide +kernel)) ggL_law_X6_piece
set_option maxRecDepth 20000 in
theorem ggL_law_X5_drop : GoodIn lw_tbl wsX5_drop := goodIn_r _ [297, 208, 87, 212, 264, 265, 266, 59, 267, 109, 86, 110, 122, 118, 113, 120, 262, 57, 263, 269, 270, 271, 272, 111, 116, 273, 258, 259, 58, 260, 85, 274, 275, 276, 277, 84, 246, 247, 279, 280, 281, 282, 283, 284, 285, 286, 289, 290, 291, 292, 293, 217, 219, 221, 223, 225, 227, 229, 231, 233, 88, 90, 125, 127, 129, 131, 133, 135, 137, 139] (by decide +kernel) (by decide +kernel)
set_option maxRecDepth 20000 in
theorem gL_law_X5_drop : GoodIn lw_tbl (wsV RL 18 RX5 yX5_drop wsX5_drop) := goodIn_app (goodIn_of _ (by decide +kernel)) ggL_law_X5_drop
set_option maxRecDepth 20000 in
theorem ggL_law_X6_drop : GoodIn lw_tbl wsX6_drop := goodIn_r _ [878, 774, 802, 804, 806, 808, 810, 812, 814, 816, 818, 820, 822, 824, 826, 828, 830, 832, 834, 836, 838, 840, 842, 844, 846, 848, 850, 852, 854, 856] (by decide +kernel) (by decide +kernel)
set_option maxRecDepth 20000 in
theorem gL_law_X6_drop : GoodIn lw_tbl (wsV RL 22 RX6 yX6_drop wsX6_drop) := goodIn_app (goodIn_of _ (by decide +kernel)) ggL_law_X6_drop
set_option maxRecDepth 20000 in
theorem ggL_law_X5_set : GoodIn lw_tbl wsX5_set := goodIn_r _ [301, 208, 212, 302, 258, 259, 58, 260, 85, 250, 251, 57, 252, 240, 241, 242, 243, 248, 245, 246, 247, 303, 275, 276, 277, 84, 253, 254, 255, 256, 257, 262, 263, 264, 265, 266, 59, 267, 109, 86, 110, 122, 118, 113, 120, 269, 270, 271, 272, 111, 116, 273, 274, 279, 280, 281, 282, 283, 284, 285, 286, 289, 290, 291, 292, 293, 217, 219, 221, 223, 225, 227, 229, 231, 233, 88, 90, 125, 127, 129, 131, 133, 135, 137, 139] (by decide +kernel) (by decide +kernel)
set_option maxRecDepth 20000 in
theorem gL_law_X5_set : GoodIn lw_tbl (wsV RL 23 RX5 yX5_set wsX5_set) := goodIn_app (goodIn_of _ (by decide +kernel)) ggL_law_X5_set
set_option maxRecDepth 20000 in
theorem ggL_law_X6_set : GoodIn lw_tbl wsX6_set := goodIn_r _ [882, 887, 774, 883, 885, 22, 63, 886, 868, 869, 870, 864, 865, 866, 867, 871, 872, 873, 874, 888, 890, 23, 891, 802, 804, 806, 808, 810, 812, 814, 816, 818, 820, 822, 824, 826, 828, 830, 832, 834, 836, 838, 840, 842, 844, 846, 848, 850, 852, 854, 856] (by decide +kernel) (by decide +kernel)
set_option maxRecDepth 20000 in
theorem gL_law_X6_set : GoodIn lw_tbl (wsV RL 27 RX6 yX6_set wsX6_set) := goodIn_app (goodIn_of _ (by decide +kernel)) ggL_law_X6_set
set_option maxRecDepth 20000 in
theorem ggL_law_X5_of : GoodIn lw_tbl wsX5_of := goodIn_r _ [307, 208, 212, 302, 258, 259, 58, 260, 85, 250, 251, 57, 252, 303, 275, 276, 277, 84, 246, 247, 308, 309, 310, 311, 312, 313, 314, 245, 316, 284, 285, 59, 286, 110, 317, 318, 319, 320, 109, 283, 274, 217, 219, 221, 223, 225, 227, 229, 231, 233, 88, 90, 125, 127, 129, 131, 133, 135, 137, 139] (by decide +kernel) (by decide +kernel)
set_option maxRecDepth 20000 in
theorem gL_law_X5_of : GoodIn lw_tbl (wsV RL 28 RX5 yX5_of wsX5_of) := goodIn_app (goodIn_of _ (by decide +kernel)) ggL_law_X5_of
set_option maxRecDepth 20000 in
theorem ggL_law_X6_of : GoodIn lw_tbl wsX6_of := goodIn_r _ [895, 896, 883, 885, 22, 63, 886, 774, 868, 869, 870, 888, 890, 23, 891, 897, 899, 24, 900, 901, 902, 903, 904, 906, 25, 907, 908, 910, 26, 911, 802, 804, 806, 808, 810, 812, 814, 816, 818, 820, 822, 824, 826, 828, 830, 832, 834, 836, 838, 840, 842, 844, 846, 848, 850, 852, 854, 856] (by decide +kernel) (by decide +kernel)
set_option maxRecDepth 20000 in
theorem gL_law_X6_of : GoodIn lw_tbl (wsV RL 32 RX6 yX6_of wsX6_of) := goodIn_app (goodIn_of _ (by decide +kernel)) ggL_law_X6_of
set_option maxRecDepth 20000 in
theorem ggL_law_X5_taken : GoodIn lw_tbl wsX5_taken := goodIn_r _ [324, 208, 302, 258, 259, 58, 260, 85, 240, 241, 57, 242, 243, 248, 245, 246, 247, 250, 251, 252, 303, 275, 276, 277, 84, 311, 312, 313, 314, 217, 219, 221, 223, 225, 227, 229, 231, 233, 88, 90] (by decide +kernel) (by decide +kernel)
set_option maxRecDepth 20000 in
theorem gL_law_X5_taken : GoodIn lw_tbl (wsV RL 33 RX5 yX5_taken wsX5_taken) := goodIn_app (goodIn_of _ (by decide +kernel)) ggL_law_X5_taken
set_option maxRecDepth 20000 in
theorem ggL_law_X6_taken : GoodIn lw_tbl wsX6_taken := goodIn_r _ [915, 867, 883, 885, 22, 63, 886, 774, 868, 869, 870, 888, 890, 23, 891, 901, 902, 903, 802, 804, 806, 808, 810, 812, 814, 816, 818, 820, 822, 824, 826, 828, 830, 832, 834, 836, 838, 840, 842, 844, 846, 848, 850, 852, 854, 856] (by decide +kernel) (by decide +kernel)
set_option maxRecDepth 20000 in
theorem gL_law_X6_taken : GoodIn lw_tbl (wsV RL 36 RX6 yX6_taken wsX6_taken) := goodIn_app (goodIn_of _ (by decide +kernel)) ggL_law_X6_taken
set_option maxRecDepth 20000 in
theorem ggL_law_X5_rule : GoodIn lw_tbl wsX5_rule := goodIn_r _ [328, 210, 329, 330, 332, 250, 251, 57, 252, 245, 246, 247, 334, 262, 263, 217, 219, 221, 223, 225, 227, 229, 231, 233] (by decide +kernel) (by decide +kernel)
set_option maxRecDepth 20000 in
theorem gL_law_X5_rule : GoodIn lw_tbl (wsV RL 37 RX5 yX5_rule wsX5_rule) := goodIn_app (goodIn_of _ (by decide +kernel)) ggL_law_X5_rule
set_option maxRecDepth 20000 in
theorem ggL_law_X6_rule_ : GoodIn lw_tbl wsX6_rule_ := goodIn_r _ [919, 920, 929, 774, 868, 869, 63, 870, 921, 922, 923, 924, 873, 925, 926, 927, 928, 874, 930, 932, 27, 933, 802, 804, 806, 808, 810, 812, 814, 816, 818, 820, 822, 824, 826, 828, 830, 832, 834, 836, 838, 840, 842, 844, 846, 848, 850, 852, 854, 856] (by decide +kernel) (by decide +kernel)
set_option maxRecDepth 20000 in
theorem gL_law_X6_rule_ : GoodIn lw_tbl (wsV RL 41 RX6 yX6_rule_ wsX6_rule_) := goodIn_app (goodIn_of _ (by decide +kernel)) ggL_law_X6_rule_
set_option maxRecDepth 20000 in
theorem ggL_law_X5_at : GoodIn lw_tbl wsX5_at := goodIn_r _ [338, 212, 124, 329, 115, 117, 119, 121, 112, 250, 251, 57, 252, 245, 246, 247, 217, 219, 221, 223, 225, 227, 229, 231, 233, 125, 127, 129, 131, 133, 135, 137, 139] (by decide +kernel) (by decide +kernel)
set_option maxRecDepth 20000 in
theorem gL_law_X5_at : GoodIn lw_tbl (wsV RL 42 RX5 yX5_at wsX5_at) := goodIn_app (goodIn_of _ (by decide +kernel)) ggL_law_X5_at
set_option maxRecDepth 20000 in
theorem ggL_law_X6_at : GoodIn lw_tbl wsX6_at := goodIn_r _ [937, 782, 942, 929, 777, 778, 780, 781, 779, 938, 940, 28, 63, 941, 774, 888, 890, 23, 891, 901, 902, 903, 868, 869, 870, 802, 804, 806, 808, 810, 812, 814, 816, 818, 820, 822, 824, 826, 828, 830, 832, 834, 836, 838, 840, 842, 844, 846, 848, 850, 852, 854, 856] (by decide +kernel) (by decide +kernel)
set_option maxRecDepth 20000 in
theorem gL_law_X6_at : GoodIn lw_tbl (wsV RL 45 RX6 yX6_at wsX6_at) := goodIn_app (goodIn_of _ (by decide +kernel)) ggL_law_X6_at
set_option maxRecDepth 20000 in
theorem ggL_law_X5_scaled : GoodIn lw_tbl wsX5_scaled := goodIn_r _ [342, 212, 124, 329, 121, 210, 250, 251, 57, 252, 245, 246, 247, 217, 219, 221, 223, 225, 227, 229, 231, 233, 125, 127, 129, 131, 133, 135, 137, 139] (by decide +kernel) (by decide +kernel)
set_option maxRecDepth 20000 in
theorem gL_law_X5_scaled : GoodIn lw_tbl (wsV RL 46 RX5 yX5_scaled wsX5_scaled) := goodIn_app (goodIn_of _ (by decide +kernel)) ggL_law_X5_scaled
set_option maxRecDepth 20000 in
theorem ggL_law_X6_scaled : GoodIn lw_tbl wsX6_scaled := goodIn_r _ [946, 782, 929, 781, 938, 940, 28, 63, 941, 774, 777, 778, 779, 780, 888, 890, 23, 891, 901, 902, 903, 868, 869, 870, 930, 932, 27, 933, 802, 804, 806, 808, 810, 812, 814, 816, 818, 820, 822, 824, 826, 828, 830, 832, 834, 836, 838, 840, 842, 844, 846, 848, 850, 852, 854, 856] (by decide +kernel) (by decide +kernel)
set_option maxRecDepth 20000 in
theorem gL_law_X6_scaled : GoodIn lw_tbl (wsV RL 50 RX6 yX6_scaled wsX6_scaled) := goodIn_app (goodIn_of _ (by decide +kernel)) ggL_law_X6_scaled
set_option maxRecDepth 20000 in
theorem ggL_law_X5_join : GoodIn lw_tbl wsX5_join := goodIn_r _ [346, 208, 87, 212, 115, 117, 250, 251, 57, 252, 347, 349, 0, 350, 351, 352, 64, 353, 316, 284, 285, 59, 286, 110, 246, 247, 245, 354, 356, 1, 357, 210, 217, 219, 221, 223, 225, 227, 229, 231, 233, 88, 90, 125, 127, 129, 131, 133, 135, 137, 139] (by decide +kernel) (by decide +kernel)
set_option maxRecDepth 20000 in
theorem gL_law_X5_join : GoodIn lw_tbl (wsV RL 51 RX5 yX5_join wsX5_join) := goodIn_app (goodIn_of _ (by decide +kernel)) ggL_law_X5_join
set_option maxRecDepth 20000 in
theorem ggL_law_X6_join : GoodIn lw_tbl wsX6_join := goodIn_r _ [950, 774, 951, 868, 869, 63, 870, 938, 940, 28, 941, 782, 777, 778, 779, 780, 781, 888, 890, 23, 891, 901, 902, 903, 952, 954, 29, 955, 908, 910, 26, 911, 904, 906, 25, 907, 956, 957, 958, 959, 961, 30, 962, 963, 965, 31, 966, 930, 932, 27, 933, 802, 804, 806, 808, 810, 812, 814, 816, 818, 820, 822, 824, 826, 828, 830, 832, 834, 836, 838, 840, 842, 844, 846, 848, 850, 852, 854, 856] (by decide +kernel) (by decide +kernel)
set_option maxRecDepth 20000 in
theorem gL_law_X6_join : GoodIn lw_tbl (wsV RL 54 RX6 yX6_join wsX6_join) := goodIn_app (goodIn_of _ (by decide +kernel)) ggL_law_X6_join
set_option maxRecDepth 20000 in
theorem ggL_law_X5_joins : GoodIn lw_tbl wsX5_joins := goodIn_r _ [361, 208, 87, 354, 356, 1, 57, 357, 212, 115, 210, 117, 347, 349, 0, 350, 351, 352, 64, 353, 316, 284, 285, 59, 286, 110, 246, 247, 245, 217, 219, 221, 223, 225, 227, 229, 231, 233, 88, 90, 125, 127, 129, 131, 133, 135, 137, 139] (by decide +kernel) (by decide +kernel)
set_option maxRecDepth 20000 in
theorem gL_law_X5_joins : GoodIn lw_tbl (wsV RL 55 RX5 yX5_joins wsX5_joins) := goodIn_app (goodIn_of _ (by decide +kernel)) ggL_law_X5_joins
set_option maxRecDepth 20000 in
theorem ggL_law_X6_joins : GoodIn lw_tbl wsX6_joins := goodIn_r _ [970, 774, 938, 940, 28, 63, 941, 782, 777, 778, 779, 780, 781, 888, 890, 23, 891, 901, 902, 903, 963, 965, 31, 966, 952, 954, 29, 955, 908, 910, 26, 911, 904, 906, 25, 907, 956, 957, 958, 930, 932, 27, 933, 959, 961, 30, 962, 802, 804, 806, 808, 810, 812, 814, 816, 818, 820, 822, 824, 826, 828, 830, 832, 834, 836, 838, 840, 842, 844, 846, 848, 850, 852, 854, 856] (by decide +kernel) (by decide +kernel)
set_option maxRecDepth 20000 in
theorem gL_law_X6_joins : GoodIn lw_tbl (wsV RL 58 RX6 yX6_joins wsX6_joins) := goodIn_app (goodIn_of _ (by decide +kernel)) ggL_law_X6_joins
set_option maxRecDepth 20000 in
theorem ggL_law_X5_need : GoodIn lw_tbl wsX5_need := goodIn_r _ [365, 212, 124, 210, 250, 251, 57, 252, 245, 246, 247, 366, 368, 2, 369, 115, 351, 352, 64, 353, 370, 372, 3, 373, 117, 374, 376, 4, 377, 378, 380, 5, 381, 217, 219, 221, 223, 225, 227, 229, 231, 233, 125, 127, 129, 131, 133, 135, 137, 139] (by decide +kernel) (by decide +kernel)
set_option maxRecDepth 20000 in
theorem gL_law_X5_need : GoodIn lw_tbl (wsV RL 59 RX5 yX5_need wsX5_need) := goodIn_app (goodIn_of _ (by decide +kernel)) ggL_law_X5_need
set_option maxRecDepth 20000 in
theorem ggL_law_X6_need : GoodIn lw_tbl wsX6_need := goodIn_r _ [974, 887, 938, 940, 28, 63, 941, 782, 774, 777, 778, 779, 780, 781, 888, 890, 23, 891, 901, 902, 903, 975, 977, 32, 978, 868, 869, 870, 930, 932, 27, 933, 979, 981, 33, 982, 956, 957, 958, 983, 985, 34, 986, 987, 988, 989, 990, 992, 35, 993, 994, 996, 36, 997, 802, 804, 806, 808, 810, 812, 814, 816, 818, 820, 822, 824, 826, 828, 830, 832, 834, 836, 838, 840, 842, 844, 846, 848, 850, 852, 854, 856] (by decide +kernel) (by decide +kernel)
set_option maxRecDepth 20000 in
theorem gL_law_X6_need : GoodIn lw_tbl (wsV RL 62 RX6 yX6_need wsX6_need) := goodIn_app (goodIn_of _ (by decide +kernel)) ggL_law_X6_need
