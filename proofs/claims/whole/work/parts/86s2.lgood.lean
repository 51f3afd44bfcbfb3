set_option maxRecDepth 20000 in
theorem ggL_law_X5_fault : GoodIn lw_tbl wsX5_fault := goodIn_r _ [385, 398, 386, 388, 6, 57, 389, 212, 124, 390, 392, 7, 393, 210, 245, 246, 247, 370, 372, 3, 373, 117, 366, 368, 2, 369, 115, 351, 352, 64, 353, 374, 376, 4, 377, 378, 380, 5, 381, 394, 396, 8, 397, 112, 208, 303, 275, 276, 58, 277, 85, 84, 316, 284, 285, 59, 286, 110, 347, 349, 0, 350, 217, 219, 221, 223, 225, 227, 229, 231, 233, 125, 127, 129, 131, 133, 135, 137, 139, 88, 90] (by decide +kernel) (by decide +kernel)
set_option maxRecDepth 20000 in
theorem gL_law_X5_fault : GoodIn lw_tbl (wsV RL 63 RX5 yX5_fault wsX5_fault) := goodIn_app (goodIn_of _ (by decide +kernel)) ggL_law_X5_fault
set_option maxRecDepth 20000 in
theorem ggL_law_X6_fault : GoodIn lw_tbl wsX6_fault := goodIn_r _ [1001, 887, 782, 783, 784, 868, 869, 63, 870, 938, 940, 28, 941, 774, 777, 778, 779, 780, 781, 888, 890, 23, 891, 901, 902, 903, 1002, 1004, 37, 1005, 930, 932, 27, 933, 983, 985, 34, 986, 979, 981, 33, 982, 956, 957, 958, 990, 992, 35, 993, 994, 996, 36, 997, 1006, 1008, 38, 1009, 1010, 1012, 39, 1013, 904, 906, 25, 907, 952, 954, 29, 955, 908, 910, 26, 911, 802, 804, 806, 808, 810, 812, 814, 816, 818, 820, 822, 824, 826, 828, 830, 832, 834, 836, 838, 840, 842, 844, 846, 848, 850, 852, 854, 856] (by decide +kernel) (by decide +kernel)
set_option maxRecDepth 20000 in
theorem gL_law_X6_fault : GoodIn lw_tbl (wsV RL 67 RX6 yX6_fault wsX6_fault) := goodIn_app (goodIn_of _ (by decide +kernel)) ggL_law_X6_fault
set_option maxRecDepth 20000 in
theorem ggL_law_X5_may : GoodIn lw_tbl wsX5_may := goodIn_r _ [403, 212, 124, 250, 251, 57, 252, 404, 406, 9, 407, 370, 372, 3, 373, 117, 210, 366, 368, 2, 369, 115, 351, 352, 64, 353, 245, 246, 247, 374, 376, 4, 377, 217, 219, 221, 223, 225, 227, 229, 231, 233, 125, 127, 129, 131, 133, 135, 137, 139] (by decide +kernel) (by decide +kernel)
set_option maxRecDepth 20000 in
theorem gL_law_X5_may : GoodIn lw_tbl (wsV RL 68 RX5 yX5_may wsX5_may) := goodIn_app (goodIn_of _ (by decide +kernel)) ggL_law_X5_may
set_option maxRecDepth 20000 in
theorem ggL_law_X6_may_ : GoodIn lw_tbl wsX6_may_ := goodIn_r _ [1017, 938, 940, 28, 63, 941, 782, 774, 777, 778, 779, 780, 781, 888, 890, 23, 891, 901, 902, 903, 975, 977, 32, 978, 868, 869, 870, 1018, 1020, 40, 1021, 983, 985, 34, 986, 979, 981, 33, 982, 956, 957, 958, 930, 932, 27, 933, 990, 992, 35, 993, 802, 804, 806, 808, 810, 812, 814, 816, 818, 820, 822, 824, 826, 828, 830, 832, 834, 836, 838, 840, 842, 844, 846, 848, 850, 852, 854, 856] (by decide +kernel) (by decide +kernel)
set_option maxRecDepth 20000 in
theorem gL_law_X6_may_ : GoodIn lw_tbl (wsV RL 71 RX6 yX6_may_ wsX6_may_) := goodIn_app (goodIn_of _ (by decide +kernel)) ggL_law_X6_may_
set_option maxRecDepth 20000 in
theorem ggL_law_X5_limit : GoodIn lw_tbl wsX5_limit := goodIn_r _ [411, 412, 414, 10, 57, 415, 212, 124, 404, 406, 9, 407, 370, 372, 3, 373, 117, 210, 366, 368, 2, 369, 115, 351, 352, 64, 353, 245, 246, 247, 374, 376, 4, 377, 217, 219, 221, 223, 225, 227, 229, 231, 233, 125, 127, 129, 131, 133, 135, 137, 139] (by decide +kernel) (by decide +kernel)
set_option maxRecDepth 20000 in
theorem gL_law_X5_limit : GoodIn lw_tbl (wsV RL 72 RX5 yX5_limit wsX5_limit) := goodIn_app (goodIn_of _ (by decide +kernel)) ggL_law_X5_limit
set_option maxRecDepth 20000 in
theorem ggL_law_X6_limit : GoodIn lw_tbl wsX6_limit := goodIn_r _ [1025, 782, 938, 940, 28, 63, 941, 774, 777, 778, 779, 780, 781, 888, 890, 23, 891, 901, 902, 903, 1018, 1020, 40, 1021, 983, 985, 34, 986, 979, 981, 33, 982, 956, 957, 958, 930, 932, 27, 933, 990, 992, 35, 993, 802, 804, 806, 808, 810, 812, 814, 816, 818, 820, 822, 824, 826, 828, 830, 832, 834, 836, 838, 840, 842, 844, 846, 848, 850, 852, 854, 856] (by decide +kernel) (by decide +kernel)
set_option maxRecDepth 20000 in
theorem gL_law_X6_limit : GoodIn lw_tbl (wsV RL 75 RX6 yX6_limit wsX6_limit) := goodIn_app (goodIn_of _ (by decide +kernel)) ggL_law_X6_limit
set_option maxRecDepth 20000 in
theorem ggL_law_X5_least : GoodIn lw_tbl wsX5_least := goodIn_r _ [419, 208, 212, 302, 258, 259, 58, 260, 85, 303, 275, 276, 277, 84, 246, 57, 247, 253, 254, 255, 256, 257, 262, 263, 420, 270, 271, 59, 272, 109, 111, 113, 116, 273, 274, 279, 280, 281, 282, 283, 284, 285, 286, 110, 289, 290, 291, 292, 293, 421, 423, 11, 424, 210, 245, 317, 318, 319, 320, 316, 370, 372, 3, 373, 117, 366, 368, 2, 369, 115, 351, 352, 64, 353, 217, 219, 221, 223, 225, 227, 229, 231, 233, 88, 90, 125, 127, 129, 131, 133, 135, 137, 139] (by decide +kernel) (by decide +kernel)
set_option maxRecDepth 20000 in
theorem gL_law_X5_least : GoodIn lw_tbl (wsV RL 76 RX5 yX5_least wsX5_least) := goodIn_app (goodIn_of _ (by decide +kernel)) ggL_law_X5_least
set_option maxRecDepth 20000 in
theorem ggL_law_X6_least : GoodIn lw_tbl wsX6_least := goodIn_r _ [1029, 774, 883, 885, 22, 63, 886, 868, 869, 870, 888, 890, 23, 891, 938, 940, 28, 941, 782, 777, 778, 779, 780, 781, 901, 902, 903, 1030, 1032, 41, 1033, 904, 906, 25, 907, 908, 910, 26, 911, 930, 932, 27, 933, 983, 985, 34, 986, 979, 981, 33, 982, 956, 957, 958, 802, 804, 806, 808, 810, 812, 814, 816, 818, 820, 822, 824, 826, 828, 830, 832, 834, 836, 838, 840, 842, 844, 846, 848, 850, 852, 854, 856] (by decide +kernel) (by decide +kernel)
set_option maxRecDepth 20000 in
theorem gL_law_X6_least : GoodIn lw_tbl (wsV RL 79 RX6 yX6_least wsX6_least) := goodIn_app (goodIn_of _ (by decide +kernel)) ggL_law_X6_least
set_option maxRecDepth 20000 in
theorem ggL_law_X5_miss : GoodIn lw_tbl wsX5_miss := goodIn_r _ [428, 212, 121, 124, 210, 119, 329, 245, 246, 57, 247, 217, 219, 221, 223, 225, 227, 229, 231, 233, 125, 127, 129, 131, 133, 135, 137, 139] (by decide +kernel) (by decide +kernel)
set_option maxRecDepth 20000 in
theorem gL_law_X5_miss : GoodIn lw_tbl (wsV RL 80 RX5 yX5_miss wsX5_miss) := goodIn_app (goodIn_of _ (by decide +kernel)) ggL_law_X5_miss
set_option maxRecDepth 20000 in
theorem ggL_law_X6_miss : GoodIn lw_tbl wsX6_miss := goodIn_r _ [1037, 929, 781, 782, 780, 868, 869, 63, 870, 938, 940, 28, 941, 774, 777, 778, 779, 888, 890, 23, 891, 901, 902, 903, 930, 932, 27, 933, 802, 804, 806, 808, 810, 812, 814, 816, 818, 820, 822, 824, 826, 828, 830, 832, 834, 836, 838, 840, 842, 844, 846, 848, 850, 852, 854, 856] (by decide +kernel) (by decide +kernel)
set_option maxRecDepth 20000 in
theorem gL_law_X6_miss : GoodIn lw_tbl (wsV RL 83 RX6 yX6_miss wsX6_miss) := goodIn_app (goodIn_of _ (by decide +kernel)) ggL_law_X6_miss
set_option maxRecDepth 20000 in
theorem ggL_law_X5_meets : GoodIn lw_tbl wsX5_meets := goodIn_r _ [432, 208, 210, 212, 302, 258, 259, 58, 260, 85, 303, 275, 276, 277, 84, 246, 57, 247, 245, 433, 434, 435, 59, 436, 109, 86, 437, 438, 439, 440, 274, 279, 280, 281, 282, 312, 313, 314, 289, 290, 291, 292, 293, 442, 443, 444, 445, 446, 447, 448, 449, 122, 283, 284, 285, 286, 110, 450, 452, 12, 453, 253, 254, 255, 256, 257, 262, 263, 454, 455, 456, 457, 458, 459, 460, 461, 217, 219, 221, 223, 225, 227, 229, 231, 233, 88, 90, 125, 127, 129, 131, 133, 135, 137, 139] (by decide +kernel) (by decide +kernel)
set_option maxRecDepth 20000 in
theorem gL_law_X5_meets : GoodIn lw_tbl (wsV RL 84 RX5 yX5_meets wsX5_meets) := goodIn_app (goodIn_of _ (by decide +kernel)) ggL_law_X5_meets
set_option maxRecDepth 20000 in
theorem ggL_law_X6_meets : GoodIn lw_tbl wsX6_meets := goodIn_r _ [1041, 774, 883, 885, 22, 63, 886, 868, 869, 870, 888, 890, 23, 891, 1042, 1044, 42, 1045, 781, 782, 780, 938, 940, 28, 941, 777, 778, 779, 901, 902, 903, 930, 932, 27, 933, 802, 804, 806, 808, 810, 812, 814, 816, 818, 820, 822, 824, 826, 828, 830, 832, 834, 836, 838, 840, 842, 844, 846, 848, 850, 852, 854, 856] (by decide +kernel) (by decide +kernel)
set_option maxRecDepth 20000 in
theorem gL_law_X6_meets : GoodIn lw_tbl (wsV RL 87 RX6 yX6_meets wsX6_meets) := goodIn_app (goodIn_of _ (by decide +kernel)) ggL_law_X6_meets
set_option maxRecDepth 20000 in
theorem ggL_law_X5_both : GoodIn lw_tbl wsX5_both := goodIn_r _ [465, 208, 302, 258, 259, 58, 260, 85, 303, 275, 276, 277, 84, 246, 57, 247, 253, 254, 255, 256, 257, 262, 263, 466, 468, 13, 469, 210, 212, 245, 433, 434, 435, 59, 436, 109, 86, 437, 438, 439, 440, 274, 279, 280, 281, 282, 312, 313, 314, 289, 290, 291, 292, 293, 442, 443, 444, 445, 446, 447, 448, 449, 122, 283, 284, 285, 286, 110, 450, 452, 12, 453, 454, 455, 456, 457, 458, 459, 460, 461, 217, 219, 221, 223, 225, 227, 229, 231, 233, 88, 90, 125, 127, 129, 131, 133, 135, 137, 139] (by decide +kernel) (by decide +kernel)
set_option maxRecDepth 20000 in
theorem gL_law_X5_both : GoodIn lw_tbl (wsV RL 88 RX5 yX5_both wsX5_both) := goodIn_app (goodIn_of _ (by decide +kernel)) ggL_law_X5_both
set_option maxRecDepth 20000 in
theorem ggL_law_X6_both : GoodIn lw_tbl wsX6_both := goodIn_r _ [1049, 774, 883, 885, 22, 63, 886, 868, 869, 870, 888, 890, 23, 891, 1042, 1044, 42, 1045, 781, 782, 780, 938, 940, 28, 941, 777, 778, 779, 901, 902, 903, 930, 932, 27, 933, 802, 804, 806, 808, 810, 812, 814, 816, 818, 820, 822, 824, 826, 828, 830, 832, 834, 836, 838, 840, 842, 844, 846, 848, 850, 852, 854, 856] (by decide +kernel) (by decide +kernel)
set_option maxRecDepth 20000 in
theorem gL_law_X6_both : GoodIn lw_tbl (wsV RL 91 RX6 yX6_both wsX6_both) := goodIn_app (goodIn_of _ (by decide +kernel)) ggL_law_X6_both
set_option maxRecDepth 20000 in
theorem ggL_law_X5_alike : GoodIn lw_tbl wsX5_alike := goodIn_r _ [473, 208, 474, 476, 14, 57, 477, 87, 478, 480, 15, 481, 482, 483, 484, 58, 485, 486, 275, 276, 277, 85, 84, 246, 247, 302, 258, 259, 260, 217, 219, 221, 223, 225, 227, 229, 231, 233, 88, 90] (by decide +kernel) (by decide +kernel)
set_option maxRecDepth 20000 in
theorem gL_law_X5_alike : GoodIn lw_tbl (wsV RL 92 RX5 yX5_alike wsX5_alike) := goodIn_app (goodIn_of _ (by decide +kernel)) ggL_law_X5_alike
set_option maxRecDepth 20000 in
theorem ggL_law_X6_alike : GoodIn lw_tbl wsX6_alike := goodIn_r _ [1053, 774, 883, 885, 22, 63, 886, 868, 869, 870, 1054, 1056, 43, 1057, 888, 890, 23, 891, 987, 988, 989, 802, 804, 806, 808, 810, 812, 814, 816, 818, 820, 822, 824, 826, 828, 830, 832, 834, 836, 838, 840, 842, 844, 846, 848, 850, 852, 854, 856] (by decide +kernel) (by decide +kernel)
set_option maxRecDepth 20000 in
theorem gL_law_X6_alike : GoodIn lw_tbl (wsV RL 95 RX6 yX6_alike wsX6_alike) := goodIn_app (goodIn_of _ (by decide +kernel)) ggL_law_X6_alike
set_option maxRecDepth 20000 in
theorem ggL_law_X5_slew : GoodIn lw_tbl wsX5_slew := goodIn_r _ [490, 212, 124, 329, 213, 491, 493, 16, 57, 494, 214, 250, 251, 252, 495, 496, 497, 61, 498, 161, 499, 500, 501, 60, 502, 148, 508, 509, 64, 510, 511, 512, 513, 503, 504, 505, 506, 163, 159, 246, 247, 262, 263, 515, 516, 517, 518, 114, 217, 219, 221, 223, 225, 227, 229, 231, 233, 125, 127, 129, 131, 133, 135, 137, 139, 165, 167, 169, 149] (by decide +kernel) (by decide +kernel)
set_option maxRecDepth 20000 in
theorem gL_law_X5_slew : GoodIn lw_tbl (wsV RL 96 RX5 yX5_slew wsX5_slew) := goodIn_app (goodIn_of _ (by decide +kernel)) ggL_law_X5_slew
set_option maxRecDepth 20000 in
theorem ggL_law_X6_slew : GoodIn lw_tbl wsX6_slew := goodIn_r _ [1077, 782, 785, 929, 790, 938, 940, 28, 63, 941, 774, 777, 778, 779, 780, 781, 888, 890, 23, 891, 901, 902, 903, 868, 869, 870, 1062, 1063, 1064, 887, 1078, 1080, 44, 1081, 786, 787, 789, 1082, 1084, 45, 1085, 802, 804, 806, 808, 810, 812, 814, 816, 818, 820, 822, 824, 826, 828, 830, 832, 834, 836, 838, 840, 842, 844, 846, 848, 850, 852, 854, 856] (by decide +kernel) (by decide +kernel)
set_option maxRecDepth 20000 in
theorem gL_law_X6_slew : GoodIn lw_tbl (wsV RL 99 RX6 yX6_slew wsX6_slew) := goodIn_app (goodIn_of _ (by decide +kernel)) ggL_law_X6_slew
set_option maxRecDepth 20000 in
theorem ggL_law_X5_slews : GoodIn lw_tbl wsX5_slews := goodIn_r _ [523, 329, 213, 212, 124, 491, 493, 16, 57, 494, 214, 250, 251, 252, 495, 496, 497, 61, 498, 161, 499, 500, 501, 60, 502, 148, 508, 509, 64, 510, 511, 512, 513, 503, 504, 505, 506, 163, 159, 246, 247, 262, 263, 524, 525, 526, 527, 528, 123, 114, 529, 530, 531, 532, 533, 534, 535, 515, 516, 517, 518, 217, 219, 221, 223, 225, 227, 229, 231, 233, 125, 127, 129, 131, 133, 135, 137, 139, 165, 167, 169, 149] (by decide +kernel) (by decide +kernel)
set_option maxRecDepth 20000 in
theorem gL_law_X5_slews : GoodIn lw_tbl (wsV RL 100 RX5 yX5_slews wsX5_slews) := goodIn_app (goodIn_of _ (by decide +kernel)) ggL_law_X5_slews
set_option maxRecDepth 20000 in
theorem ggL_law_X6_slews_ : GoodIn lw_tbl wsX6_slews_ := goodIn_r _ [1089, 785, 951, 929, 782, 790, 1062, 1063, 63, 1064, 887, 868, 869, 870, 938, 940, 28, 941, 774, 777, 778, 779, 780, 781, 888, 890, 23, 891, 901, 902, 903, 1078, 1080, 44, 1081, 786, 787, 789, 1082, 1084, 45, 1085, 956, 957, 958, 1090, 1092, 46, 1093, 802, 804, 806, 808, 810, 812, 814, 816, 818, 820, 822, 824, 826, 828, 830, 832, 834, 836, 838, 840, 842, 844, 846, 848, 850, 852, 854, 856] (by decide +kernel) (by decide +kernel)
set_option maxRecDepth 20000 in
theorem gL_law_X6_slews_ : GoodIn lw_tbl (wsV RL 103 RX6 yX6_slews_ wsX6_slews_) := goodIn_app (goodIn_of _ (by decide +kernel)) ggL_law_X6_slews_
set_option maxRecDepth 20000 in
theorem ggL_law_X5_by : GoodIn lw_tbl wsX5_by := goodIn_r _ [539, 208, 213, 212, 491, 493, 16, 57, 494, 214, 250, 251, 252, 302, 258, 259, 58, 260, 85, 495, 496, 497, 61, 498, 161, 499, 500, 501, 60, 502, 148, 508, 509, 64, 510, 511, 512, 513, 503, 504, 505, 506, 163, 159, 246, 247, 262, 263, 303, 275, 276, 277, 84, 540, 541, 542, 59, 543, 109, 544, 254, 255, 256, 257, 269, 270, 271, 272, 111, 113, 116, 273, 274, 279, 280, 281, 282, 283, 284, 285, 286, 110, 289, 290, 291, 292, 293, 545, 546, 547, 548, 123, 114, 529, 530, 531, 549, 550, 551, 217, 219, 221, 223, 225, 227, 229, 231, 233, 88, 90, 165, 167, 169, 149, 125, 127, 129, 131, 133, 135, 137, 139] (by decide +kernel) (by decide +kernel)
set_option maxRecDepth 20000 in
theorem gL_law_X5_by : GoodIn lw_tbl (wsV RL 104 RX5 yX5_by wsX5_by) := goodIn_app (goodIn_of _ (by decide +kernel)) ggL_law_X5_by
set_option maxRecDepth 20000 in
theorem ggL_law_X6_by : GoodIn lw_tbl wsX6_by := goodIn_r _ [1097, 785, 774, 1062, 1063, 63, 1064, 887, 868, 869, 870, 883, 885, 22, 886, 888, 890, 23, 891, 938, 940, 28, 941, 782, 777, 778, 779, 780, 781, 901, 902, 903, 1078, 1080, 44, 1081, 786, 787, 789, 1082, 1084, 45, 1085, 790, 1098, 1100, 47, 1101, 1090, 1092, 46, 1093, 956, 957, 958, 802, 804, 806, 808, 810, 812, 814, 816, 818, 820, 822, 824, 826, 828, 830, 832, 834, 836, 838, 840, 842, 844, 846, 848, 850, 852, 854, 856] (by decide +kernel) (by decide +kernel)
set_option maxRecDepth 20000 in
theorem gL_law_X6_by : GoodIn lw_tbl (wsV RL 107 RX6 yX6_by wsX6_by) := goodIn_app (goodIn_of _ (by decide +kernel)) ggL_law_X6_by
set_option maxRecDepth 20000 in
theorem ggL_law_X5_errors : GoodIn lw_tbl wsX5_errors := goodIn_r _ [555, 329, 213, 212, 250, 251, 57, 252, 556, 557, 558, 60, 559, 123, 560, 148, 114, 246, 247, 262, 263, 545, 546, 547, 548, 529, 530, 64, 531, 549, 550, 551, 217, 219, 221, 223, 225, 227, 229, 231, 233, 125, 127, 129, 131, 133, 135, 137, 139, 149] (by decide +kernel) (by decide +kernel)
set_option maxRecDepth 20000 in
theorem gL_law_X5_errors : GoodIn lw_tbl (wsV RL 108 RX5 yX5_errors wsX5_errors) := goodIn_app (goodIn_of _ (by decide +kernel)) ggL_law_X5_errors
set_option maxRecDepth 20000 in
theorem ggL_law_X6_errors : GoodIn lw_tbl wsX6_errors := goodIn_r _ [1105, 1106, 929, 868, 869, 63, 870, 1107, 1109, 48, 1110, 782, 1111, 789, 777, 938, 940, 28, 941, 774, 778, 779, 780, 781, 888, 890, 23, 891, 901, 902, 903, 1082, 1084, 45, 1085, 790, 1098, 1100, 47, 1101, 1090, 1092, 46, 1093, 956, 957, 958, 802, 804, 806, 808, 810, 812, 814, 816, 818, 820, 822, 824, 826, 828, 830, 832, 834, 836, 838, 840, 842, 844, 846, 848, 850, 852, 854, 856] (by decide +kernel) (by decide +kernel)
set_option maxRecDepth 20000 in
theorem gL_law_X6_errors : GoodIn lw_tbl (wsV RL 111 RX6 yX6_errors wsX6_errors) := goodIn_app (goodIn_of _ (by decide +kernel)) ggL_law_X6_errors
