set_option maxRecDepth 20000 in
theorem ggL_law_X5_chance : GoodIn lw_tbl wsX5_chance := goodIn_r _ [564, 213, 212, 250, 251, 57, 252, 556, 557, 558, 60, 559, 123, 560, 148, 114, 246, 247, 262, 263, 545, 546, 547, 548, 529, 530, 64, 531, 549, 550, 551, 565, 566, 567, 291, 292, 293, 217, 219, 221, 223, 225, 227, 229, 231, 233, 125, 127, 129, 131, 133, 135, 137, 139, 149] (by decide +kernel) (by decide +kernel)
set_option maxRecDepth 20000 in
theorem gL_law_X5_chance : GoodIn lw_tbl (wsV RL 112 RX5 yX5_chance wsX5_chance) := goodIn_app (goodIn_of _ (by decide +kernel)) ggL_law_X5_chance
set_option maxRecDepth 20000 in
theorem ggL_law_X6_chance : GoodIn lw_tbl wsX6_chance := goodIn_r _ [1115, 871, 1106, 868, 869, 63, 870, 1107, 1109, 48, 1110, 782, 1111, 789, 777, 938, 940, 28, 941, 774, 778, 779, 780, 781, 888, 890, 23, 891, 901, 902, 903, 1082, 1084, 45, 1085, 790, 1098, 1100, 47, 1101, 1090, 1092, 46, 1093, 956, 957, 958, 987, 988, 989, 802, 804, 806, 808, 810, 812, 814, 816, 818, 820, 822, 824, 826, 828, 830, 832, 834, 836, 838, 840, 842, 844, 846, 848, 850, 852, 854, 856] (by decide +kernel) (by decide +kernel)
set_option maxRecDepth 20000 in
theorem gL_law_X6_chance : GoodIn lw_tbl (wsV RL 116 RX6 yX6_chance wsX6_chance) := goodIn_app (goodIn_of _ (by decide +kernel)) ggL_law_X6_chance
set_option maxRecDepth 20000 in
theorem ggL_law_X5_tells : GoodIn lw_tbl wsX5_tells := goodIn_r _ [571, 208, 164, 491, 493, 16, 57, 494, 214, 250, 251, 252, 302, 258, 259, 58, 260, 85, 495, 496, 497, 61, 498, 161, 572, 574, 17, 575, 212, 124, 115, 576, 504, 505, 506, 163, 159, 246, 247, 245, 577, 579, 18, 580, 303, 275, 276, 277, 84, 540, 541, 542, 59, 543, 109, 544, 254, 255, 256, 257, 262, 263, 269, 270, 271, 272, 111, 113, 116, 273, 274, 279, 280, 281, 282, 283, 284, 285, 286, 110, 289, 290, 291, 292, 293, 217, 219, 221, 223, 225, 227, 229, 231, 233, 165, 167, 169, 88, 90, 125, 127, 129, 131, 133, 135, 137, 139] (by decide +kernel) (by decide +kernel)
set_option maxRecDepth 20000 in
theorem gL_law_X5_tells : GoodIn lw_tbl (wsV RL 117 RX5 yX5_tells wsX5_tells) := goodIn_app (goodIn_of _ (by decide +kernel)) ggL_law_X5_tells
set_option maxRecDepth 20000 in
theorem ggL_law_X6_tells : GoodIn lw_tbl wsX6_tells := goodIn_r _ [1119, 925, 785, 786, 774, 1062, 1063, 63, 1064, 887, 868, 869, 870, 883, 885, 22, 886, 1120, 1122, 49, 1123, 777, 787, 938, 940, 28, 941, 782, 778, 779, 780, 781, 888, 890, 23, 891, 901, 902, 903, 975, 977, 32, 978, 802, 804, 806, 808, 810, 812, 814, 816, 818, 820, 822, 824, 826, 828, 830, 832, 834, 836, 838, 840, 842, 844, 846, 848, 850, 852, 854, 856] (by decide +kernel) (by decide +kernel)
set_option maxRecDepth 20000 in
theorem gL_law_X6_tells : GoodIn lw_tbl (wsV RL 120 RX6 yX6_tells wsX6_tells) := goodIn_app (goodIn_of _ (by decide +kernel)) ggL_law_X6_tells
set_option maxRecDepth 20000 in
theorem ggL_law_X5_film : GoodIn lw_tbl wsX5_film := goodIn_r _ [584, 212, 124, 115, 491, 493, 16, 57, 494, 214, 250, 251, 252, 585, 586, 587, 61, 588, 159, 161, 589, 509, 64, 510, 163, 245, 246, 247, 590, 591, 592, 593, 262, 263, 217, 219, 221, 223, 225, 227, 229, 231, 233, 125, 127, 129, 131, 133, 135, 137, 139, 165, 167, 169] (by decide +kernel) (by decide +kernel)
set_option maxRecDepth 20000 in
theorem gL_law_X5_film : GoodIn lw_tbl (wsV RL 121 RX5 yX5_film wsX5_film) := goodIn_app (goodIn_of _ (by decide +kernel)) ggL_law_X5_film
set_option maxRecDepth 20000 in
theorem ggL_law_X6_film : GoodIn lw_tbl wsX6_film := goodIn_r _ [1127, 925, 1128, 787, 777, 1062, 1063, 63, 1064, 887, 868, 869, 870, 1129, 1059, 1060, 1061, 1065, 785, 786, 938, 940, 28, 941, 782, 774, 778, 779, 780, 781, 888, 890, 23, 891, 901, 902, 903, 975, 977, 32, 978, 802, 804, 806, 808, 810, 812, 814, 816, 818, 820, 822, 824, 826, 828, 830, 832, 834, 836, 838, 840, 842, 844, 846, 848, 850, 852, 854, 856] (by decide +kernel) (by decide +kernel)
set_option maxRecDepth 20000 in
theorem gL_law_X6_film : GoodIn lw_tbl (wsV RL 124 RX6 yX6_film wsX6_film) := goodIn_app (goodIn_of _ (by decide +kernel)) ggL_law_X6_film
set_option maxRecDepth 20000 in
theorem ggL_law_X5_feed : GoodIn lw_tbl wsX5_feed := goodIn_r _ [598, 215, 182, 250, 251, 57, 252, 599, 600, 601, 602, 603, 604, 62, 605, 178, 181, 262, 263, 217, 219, 221, 223, 225, 227, 229, 231, 233, 189, 191, 193, 195, 197, 199, 201, 203, 205] (by decide +kernel) (by decide +kernel)
set_option maxRecDepth 20000 in
theorem gL_law_X5_feed : GoodIn lw_tbl (wsV RL 125 RX5 yX5_feed wsX5_feed) := goodIn_app (goodIn_of _ (by decide +kernel)) ggL_law_X5_feed
set_option maxRecDepth 20000 in
theorem ggL_law_X6_feed : GoodIn lw_tbl wsX6_feed := goodIn_r _ [1139, 867, 1140, 792, 791, 868, 869, 63, 870, 802, 804, 806, 808, 810, 812, 814, 816, 818, 820, 822, 824, 826, 828, 830, 832, 834, 836, 838, 840, 842, 844, 846, 848, 850, 852, 854, 856] (by decide +kernel) (by decide +kernel)
set_option maxRecDepth 20000 in
theorem gL_law_X6_feed : GoodIn lw_tbl (wsV RL 129 RX6 yX6_feed wsX6_feed) := goodIn_app (goodIn_of _ (by decide +kernel)) ggL_law_X6_feed
set_option maxRecDepth 20000 in
theorem ggL_law_X5_text : GoodIn lw_tbl wsX5_text := goodIn_r _ [610, 215, 182, 184, 611, 612, 613, 62, 614, 185, 183, 186, 187, 615, 616, 617, 618, 188, 179, 180, 619, 620, 621, 622, 181, 178, 246, 57, 247, 624, 625, 626, 627, 628, 629, 251, 252, 631, 632, 633, 634, 637, 638, 639, 645, 646, 647, 648, 649, 650, 651, 65, 652, 1188, 653, 654, 655, 656, 657, 1189, 659, 660, 661, 662, 663, 664, 665, 666, 667, 668, 66, 669, 670, 671, 672, 673, 675, 676, 67, 677, 678, 679, 68, 680, 681, 682, 683, 684, 685, 686, 687, 688, 689, 690, 691, 693, 695, 697, 698, 699, 700, 701, 702, 703, 262, 263, 704, 706, 19, 707, 329, 708, 709, 710, 711, 712, 713, 714, 715, 716, 237, 238, 239, 208, 87, 212, 240, 241, 242, 243, 248, 245, 250, 253, 254, 255, 58, 256, 84, 257, 258, 259, 260, 85, 264, 265, 266, 59, 267, 109, 86, 110, 122, 118, 113, 120, 269, 270, 271, 272, 111, 116, 273, 274, 275, 276, 277, 279, 280, 281, 282, 283, 284, 285, 286, 289, 290, 291, 292, 293, 717, 299, 300, 301, 302, 303, 718, 326, 327, 328, 210, 330, 332, 334, 719, 295, 296, 297, 217, 219, 221, 223, 225, 227, 229, 231, 233, 189, 191, 193, 195, 197, 199, 201, 203, 205, 88, 90, 125, 127, 129, 131, 133, 135, 137, 139] (by decide +kernel) (by decide +kernel)
set_option maxRecDepth 20000 in
theorem gL_law_X5_text : GoodIn lw_tbl (wsV RL 130 RX5 yX5_text wsX5_text) := goodIn_app (goodIn_of _ (by decide +kernel)) ggL_law_X5_text
set_option maxRecDepth 20000 in
theorem ggL_law_X6_text : GoodIn lw_tbl wsX6_text := goodIn_r _ [1144, 796, 801, 798, 792, 797, 1145, 1147, 50, 63, 1148, 1153, 1154, 1159, 1160, 1149, 1151, 51, 1152, 791, 868, 869, 870, 1155, 1157, 52, 1158, 794, 793, 1161, 1163, 53, 1164, 799, 887, 1165, 1167, 54, 1168, 800, 795, 1169, 1171, 55, 1172, 929, 1135, 861, 862, 863, 774, 864, 865, 866, 867, 871, 872, 873, 874, 1173, 880, 881, 882, 883, 885, 22, 886, 888, 890, 23, 891, 1174, 917, 918, 919, 920, 921, 922, 923, 924, 925, 926, 927, 928, 930, 932, 27, 933, 1175, 876, 877, 878, 987, 988, 989, 802, 804, 806, 808, 810, 812, 814, 816, 818, 820, 822, 824, 826, 828, 830, 832, 834, 836, 838, 840, 842, 844, 846, 848, 850, 852, 854, 856] (by decide +kernel) (by decide +kernel)
set_option maxRecDepth 20000 in
theorem gL_law_X6_text : GoodIn lw_tbl (wsV RL 133 RX6 yX6_text wsX6_text) := goodIn_app (goodIn_of _ (by decide +kernel)) ggL_law_X6_text
set_option maxRecDepth 20000 in
theorem ggL_law_X5_image : GoodIn lw_tbl wsX5_image := goodIn_r _ [724, 209, 208, 210, 211, 733, 509, 64, 510, 734, 732, 731, 69, 216, 87, 725, 726, 727, 58, 728, 84, 729, 730, 85, 217, 219, 221, 223, 225, 227, 229, 231, 233, 88, 90] (by decide +kernel) (by decide +kernel)
set_option maxRecDepth 20000 in
theorem gL_law_X5_image : GoodIn lw_tbl (wsV RL 134 RX5 yX5_image wsX5_image) := goodIn_app (goodIn_of _ (by decide +kernel)) ggL_law_X5_image
set_option maxRecDepth 20000 in
theorem ggL_law_X6_image : GoodIn lw_tbl wsX6_image := goodIn_r _ [1179, 776, 775, 774, 802, 804, 806, 808, 810, 812, 814, 816, 818, 820, 822, 824, 826, 828, 830, 832, 834, 836, 838, 840, 842, 844, 846, 848, 850, 852, 854, 856] (by decide +kernel) (by decide +kernel)
set_option maxRecDepth 20000 in
theorem gL_law_X6_image : GoodIn lw_tbl (wsV RL 137 RX6 yX6_image wsX6_image) := goodIn_app (goodIn_of _ (by decide +kernel)) ggL_law_X6_image
set_option maxRecDepth 20000 in
theorem ggL_law_X5_back : GoodIn lw_tbl wsX5_back := goodIn_r _ [738, 216, 208, 209, 211, 210, 733, 509, 64, 510, 734, 732, 731, 69, 212, 87, 725, 726, 727, 58, 728, 84, 729, 730, 85, 264, 265, 266, 59, 267, 109, 86, 110, 122, 118, 113, 120, 262, 57, 263, 269, 270, 271, 272, 111, 116, 273, 258, 259, 260, 274, 275, 276, 277, 246, 247, 279, 280, 281, 282, 283, 284, 285, 286, 289, 290, 291, 292, 293, 217, 219, 221, 223, 225, 227, 229, 231, 233, 88, 90, 125, 127, 129, 131, 133, 135, 137, 139] (by decide +kernel) (by decide +kernel)
set_option maxRecDepth 20000 in
theorem gL_law_X5_back : GoodIn lw_tbl (wsV RL 138 RX5 yX5_back wsX5_back) := goodIn_app (goodIn_of _ (by decide +kernel)) ggL_law_X5_back
set_option maxRecDepth 20000 in
theorem ggL_law_X6_back : GoodIn lw_tbl wsX6_back := goodIn_r _ [1183, 776, 774, 775, 802, 804, 806, 808, 810, 812, 814, 816, 818, 820, 822, 824, 826, 828, 830, 832, 834, 836, 838, 840, 842, 844, 846, 848, 850, 852, 854, 856] (by decide +kernel) (by decide +kernel)
set_option maxRecDepth 20000 in
theorem gL_law_X6_back : GoodIn lw_tbl (wsV RL 141 RX6 yX6_back wsX6_back) := goodIn_app (goodIn_of _ (by decide +kernel)) ggL_law_X6_back
set_option maxRecDepth 20000 in
theorem ggL_law_X5_load : GoodIn lw_tbl wsX5_load := goodIn_r _ [742, 162, 743, 164, 491, 493, 16, 57, 494, 214, 250, 251, 252, 495, 496, 497, 61, 498, 161, 576, 504, 505, 506, 163, 159, 246, 247, 716, 237, 238, 239, 208, 87, 212, 240, 241, 242, 243, 248, 245, 253, 254, 255, 58, 256, 84, 257, 258, 259, 260, 85, 262, 263, 264, 265, 266, 59, 267, 109, 86, 110, 122, 118, 113, 120, 269, 270, 271, 272, 111, 116, 273, 274, 275, 276, 277, 279, 280, 281, 282, 283, 284, 285, 286, 289, 290, 291, 292, 293, 165, 167, 169, 217, 219, 221, 223, 225, 227, 229, 231, 233, 88, 90, 125, 127, 129, 131, 133, 135, 137, 139] (by decide +kernel) (by decide +kernel)
set_option maxRecDepth 20000 in
theorem gL_law_X5_load : GoodIn lw_tbl (wsV RL 142 RX5 yX5_load wsX5_load) := goodIn_app (goodIn_of _ (by decide +kernel)) ggL_law_X5_load
set_option maxRecDepth 20000 in
theorem ggL_law_X6_load : GoodIn lw_tbl wsX6_load := goodIn_r _ [1133, 1134, 785, 942, 786, 787, 1062, 1063, 63, 1064, 887, 868, 869, 870, 1135, 861, 862, 863, 774, 864, 865, 866, 867, 871, 872, 873, 874, 987, 988, 989, 802, 804, 806, 808, 810, 812, 814, 816, 818, 820, 822, 824, 826, 828, 830, 832, 834, 836, 838, 840, 842, 844, 846, 848, 850, 852, 854, 856] (by decide +kernel) (by decide +kernel)
set_option maxRecDepth 20000 in
theorem gL_law_X6_load : GoodIn lw_tbl (wsV RL 145 RX6 yX6_load wsX6_load) := goodIn_app (goodIn_of _ (by decide +kernel)) ggL_law_X6_load
set_option maxRecDepth 20000 in
theorem ggL_law_X5_count : GoodIn lw_tbl wsX5_count := goodIn_r _ [747, 208, 87, 212, 124, 215, 182, 748, 750, 20, 57, 751, 303, 275, 276, 58, 277, 85, 84, 246, 247, 752, 754, 21, 755, 117, 245, 217, 219, 221, 223, 225, 227, 229, 231, 233, 88, 90, 125, 127, 129, 131, 133, 135, 137, 139, 189, 191, 193, 195, 197, 199, 201, 203, 205] (by decide +kernel) (by decide +kernel)
set_option maxRecDepth 20000 in
theorem gL_law_X5_count : GoodIn lw_tbl (wsV RL 146 RX5 yX5_count wsX5_count) := goodIn_app (goodIn_of _ (by decide +kernel)) ggL_law_X5_count
set_option maxRecDepth 20000 in
theorem ggL_law_X6_count : GoodIn lw_tbl wsX6_count := goodIn_r _ [1187, 774, 782, 792, 778, 938, 940, 28, 63, 941, 777, 779, 780, 781, 888, 890, 23, 891, 901, 902, 903, 987, 988, 989, 802, 804, 806, 808, 810, 812, 814, 816, 818, 820, 822, 824, 826, 828, 830, 832, 834, 836, 838, 840, 842, 844, 846, 848, 850, 852, 854, 856] (by decide +kernel) (by decide +kernel)
set_option maxRecDepth 20000 in
theorem gL_law_X6_count : GoodIn lw_tbl (wsV RL 149 RX6 yX6_count wsX6_count) := goodIn_app (goodIn_of _ (by decide +kernel)) ggL_law_X6_count
set_option maxRecDepth 20000 in
theorem ggL_law_X5_sheet : GoodIn lw_tbl wsX5_sheet := goodIn_r _ [759, 491, 493, 16, 57, 494, 214, 250, 251, 252, 585, 586, 587, 61, 588, 159, 161, 589, 509, 64, 510, 163, 217, 219, 221, 223, 225, 227, 229, 231, 233, 165, 167, 169] (by decide +kernel) (by decide +kernel)
set_option maxRecDepth 20000 in
theorem gL_law_X5_sheet : GoodIn lw_tbl (wsV RL 150 RX5 yX5_sheet wsX5_sheet) := goodIn_app (goodIn_of _ (by decide +kernel)) ggL_law_X5_sheet
set_option maxRecDepth 20000 in
theorem ggL_law_X6_sheet : GoodIn lw_tbl wsX6_sheet := goodIn_r _ [1061, 1065, 785, 786, 787, 1062, 1063, 63, 1064, 887, 868, 869, 870, 802, 804, 806, 808, 810, 812, 814, 816, 818, 820, 822, 824, 826, 828, 830, 832, 834, 836, 838, 840, 842, 844, 846, 848, 850, 852, 854, 856] (by decide +kernel) (by decide +kernel)
set_option maxRecDepth 20000 in
theorem gL_law_X6_sheet : GoodIn lw_tbl (wsV RL 153 RX6 yX6_sheet wsX6_sheet) := goodIn_app (goodIn_of _ (by decide +kernel)) ggL_law_X6_sheet
set_option maxRecDepth 20000 in
theorem ggL_law_X5_put : GoodIn lw_tbl wsX5_put := goodIn_r _ [763, 164, 491, 493, 16, 57, 494, 214, 250, 251, 252, 495, 496, 497, 61, 498, 161, 590, 591, 592, 593, 163, 159, 262, 263, 165, 167, 169, 217, 219, 221, 223, 225, 227, 229, 231, 233] (by decide +kernel) (by decide +kernel)
set_option maxRecDepth 20000 in
theorem gL_law_X5_put : GoodIn lw_tbl (wsV RL 154 RX5 yX5_put wsX5_put) := goodIn_app (goodIn_of _ (by decide +kernel)) ggL_law_X5_put
set_option maxRecDepth 20000 in
theorem ggL_law_X6_put : GoodIn lw_tbl wsX6_put := goodIn_r _ [1069, 785, 786, 787, 1062, 1063, 63, 1064, 887, 868, 869, 870, 802, 804, 806, 808, 810, 812, 814, 816, 818, 820, 822, 824, 826, 828, 830, 832, 834, 836, 838, 840, 842, 844, 846, 848, 850, 852, 854, 856] (by decide +kernel) (by decide +kernel)
set_option maxRecDepth 20000 in
theorem gL_law_X6_put : GoodIn lw_tbl (wsV RL 157 RX6 yX6_put wsX6_put) := goodIn_app (goodIn_of _ (by decide +kernel)) ggL_law_X6_put
set_option maxRecDepth 20000 in
theorem ggL_law_X5_copy : GoodIn lw_tbl wsX5_copy := goodIn_r _ [767, 162, 164, 160, 734, 732, 731, 69, 491, 493, 16, 57, 494, 214, 250, 251, 252, 495, 496, 497, 61, 498, 161, 165, 167, 169, 217, 219, 221, 223, 225, 227, 229, 231, 233] (by decide +kernel) (by decide +kernel)
set_option maxRecDepth 20000 in
theorem gL_law_X5_copy : GoodIn lw_tbl (wsV RL 158 RX5 yX5_copy wsX5_copy) := goodIn_app (goodIn_of _ (by decide +kernel)) ggL_law_X5_copy
set_option maxRecDepth 20000 in
theorem ggL_law_X6_copy : GoodIn lw_tbl wsX6_copy := goodIn_r _ [1073, 785, 786, 788, 787, 1062, 1063, 63, 1064, 887, 868, 869, 870, 802, 804, 806, 808, 810, 812, 814, 816, 818, 820, 822, 824, 826, 828, 830, 832, 834, 836, 838, 840, 842, 844, 846, 848, 850, 852, 854, 856] (by decide +kernel) (by decide +kernel)
set_option maxRecDepth 20000 in
theorem gL_law_X6_copy : GoodIn lw_tbl (wsV RL 161 RX6 yX6_copy wsX6_copy) := goodIn_app (goodIn_of _ (by decide +kernel)) ggL_law_X6_copy
