set_option maxRecDepth 100000 in
theorem ggX5_init_X2_init : GoodIn wsX5_init wsX2_init := goodIn_g _ [2, 0, 33, 0, 0, 0, 0, 39, 0] [2, 3, 0, 1, 4, 5, 6, 7, 8] rfl (by decide +kernel)
set_option maxRecDepth 100000 in
theorem gX5_init_X2_init : GoodIn wsX5_init (wsX2_init) := ggX5_init_X2_init
set_option maxRecDepth 100000 in
theorem ggX5_init_X0_init : GoodIn wsX5_init wsX0_init := goodIn_g _ [2, 0, 35, 4, 0, 0, 0, 0, 0, 0, 0, 0, 0, 38, 0, 0, 0, 0, 0, 0, 0] [3, 4, 0, 1, 5, 2, 6, 7, 8, 9, 10, 11, 12, 13, 14, 15, 16, 17, 18, 19, 20] rfl (by decide +kernel)
set_option maxRecDepth 100000 in
theorem gX5_init_X0_init : GoodIn wsX5_init (wsX0_init) := ggX5_init_X0_init
set_option maxRecDepth 100000 in
theorem ggX5_init_X1_init : GoodIn wsX5_init wsX1_init := goodIn_g _ [2, 0, 35, 16, 0, 0, 0, 0, 39, 0, 0] [3, 4, 0, 1, 5, 2, 6, 7, 8, 9, 10] rfl (by decide +kernel)
set_option maxRecDepth 100000 in
theorem gX5_init_X1_init : GoodIn wsX5_init (wsX1_init) := ggX5_init_X1_init
set_option maxRecDepth 100000 in
theorem ggX5_init_X3_init : GoodIn wsX5_init wsX3_init := goodIn_g _ [2, 0, 35, 23, 0, 0, 0, 0, 35, 0, 0] [3, 4, 0, 1, 2, 5, 6, 7, 8, 9, 10] rfl (by decide +kernel)
set_option maxRecDepth 100000 in
theorem gX5_init_X3_init : GoodIn wsX5_init (wsX3_init) := ggX5_init_X3_init
set_option maxRecDepth 100000 in
theorem ggX5_init_X4_init : GoodIn wsX5_init wsX4_init := goodIn_g _ [2, 0, 35, 30, 0, 0, 0, 0, 0, 0, 0, 0, 0, 0, 25, 0, 0, 0, 0, 0, 0, 0, 0] [3, 4, 0, 1, 2, 5, 6, 7, 8, 9, 10, 11, 12, 13, 14, 15, 16, 17, 18, 19, 20, 21, 22] rfl (by decide +kernel)
set_option maxRecDepth 100000 in
theorem gX5_init_X4_init : GoodIn wsX5_init (wsX4_init) := ggX5_init_X4_init
theorem dX5_init_0 : decode cX5_init 0 = .ok (.aload_n 0, 1) := by decide +kernel
theorem dX5_init_1 : decode cX5_init 1 = .ok (.invokespecial 3, 3) := by decide +kernel
theorem dX5_init_4 : decode cX5_init 4 = .ok (.aload_n 0, 1) := by decide +kernel
theorem dX5_init_5 : decode cX5_init 5 = .ok (.new 9, 3) := by decide +kernel
theorem dX5_init_8 : decode cX5_init 8 = .ok (.dup, 1) := by decide +kernel
theorem dX5_init_9 : decode cX5_init 9 = .ok (.invokespecial 11, 3) := by decide +kernel
theorem dX5_init_12 : decode cX5_init 12 = .ok (.putfield 12, 3) := by decide +kernel
theorem dX5_init_15 : decode cX5_init 15 = .ok (.aload_n 0, 1) := by decide +kernel
theorem dX5_init_16 : decode cX5_init 16 = .ok (.new 9, 3) := by decide +kernel
theorem dX5_init_19 : decode cX5_init 19 = .ok (.dup, 1) := by decide +kernel
theorem dX5_init_20 : decode cX5_init 20 = .ok (.invokespecial 11, 3) := by decide +kernel
theorem dX5_init_23 : decode cX5_init 23 = .ok (.putfield 18, 3) := by decide +kernel
theorem dX5_init_26 : decode cX5_init 26 = .ok (.aload_n 0, 1) := by decide +kernel
theorem dX5_init_27 : decode cX5_init 27 = .ok (.getstatic 21, 3) := by decide +kernel
theorem dX5_init_30 : decode cX5_init 30 = .ok (.invokevirtual 25, 3) := by decide +kernel
theorem dX5_init_33 : decode cX5_init 33 = .ok (.checkcast 26, 3) := by decide +kernel
theorem dX5_init_36 : decode cX5_init 36 = .ok (.putfield 30, 3) := by decide +kernel
theorem dX5_init_39 : decode cX5_init 39 = .ok (.aload_n 0, 1) := by decide +kernel
theorem dX5_init_40 : decode cX5_init 40 = .ok (.getstatic 21, 3) := by decide +kernel
theorem dX5_init_43 : decode cX5_init 43 = .ok (.invokevirtual 25, 3) := by decide +kernel
theorem dX5_init_46 : decode cX5_init 46 = .ok (.checkcast 26, 3) := by decide +kernel
theorem dX5_init_49 : decode cX5_init 49 = .ok (.putfield 33, 3) := by decide +kernel
theorem dX5_init_52 : decode cX5_init 52 = .ok (.aload_n 0, 1) := by decide +kernel
theorem dX5_init_53 : decode cX5_init 53 = .ok (.new 36, 3) := by decide +kernel
theorem dX5_init_56 : decode cX5_init 56 = .ok (.dup, 1) := by decide +kernel
theorem dX5_init_57 : decode cX5_init 57 = .ok (.aload_n 0, 1) := by decide +kernel
theorem dX5_init_58 : decode cX5_init 58 = .ok (.getfield 12, 3) := by decide +kernel
theorem dX5_init_61 : decode cX5_init 61 = .ok (.invokespecial 38, 3) := by decide +kernel
theorem dX5_init_64 : decode cX5_init 64 = .ok (.putfield 41, 3) := by decide +kernel
theorem dX5_init_67 : decode cX5_init 67 = .ok (.aload_n 0, 1) := by decide +kernel
theorem dX5_init_68 : decode cX5_init 68 = .ok (.new 45, 3) := by decide +kernel
theorem dX5_init_71 : decode cX5_init 71 = .ok (.dup, 1) := by decide +kernel
theorem dX5_init_72 : decode cX5_init 72 = .ok (.aload_n 0, 1) := by decide +kernel
theorem dX5_init_73 : decode cX5_init 73 = .ok (.getfield 41, 3) := by decide +kernel
theorem dX5_init_76 : decode cX5_init 76 = .ok (.invokespecial 47, 3) := by decide +kernel
theorem dX5_init_79 : decode cX5_init 79 = .ok (.putfield 50, 3) := by decide +kernel
theorem dX5_init_82 : decode cX5_init 82 = .ok (.aload_n 0, 1) := by decide +kernel
theorem dX5_init_83 : decode cX5_init 83 = .ok (.iconst 4, 1) := by decide +kernel
theorem dX5_init_84 : decode cX5_init 84 = .ok (.anewarray 54, 3) := by decide +kernel
theorem dX5_init_87 : decode cX5_init 87 = .ok (.putfield 56, 3) := by decide +kernel
theorem dX5_init_90 : decode cX5_init 90 = .ok (.iconst 0, 1) := by decide +kernel
theorem dX5_init_91 : decode cX5_init 91 = .ok (.istore_n 1, 1) := by decide +kernel
theorem dX5_init_92 : decode cX5_init 92 = .ok (.iload_n 1, 1) := by decide +kernel
theorem dX5_init_93 : decode cX5_init 93 = .ok (.aload_n 0, 1) := by decide +kernel
theorem dX5_init_94 : decode cX5_init 94 = .ok (.getfield 56, 3) := by decide +kernel
theorem dX5_init_97 : decode cX5_init 97 = .ok (.arraylength, 1) := by decide +kernel
theorem dX5_init_98 : decode cX5_init 98 = .ok (.if_icmp .ge 22, 3) := by decide +kernel
theorem dX5_init_101 : decode cX5_init 101 = .ok (.aload_n 0, 1) := by decide +kernel
theorem dX5_init_102 : decode cX5_init 102 = .ok (.getfield 56, 3) := by decide +kernel
theorem dX5_init_105 : decode cX5_init 105 = .ok (.iload_n 1, 1) := by decide +kernel
theorem dX5_init_106 : decode cX5_init 106 = .ok (.new 54, 3) := by decide +kernel
theorem dX5_init_109 : decode cX5_init 109 = .ok (.dup, 1) := by decide +kernel
theorem dX5_init_110 : decode cX5_init 110 = .ok (.invokespecial 60, 3) := by decide +kernel
theorem dX5_init_113 : decode cX5_init 113 = .ok (.aastore, 1) := by decide +kernel
theorem dX5_init_114 : decode cX5_init 114 = .ok (.iinc 1 1, 3) := by decide +kernel
theorem dX5_init_117 : decode cX5_init 117 = .ok (.goto (-25), 3) := by decide +kernel
theorem dX5_init_120 : decode cX5_init 120 = .ok (.aload_n 0, 1) := by decide +kernel
theorem dX5_init_121 : decode cX5_init 121 = .ok (.new 61, 3) := by decide +kernel
theorem dX5_init_124 : decode cX5_init 124 = .ok (.dup, 1) := by decide +kernel
theorem dX5_init_125 : decode cX5_init 125 = .ok (.invokespecial 63, 3) := by decide +kernel
theorem dX5_init_128 : decode cX5_init 128 = .ok (.putfield 64, 3) := by decide +kernel
theorem dX5_init_131 : decode cX5_init 131 = .ok (.aload_n 0, 1) := by decide +kernel
theorem dX5_init_132 : decode cX5_init 132 = .ok (.iconst 0, 1) := by decide +kernel
theorem dX5_init_133 : decode cX5_init 133 = .ok (.putfield 68, 3) := by decide +kernel
theorem dX5_init_136 : decode cX5_init 136 = .ok (.return_, 1) := by decide +kernel
set_option maxRecDepth 100000 in
theorem ggX5_piece_X5_fits : GoodIn wsX5_piece wsX5_fits := goodIn_g _ [6, 0, 0, 0, 0, 0, 0, 0, 0, 0] [1, 2, 3, 4, 5, 0, 6, 7, 8, 9] rfl (by decide +kernel)
set_option maxRecDepth 100000 in
theorem gX5_piece_X5_fits : GoodIn wsX5_piece (va_wsS RX5 72 yX5_fits wsX5_fits) := goodIn_app (goodIn_of _ (by decide +kernel)) ggX5_piece_X5_fits
set_option maxRecDepth 100000 in
theorem ggX5_piece_X2_write : GoodIn wsX5_piece wsX2_write := goodIn_g _ [6, 12, 0, 0, 0, 0, 0, 0, 0, 0, 0, 45, 0] [2, 3, 4, 5, 6, 1, 7, 8, 9, 0, 10, 11, 12] rfl (by decide +kernel)
set_option maxRecDepth 100000 in
theorem gX5_piece_X2_write : GoodIn wsX5_piece (wsV RX5 80 RX2 yX2_write wsX2_write) := goodIn_app (goodIn_of _ (by decide +kernel)) ggX5_piece_X2_write
set_option maxRecDepth 100000 in
theorem ggX5_piece_X0_lay : GoodIn wsX5_piece wsX0_lay := goodIn_g _ [6, 4, 0, 6, 1, 1, 0, 0, 0, 0, 0, 3, 0, 0, 0, 0, 0, 0, 0, 0, 0, 0, 0, 0, 0, 0, 0, 0, 0, 0, 0, 0, 0, 0, 0, 0, 0, 0, 0, 0, 0, 0, 0, 0, 9, 0, 0, 0, 0, 0, 0, 0, 0, 0] [12, 13, 14, 15, 16, 17, 18, 19, 9, 0, 10, 20, 21, 22, 11, 23, 24, 25, 26, 5, 6, 3, 7, 8, 27, 28, 29, 30, 4, 1, 2, 31, 32, 33, 34, 35, 36, 37, 38, 39, 40, 41, 42, 43, 46, 47, 48, 49, 50, 51, 52, 53, 44, 45] rfl (by decide +kernel)
set_option maxRecDepth 100000 in
theorem gX5_piece_X0_lay : GoodIn wsX5_piece (wsV RX5 84 RX0 yX0_lay wsX0_lay) := goodIn_app (goodIn_of _ (by decide +kernel)) ggX5_piece_X0_lay
theorem dX5_piece_0 : decode cX5_piece 0 = .ok (.iconst 0, 1) := by decide +kernel
theorem dX5_piece_1 : decode cX5_piece 1 = .ok (.iload_n 1, 1) := by decide +kernel
theorem dX5_piece_2 : decode cX5_piece 2 = .ok (.invokestatic 72, 3) := by decide +kernel
theorem dX5_piece_5 : decode cX5_piece 5 = .ok (.ifCond .eq 28, 3) := by decide +kernel
theorem dX5_piece_8 : decode cX5_piece 8 = .ok (.iconst 1, 1) := by decide +kernel
theorem dX5_piece_9 : decode cX5_piece 9 = .ok (.iload_n 2, 1) := by decide +kernel
theorem dX5_piece_10 : decode cX5_piece 10 = .ok (.invokestatic 72, 3) := by decide +kernel
theorem dX5_piece_13 : decode cX5_piece 13 = .ok (.ifCond .eq 20, 3) := by decide +kernel
theorem dX5_piece_16 : decode cX5_piece 16 = .ok (.iconst 2, 1) := by decide +kernel
theorem dX5_piece_17 : decode cX5_piece 17 = .ok (.iload_n 3, 1) := by decide +kernel
theorem dX5_piece_18 : decode cX5_piece 18 = .ok (.invokestatic 72, 3) := by decide +kernel
theorem dX5_piece_21 : decode cX5_piece 21 = .ok (.ifCond .eq 12, 3) := by decide +kernel
theorem dX5_piece_24 : decode cX5_piece 24 = .ok (.iconst 3, 1) := by decide +kernel
theorem dX5_piece_25 : decode cX5_piece 25 = .ok (.iload 4, 2) := by decide +kernel
theorem dX5_piece_27 : decode cX5_piece 27 = .ok (.invokestatic 72, 3) := by decide +kernel
theorem dX5_piece_30 : decode cX5_piece 30 = .ok (.ifCond .ne 6, 3) := by decide +kernel
theorem dX5_piece_33 : decode cX5_piece 33 = .ok (.bipush (-2), 2) := by decide +kernel
theorem dX5_piece_35 : decode cX5_piece 35 = .ok (.ireturn, 1) := by decide +kernel
theorem dX5_piece_36 : decode cX5_piece 36 = .ok (.aload_n 0, 1) := by decide +kernel
theorem dX5_piece_37 : decode cX5_piece 37 = .ok (.getfield 12, 3) := by decide +kernel
theorem dX5_piece_40 : decode cX5_piece 40 = .ok (.getfield 76, 3) := by decide +kernel
theorem dX5_piece_43 : decode cX5_piece 43 = .ok (.bipush 10, 2) := by decide +kernel
theorem dX5_piece_45 : decode cX5_piece 45 = .ok (.if_icmp .lt 6, 3) := by decide +kernel
theorem dX5_piece_48 : decode cX5_piece 48 = .ok (.bipush (-4), 2) := by decide +kernel
theorem dX5_piece_50 : decode cX5_piece 50 = .ok (.ireturn, 1) := by decide +kernel
theorem dX5_piece_51 : decode cX5_piece 51 = .ok (.aload_n 0, 1) := by decide +kernel
theorem dX5_piece_52 : decode cX5_piece 52 = .ok (.getfield 12, 3) := by decide +kernel
theorem dX5_piece_55 : decode cX5_piece 55 = .ok (.getfield 76, 3) := by decide +kernel
theorem dX5_piece_58 : decode cX5_piece 58 = .ok (.istore 5, 2) := by decide +kernel
theorem dX5_piece_60 : decode cX5_piece 60 = .ok (.aload_n 0, 1) := by decide +kernel
theorem dX5_piece_61 : decode cX5_piece 61 = .ok (.getfield 12, 3) := by decide +kernel
theorem dX5_piece_64 : decode cX5_piece 64 = .ok (.iload 5, 2) := by decide +kernel
theorem dX5_piece_66 : decode cX5_piece 66 = .ok (.iconst 1, 1) := by decide +kernel
theorem dX5_piece_67 : decode cX5_piece 67 = .ok (.iadd, 1) := by decide +kernel
theorem dX5_piece_68 : decode cX5_piece 68 = .ok (.putfield 76, 3) := by decide +kernel
theorem dX5_piece_71 : decode cX5_piece 71 = .ok (.aload_n 0, 1) := by decide +kernel
theorem dX5_piece_72 : decode cX5_piece 72 = .ok (.getfield 12, 3) := by decide +kernel
theorem dX5_piece_75 : decode cX5_piece 75 = .ok (.iload 5, 2) := by decide +kernel
theorem dX5_piece_77 : decode cX5_piece 77 = .ok (.iconst 0, 1) := by decide +kernel
theorem dX5_piece_78 : decode cX5_piece 78 = .ok (.iload_n 1, 1) := by decide +kernel
theorem dX5_piece_79 : decode cX5_piece 79 = .ok (.invokevirtual 80, 3) := by decide +kernel
theorem dX5_piece_82 : decode cX5_piece 82 = .ok (.aload_n 0, 1) := by decide +kernel
theorem dX5_piece_83 : decode cX5_piece 83 = .ok (.getfield 12, 3) := by decide +kernel
theorem dX5_piece_86 : decode cX5_piece 86 = .ok (.iload 5, 2) := by decide +kernel
theorem dX5_piece_88 : decode cX5_piece 88 = .ok (.iconst 1, 1) := by decide +kernel
theorem dX5_piece_89 : decode cX5_piece 89 = .ok (.iload_n 2, 1) := by decide +kernel
theorem dX5_piece_90 : decode cX5_piece 90 = .ok (.invokevirtual 80, 3) := by decide +kernel
theorem dX5_piece_93 : decode cX5_piece 93 = .ok (.aload_n 0, 1) := by decide +kernel
theorem dX5_piece_94 : decode cX5_piece 94 = .ok (.getfield 12, 3) := by decide +kernel
theorem dX5_piece_97 : decode cX5_piece 97 = .ok (.iload 5, 2) := by decide +kernel
theorem dX5_piece_99 : decode cX5_piece 99 = .ok (.iconst 2, 1) := by decide +kernel
theorem dX5_piece_100 : decode cX5_piece 100 = .ok (.iload_n 3, 1) := by decide +kernel
theorem dX5_piece_101 : decode cX5_piece 101 = .ok (.invokevirtual 80, 3) := by decide +kernel
theorem dX5_piece_104 : decode cX5_piece 104 = .ok (.aload_n 0, 1) := by decide +kernel
theorem dX5_piece_105 : decode cX5_piece 105 = .ok (.getfield 12, 3) := by decide +kernel
theorem dX5_piece_108 : decode cX5_piece 108 = .ok (.iload 5, 2) := by decide +kernel
theorem dX5_piece_110 : decode cX5_piece 110 = .ok (.iconst 3, 1) := by decide +kernel
theorem dX5_piece_111 : decode cX5_piece 111 = .ok (.iload 4, 2) := by decide +kernel
theorem dX5_piece_113 : decode cX5_piece 113 = .ok (.invokevirtual 80, 3) := by decide +kernel
theorem dX5_piece_116 : decode cX5_piece 116 = .ok (.aload_n 0, 1) := by decide +kernel
theorem dX5_piece_117 : decode cX5_piece 117 = .ok (.getfield 41, 3) := by decide +kernel
theorem dX5_piece_120 : decode cX5_piece 120 = .ok (.invokevirtual 84, 3) := by decide +kernel
theorem dX5_piece_123 : decode cX5_piece 123 = .ok (.iload 5, 2) := by decide +kernel
theorem dX5_piece_125 : decode cX5_piece 125 = .ok (.ireturn, 1) := by decide +kernel
set_option maxRecDepth 100000 in
theorem ggX5_drop_X0_lay : GoodIn wsX5_drop wsX0_lay := goodIn_g _ [7, 0, 0, 0, 0, 0, 0, 0, 0, 0, 0, 0, 0, 0, 0, 0, 0, 0, 0, 0, 0, 0, 0, 0, 0, 0, 0, 0, 0, 0, 0, 0, 0, 0, 0, 0, 0, 0, 0, 0, 0, 0, 0, 0, 9, 0, 0, 0, 0, 0, 0, 0, 0, 0] [1, 2, 3, 4, 5, 6, 7, 8, 9, 10, 11, 12, 13, 14, 0, 15, 16, 17, 18, 19, 20, 21, 22, 23, 24, 25, 26, 27, 28, 29, 30, 31, 32, 33, 34, 35, 36, 37, 38, 39, 40, 41, 42, 43, 46, 47, 48, 49, 50, 51, 52, 53, 44, 45] rfl (by decide +kernel)
set_option maxRecDepth 100000 in
theorem gX5_drop_X0_lay : GoodIn wsX5_drop (wsV RX5 84 RX0 yX0_lay wsX0_lay) := goodIn_app (goodIn_of _ (by decide +kernel)) ggX5_drop_X0_lay
theorem dX5_drop_0 : decode cX5_drop 0 = .ok (.aload_n 0, 1) := by decide +kernel
theorem dX5_drop_1 : decode cX5_drop 1 = .ok (.getfield 12, 3) := by decide +kernel
theorem dX5_drop_4 : decode cX5_drop 4 = .ok (.getfield 76, 3) := by decide +kernel
theorem dX5_drop_7 : decode cX5_drop 7 = .ok (.iconst 1, 1) := by decide +kernel
theorem dX5_drop_8 : decode cX5_drop 8 = .ok (.if_icmp .ge 6, 3) := by decide +kernel
theorem dX5_drop_11 : decode cX5_drop 11 = .ok (.bipush (-3), 2) := by decide +kernel
theorem dX5_drop_13 : decode cX5_drop 13 = .ok (.ireturn, 1) := by decide +kernel
theorem dX5_drop_14 : decode cX5_drop 14 = .ok (.aload_n 0, 1) := by decide +kernel
theorem dX5_drop_15 : decode cX5_drop 15 = .ok (.getfield 12, 3) := by decide +kernel
theorem dX5_drop_18 : decode cX5_drop 18 = .ok (.aload_n 0, 1) := by decide +kernel
theorem dX5_drop_19 : decode cX5_drop 19 = .ok (.getfield 12, 3) := by decide +kernel
theorem dX5_drop_22 : decode cX5_drop 22 = .ok (.getfield 76, 3) := by decide +kernel
theorem dX5_drop_25 : decode cX5_drop 25 = .ok (.iconst 1, 1) := by decide +kernel
theorem dX5_drop_26 : decode cX5_drop 26 = .ok (.isub, 1) := by decide +kernel
theorem dX5_drop_27 : decode cX5_drop 27 = .ok (.putfield 76, 3) := by decide +kernel
theorem dX5_drop_30 : decode cX5_drop 30 = .ok (.aload_n 0, 1) := by decide +kernel
theorem dX5_drop_31 : decode cX5_drop 31 = .ok (.getfield 41, 3) := by decide +kernel
theorem dX5_drop_34 : decode cX5_drop 34 = .ok (.invokevirtual 84, 3) := by decide +kernel
theorem dX5_drop_37 : decode cX5_drop 37 = .ok (.aload_n 0, 1) := by decide +kernel
theorem dX5_drop_38 : decode cX5_drop 38 = .ok (.getfield 12, 3) := by decide +kernel
theorem dX5_drop_41 : decode cX5_drop 41 = .ok (.getfield 76, 3) := by decide +kernel
theorem dX5_drop_44 : decode cX5_drop 44 = .ok (.ireturn, 1) := by decide +kernel
set_option maxRecDepth 100000 in
theorem ggX5_set_X2_has : GoodIn wsX5_set wsX2_has := goodIn_g _ [7, 0, 66, 0] [0, 1, 2, 3] rfl (by decide +kernel)
set_option maxRecDepth 100000 in
theorem gX5_set_X2_has : GoodIn wsX5_set (wsV RX5 87 RX2 yX2_has wsX2_has) := goodIn_app (goodIn_of _ (by decide +kernel)) ggX5_set_X2_has
set_option maxRecDepth 100000 in
theorem ggX5_set_X5_within : GoodIn wsX5_set wsX5_within := goodIn_g _ [12] [0] rfl (by decide +kernel)
set_option maxRecDepth 100000 in
theorem gX5_set_X5_within : GoodIn wsX5_set (va_wsS RX5 91 yX5_within wsX5_within) := goodIn_app (goodIn_of _ (by decide +kernel)) ggX5_set_X5_within
set_option maxRecDepth 100000 in
theorem ggX5_set_X5_fits : GoodIn wsX5_set wsX5_fits := goodIn_g _ [9, 0, 0, 0, 2, 0, 0, 0, 0, 0] [4, 5, 6, 7, 8, 2, 9, 0, 1, 3] rfl (by decide +kernel)
set_option maxRecDepth 100000 in
theorem gX5_set_X5_fits : GoodIn wsX5_set (va_wsS RX5 72 yX5_fits wsX5_fits) := goodIn_app (goodIn_of _ (by decide +kernel)) ggX5_set_X5_fits
set_option maxRecDepth 100000 in
theorem ggX5_set_X2_read : GoodIn wsX5_set wsX2_read := goodIn_g _ [8, 2, 7, 0, 3, 0, 49, 0] [4, 0, 5, 2, 1, 3, 6, 7] rfl (by decide +kernel)
set_option maxRecDepth 100000 in
theorem gX5_set_X2_read : GoodIn wsX5_set (wsV RX5 95 RX2 yX2_read wsX2_read) := goodIn_app (goodIn_of _ (by decide +kernel)) ggX5_set_X2_read
set_option maxRecDepth 100000 in
theorem ggX5_set_X2_write : GoodIn wsX5_set wsX2_write := goodIn_g _ [4, 0, 0, 0, 0, 2, 13, 3, 0, 0, 0, 42, 0] [7, 6, 8, 0, 1, 2, 3, 4, 9, 5, 10, 11, 12] rfl (by decide +kernel)
set_option maxRecDepth 100000 in
theorem gX5_set_X2_write : GoodIn wsX5_set (wsV RX5 80 RX2 yX2_write wsX2_write) := goodIn_app (goodIn_of _ (by decide +kernel)) ggX5_set_X2_write
set_option maxRecDepth 100000 in
theorem ggX5_set_X0_lay : GoodIn wsX5_set wsX0_lay := goodIn_g _ [4, 0, 0, 0, 0, 2, 7, 0, 1, 0, 0, 0, 5, 0, 3, 0, 0, 0, 0, 0, 0, 0, 0, 0, 0, 0, 0, 0, 0, 0, 0, 0, 0, 0, 0, 0, 0, 0, 0, 0, 0, 0, 0, 0, 9, 0, 0, 0, 0, 0, 0, 0, 0, 0] [15, 16, 17, 18, 19, 20, 21, 22, 12, 5, 13, 23, 24, 25, 14, 26, 27, 28, 29, 0, 1, 2, 3, 4, 30, 8, 9, 10, 11, 6, 7, 31, 32, 33, 34, 35, 36, 37, 38, 39, 40, 41, 42, 43, 46, 47, 48, 49, 50, 51, 52, 53, 44, 45] rfl (by decide +kernel)
set_option maxRecDepth 100000 in
theorem gX5_set_X0_lay : GoodIn wsX5_set (wsV RX5 84 RX0 yX0_lay wsX0_lay) := goodIn_app (goodIn_of _ (by decide +kernel)) ggX5_set_X0_lay
theorem dX5_set_0 : decode cX5_set 0 = .ok (.aload_n 0, 1) := by decide +kernel
theorem dX5_set_1 : decode cX5_set 1 = .ok (.getfield 12, 3) := by decide +kernel
theorem dX5_set_4 : decode cX5_set 4 = .ok (.iload_n 1, 1) := by decide +kernel
theorem dX5_set_5 : decode cX5_set 5 = .ok (.invokevirtual 87, 3) := by decide +kernel
theorem dX5_set_8 : decode cX5_set 8 = .ok (.ifCond .eq 12, 3) := by decide +kernel
theorem dX5_set_11 : decode cX5_set 11 = .ok (.iload_n 2, 1) := by decide +kernel
theorem dX5_set_12 : decode cX5_set 12 = .ok (.iconst 0, 1) := by decide +kernel
theorem dX5_set_13 : decode cX5_set 13 = .ok (.iconst 3, 1) := by decide +kernel
theorem dX5_set_14 : decode cX5_set 14 = .ok (.invokestatic 91, 3) := by decide +kernel
theorem dX5_set_17 : decode cX5_set 17 = .ok (.ifCond .ne 7, 3) := by decide +kernel
theorem dX5_set_20 : decode cX5_set 20 = .ok (.sipush (-1000), 3) := by decide +kernel
theorem dX5_set_23 : decode cX5_set 23 = .ok (.ireturn, 1) := by decide +kernel
theorem dX5_set_24 : decode cX5_set 24 = .ok (.iload_n 2, 1) := by decide +kernel
theorem dX5_set_25 : decode cX5_set 25 = .ok (.iconst 3, 1) := by decide +kernel
theorem dX5_set_26 : decode cX5_set 26 = .ok (.if_icmp .ne 7, 3) := by decide +kernel
theorem dX5_set_29 : decode cX5_set 29 = .ok (.iconst 0, 1) := by decide +kernel
theorem dX5_set_30 : decode cX5_set 30 = .ok (.goto 6, 3) := by decide +kernel
theorem dX5_set_33 : decode cX5_set 33 = .ok (.iload_n 2, 1) := by decide +kernel
theorem dX5_set_34 : decode cX5_set 34 = .ok (.iconst 1, 1) := by decide +kernel
theorem dX5_set_35 : decode cX5_set 35 = .ok (.iadd, 1) := by decide +kernel
theorem dX5_set_36 : decode cX5_set 36 = .ok (.istore 4, 2) := by decide +kernel
theorem dX5_set_38 : decode cX5_set 38 = .ok (.iload 4, 2) := by decide +kernel
theorem dX5_set_40 : decode cX5_set 40 = .ok (.iload_n 3, 1) := by decide +kernel
theorem dX5_set_41 : decode cX5_set 41 = .ok (.invokestatic 72, 3) := by decide +kernel
theorem dX5_set_44 : decode cX5_set 44 = .ok (.ifCond .ne 7, 3) := by decide +kernel
theorem dX5_set_47 : decode cX5_set 47 = .ok (.sipush (-1000), 3) := by decide +kernel
theorem dX5_set_50 : decode cX5_set 50 = .ok (.ireturn, 1) := by decide +kernel
theorem dX5_set_51 : decode cX5_set 51 = .ok (.aload_n 0, 1) := by decide +kernel
theorem dX5_set_52 : decode cX5_set 52 = .ok (.getfield 12, 3) := by decide +kernel
theorem dX5_set_55 : decode cX5_set 55 = .ok (.iload_n 1, 1) := by decide +kernel
theorem dX5_set_56 : decode cX5_set 56 = .ok (.iload 4, 2) := by decide +kernel
theorem dX5_set_58 : decode cX5_set 58 = .ok (.invokevirtual 95, 3) := by decide +kernel
theorem dX5_set_61 : decode cX5_set 61 = .ok (.istore 5, 2) := by decide +kernel
theorem dX5_set_63 : decode cX5_set 63 = .ok (.aload_n 0, 1) := by decide +kernel
theorem dX5_set_64 : decode cX5_set 64 = .ok (.getfield 12, 3) := by decide +kernel
theorem dX5_set_67 : decode cX5_set 67 = .ok (.iload_n 1, 1) := by decide +kernel
theorem dX5_set_68 : decode cX5_set 68 = .ok (.iload 4, 2) := by decide +kernel
theorem dX5_set_70 : decode cX5_set 70 = .ok (.iload_n 3, 1) := by decide +kernel
theorem dX5_set_71 : decode cX5_set 71 = .ok (.invokevirtual 80, 3) := by decide +kernel
theorem dX5_set_74 : decode cX5_set 74 = .ok (.aload_n 0, 1) := by decide +kernel
theorem dX5_set_75 : decode cX5_set 75 = .ok (.getfield 41, 3) := by decide +kernel
theorem dX5_set_78 : decode cX5_set 78 = .ok (.invokevirtual 84, 3) := by decide +kernel
theorem dX5_set_81 : decode cX5_set 81 = .ok (.iload 5, 2) := by decide +kernel
theorem dX5_set_83 : decode cX5_set 83 = .ok (.ireturn, 1) := by decide +kernel
set_option maxRecDepth 100000 in
theorem ggX5_of_X2_has : GoodIn wsX5_of wsX2_has := goodIn_g _ [7, 0, 41, 0] [0, 1, 2, 3] rfl (by decide +kernel)
set_option maxRecDepth 100000 in
theorem gX5_of_X2_has : GoodIn wsX5_of (wsV RX5 87 RX2 yX2_has wsX2_has) := goodIn_app (goodIn_of _ (by decide +kernel)) ggX5_of_X2_has
set_option maxRecDepth 100000 in
theorem ggX5_of_X5_within : GoodIn wsX5_of wsX5_within := goodIn_g _ [12] [0] rfl (by decide +kernel)
set_option maxRecDepth 100000 in
theorem gX5_of_X5_within : GoodIn wsX5_of (va_wsS RX5 91 yX5_within wsX5_within) := goodIn_app (goodIn_of _ (by decide +kernel)) ggX5_of_X5_within
set_option maxRecDepth 100000 in
theorem ggX5_of_X2_read : GoodIn wsX5_of wsX2_read := goodIn_g _ [8, 2, 4, 0, 0, 0, 30, 0] [2, 0, 3, 4, 1, 5, 6, 7] rfl (by decide +kernel)
set_option maxRecDepth 100000 in
theorem gX5_of_X2_read : GoodIn wsX5_of (wsV RX5 95 RX2 yX2_read wsX2_read) := goodIn_app (goodIn_of _ (by decide +kernel)) ggX5_of_X2_read
set_option maxRecDepth 100000 in
theorem ggX5_of_X5_made : GoodIn wsX5_of wsX5_made := goodIn_g _ [11, 6, 0, 2, 0, 0, 0, 0, 0] [3, 4, 5, 0, 6, 7, 8, 1, 2] rfl (by decide +kernel)
set_option maxRecDepth 100000 in
theorem gX5_of_X5_made : GoodIn wsX5_of (va_wsS RX5 99 yX5_made wsX5_made) := goodIn_app (goodIn_of _ (by decide +kernel)) ggX5_of_X5_made
set_option maxRecDepth 100000 in
theorem ggX5_of_X0_firstOf : GoodIn wsX5_of wsX0_firstOf := goodIn_g _ [11, 6, 0, 12, 0, 18, 0, 0, 0, 0, 0, 0, 0] [3, 4, 1, 0, 2, 5, 6, 7, 8, 9, 10, 11, 12] rfl (by decide +kernel)
set_option maxRecDepth 100000 in
theorem gX5_of_X0_firstOf : GoodIn wsX5_of (wsV RX5 102 RX0 yX0_firstOf wsX0_firstOf) := goodIn_app (goodIn_of _ (by decide +kernel)) ggX5_of_X0_firstOf
set_option maxRecDepth 100000 in
theorem ggX5_of_X0_lastOf : GoodIn wsX5_of wsX0_lastOf := goodIn_g _ [6, 1, 2, 2, 0, 0, 0, 0, 0, 9, 0, 0, 0, 0, 3, 0, 0, 0, 9, 0, 0, 0, 0, 0, 0, 0, 0, 0] [14, 15, 16, 9, 10, 11, 12, 13, 7, 2, 8, 17, 3, 4, 0, 5, 1, 6, 20, 21, 22, 23, 24, 25, 26, 27, 18, 19] rfl (by decide +kernel)
set_option maxRecDepth 100000 in
theorem gX5_of_X0_lastOf : GoodIn wsX5_of (wsV RX5 106 RX0 yX0_lastOf wsX0_lastOf) := goodIn_app (goodIn_of _ (by decide +kernel)) ggX5_of_X0_lastOf
theorem dX5_of_0 : decode cX5_of 0 = .ok (.aload_n 0, 1) := by decide +kernel
theorem dX5_of_1 : decode cX5_of 1 = .ok (.getfield 12, 3) := by decide +kernel
theorem dX5_of_4 : decode cX5_of 4 = .ok (.iload_n 1, 1) := by decide +kernel
theorem dX5_of_5 : decode cX5_of 5 = .ok (.invokevirtual 87, 3) := by decide +kernel
theorem dX5_of_8 : decode cX5_of 8 = .ok (.ifCond .eq 13, 3) := by decide +kernel
theorem dX5_of_11 : decode cX5_of 11 = .ok (.iload_n 2, 1) := by decide +kernel
theorem dX5_of_12 : decode cX5_of 12 = .ok (.iconst 0, 1) := by decide +kernel
theorem dX5_of_13 : decode cX5_of 13 = .ok (.bipush 6, 2) := by decide +kernel
theorem dX5_of_15 : decode cX5_of 15 = .ok (.invokestatic 91, 3) := by decide +kernel
theorem dX5_of_18 : decode cX5_of 18 = .ok (.ifCond .ne 7, 3) := by decide +kernel
theorem dX5_of_21 : decode cX5_of 21 = .ok (.sipush (-1000), 3) := by decide +kernel
theorem dX5_of_24 : decode cX5_of 24 = .ok (.ireturn, 1) := by decide +kernel
theorem dX5_of_25 : decode cX5_of 25 = .ok (.iload_n 2, 1) := by decide +kernel
theorem dX5_of_26 : decode cX5_of 26 = .ok (.tableswitch 66 4 6 #[26, 48, 57], 26) := by decide +kernel
theorem dX5_of_52 : decode cX5_of 52 = .ok (.aload_n 0, 1) := by decide +kernel
theorem dX5_of_53 : decode cX5_of 53 = .ok (.getfield 12, 3) := by decide +kernel
theorem dX5_of_56 : decode cX5_of 56 = .ok (.iload_n 1, 1) := by decide +kernel
theorem dX5_of_57 : decode cX5_of 57 = .ok (.iconst 0, 1) := by decide +kernel
theorem dX5_of_58 : decode cX5_of 58 = .ok (.invokevirtual 95, 3) := by decide +kernel
theorem dX5_of_61 : decode cX5_of 61 = .ok (.aload_n 0, 1) := by decide +kernel
theorem dX5_of_62 : decode cX5_of 62 = .ok (.getfield 12, 3) := by decide +kernel
theorem dX5_of_65 : decode cX5_of 65 = .ok (.iload_n 1, 1) := by decide +kernel
theorem dX5_of_66 : decode cX5_of 66 = .ok (.iconst 1, 1) := by decide +kernel
theorem dX5_of_67 : decode cX5_of 67 = .ok (.invokevirtual 95, 3) := by decide +kernel
theorem dX5_of_70 : decode cX5_of 70 = .ok (.invokestatic 99, 3) := by decide +kernel
theorem dX5_of_73 : decode cX5_of 73 = .ok (.ireturn, 1) := by decide +kernel
theorem dX5_of_74 : decode cX5_of 74 = .ok (.aload_n 0, 1) := by decide +kernel
theorem dX5_of_75 : decode cX5_of 75 = .ok (.getfield 41, 3) := by decide +kernel
theorem dX5_of_78 : decode cX5_of 78 = .ok (.iload_n 1, 1) := by decide +kernel
theorem dX5_of_79 : decode cX5_of 79 = .ok (.invokevirtual 102, 3) := by decide +kernel
theorem dX5_of_82 : decode cX5_of 82 = .ok (.ireturn, 1) := by decide +kernel
theorem dX5_of_83 : decode cX5_of 83 = .ok (.aload_n 0, 1) := by decide +kernel
theorem dX5_of_84 : decode cX5_of 84 = .ok (.getfield 41, 3) := by decide +kernel
theorem dX5_of_87 : decode cX5_of 87 = .ok (.iload_n 1, 1) := by decide +kernel
theorem dX5_of_88 : decode cX5_of 88 = .ok (.invokevirtual 106, 3) := by decide +kernel
theorem dX5_of_91 : decode cX5_of 91 = .ok (.ireturn, 1) := by decide +kernel
theorem dX5_of_92 : decode cX5_of 92 = .ok (.aload_n 0, 1) := by decide +kernel
theorem dX5_of_93 : decode cX5_of 93 = .ok (.getfield 12, 3) := by decide +kernel
theorem dX5_of_96 : decode cX5_of 96 = .ok (.iload_n 1, 1) := by decide +kernel
theorem dX5_of_97 : decode cX5_of 97 = .ok (.iload_n 2, 1) := by decide +kernel
theorem dX5_of_98 : decode cX5_of 98 = .ok (.invokevirtual 95, 3) := by decide +kernel
theorem dX5_of_101 : decode cX5_of 101 = .ok (.ireturn, 1) := by decide +kernel
set_option maxRecDepth 100000 in
theorem ggX5_taken_X2_has : GoodIn wsX5_taken wsX2_has := goodIn_g _ [6, 0, 30, 0] [0, 1, 2, 3] rfl (by decide +kernel)
set_option maxRecDepth 100000 in
theorem gX5_taken_X2_has : GoodIn wsX5_taken (wsV RX5 87 RX2 yX2_has wsX2_has) := goodIn_app (goodIn_of _ (by decide +kernel)) ggX5_taken_X2_has
set_option maxRecDepth 100000 in
theorem ggX5_taken_X5_fits : GoodIn wsX5_taken wsX5_fits := goodIn_g _ [10, 0, 0, 0, 0, 0, 0, 0, 0, 0] [1, 2, 3, 4, 5, 0, 6, 7, 8, 9] rfl (by decide +kernel)
set_option maxRecDepth 100000 in
theorem gX5_taken_X5_fits : GoodIn wsX5_taken (va_wsS RX5 72 yX5_fits wsX5_fits) := goodIn_app (goodIn_of _ (by decide +kernel)) ggX5_taken_X5_fits
set_option maxRecDepth 100000 in
theorem ggX5_taken_X2_read : GoodIn wsX5_taken wsX2_read := goodIn_g _ [7, 2, 4, 0, 6, 0, 13, 0] [4, 0, 5, 2, 1, 3, 6, 7] rfl (by decide +kernel)
set_option maxRecDepth 100000 in
theorem gX5_taken_X2_read : GoodIn wsX5_taken (wsV RX5 95 RX2 yX2_read wsX2_read) := goodIn_app (goodIn_of _ (by decide +kernel)) ggX5_taken_X2_read
set_option maxRecDepth 100000 in
theorem ggX5_taken_X5_isUnder : GoodIn wsX5_taken wsX5_isUnder := goodIn_g _ [10, 3, 0, 0, 10, 0] [4, 5, 1, 2, 0, 3] rfl (by decide +kernel)
set_option maxRecDepth 100000 in
theorem gX5_taken_X5_isUnder : GoodIn wsX5_taken (va_wsS RX5 109 yX5_isUnder wsX5_isUnder) := goodIn_app (goodIn_of _ (by decide +kernel)) ggX5_taken_X5_isUnder
theorem dX5_taken_0 : decode cX5_taken 0 = .ok (.aload_n 0, 1) := by decide +kernel
theorem dX5_taken_1 : decode cX5_taken 1 = .ok (.getfield 12, 3) := by decide +kernel
theorem dX5_taken_4 : decode cX5_taken 4 = .ok (.iload_n 1, 1) := by decide +kernel
theorem dX5_taken_5 : decode cX5_taken 5 = .ok (.invokevirtual 87, 3) := by decide +kernel
theorem dX5_taken_8 : decode cX5_taken 8 = .ok (.ifCond .eq 11, 3) := by decide +kernel
theorem dX5_taken_11 : decode cX5_taken 11 = .ok (.iconst 0, 1) := by decide +kernel
theorem dX5_taken_12 : decode cX5_taken 12 = .ok (.iload_n 2, 1) := by decide +kernel
theorem dX5_taken_13 : decode cX5_taken 13 = .ok (.invokestatic 72, 3) := by decide +kernel
theorem dX5_taken_16 : decode cX5_taken 16 = .ok (.ifCond .ne 6, 3) := by decide +kernel
theorem dX5_taken_19 : decode cX5_taken 19 = .ok (.bipush (-2), 2) := by decide +kernel
theorem dX5_taken_21 : decode cX5_taken 21 = .ok (.ireturn, 1) := by decide +kernel
theorem dX5_taken_22 : decode cX5_taken 22 = .ok (.aload_n 0, 1) := by decide +kernel
theorem dX5_taken_23 : decode cX5_taken 23 = .ok (.getfield 12, 3) := by decide +kernel
theorem dX5_taken_26 : decode cX5_taken 26 = .ok (.iload_n 1, 1) := by decide +kernel
theorem dX5_taken_27 : decode cX5_taken 27 = .ok (.iconst 0, 1) := by decide +kernel
theorem dX5_taken_28 : decode cX5_taken 28 = .ok (.invokevirtual 95, 3) := by decide +kernel
theorem dX5_taken_31 : decode cX5_taken 31 = .ok (.iload_n 2, 1) := by decide +kernel
theorem dX5_taken_32 : decode cX5_taken 32 = .ok (.invokestatic 109, 3) := by decide +kernel
theorem dX5_taken_35 : decode cX5_taken 35 = .ok (.ifCond .eq 15, 3) := by decide +kernel
theorem dX5_taken_38 : decode cX5_taken 38 = .ok (.aload_n 0, 1) := by decide +kernel
theorem dX5_taken_39 : decode cX5_taken 39 = .ok (.getfield 12, 3) := by decide +kernel
theorem dX5_taken_42 : decode cX5_taken 42 = .ok (.iload_n 1, 1) := by decide +kernel
theorem dX5_taken_43 : decode cX5_taken 43 = .ok (.iconst 1, 1) := by decide +kernel
theorem dX5_taken_44 : decode cX5_taken 44 = .ok (.invokevirtual 95, 3) := by decide +kernel
theorem dX5_taken_47 : decode cX5_taken 47 = .ok (.goto 5, 3) := by decide +kernel
theorem dX5_taken_50 : decode cX5_taken 50 = .ok (.bipush (-13), 2) := by decide +kernel
theorem dX5_taken_52 : decode cX5_taken 52 = .ok (.ireturn, 1) := by decide +kernel
set_option maxRecDepth 100000 in
theorem ggX5_rule_X5_within : GoodIn wsX5_rule wsX5_within := goodIn_g _ [8] [0] rfl (by decide +kernel)
set_option maxRecDepth 100000 in
theorem gX5_rule_X5_within : GoodIn wsX5_rule (va_wsS RX5 91 yX5_within wsX5_within) := goodIn_app (goodIn_of _ (by decide +kernel)) ggX5_rule_X5_within
set_option maxRecDepth 100000 in
theorem ggX5_rule_X5_cell : GoodIn wsX5_rule wsX5_cell := goodIn_g _ [11] [0] rfl (by decide +kernel)
set_option maxRecDepth 100000 in
theorem gX5_rule_X5_cell : GoodIn wsX5_rule (va_wsS RX5 117 yX5_cell wsX5_cell) := goodIn_app (goodIn_of _ (by decide +kernel)) ggX5_rule_X5_cell
set_option maxRecDepth 100000 in
theorem ggX5_rule_X5_mark : GoodIn wsX5_rule wsX5_mark := goodIn_g _ [14] [0] rfl (by decide +kernel)
set_option maxRecDepth 100000 in
theorem gX5_rule_X5_mark : GoodIn wsX5_rule (va_wsS RX5 124 yX5_mark wsX5_mark) := goodIn_app (goodIn_of _ (by decide +kernel)) ggX5_rule_X5_mark
theorem dX5_rule_0 : decode cX5_rule 0 = .ok (.iload_n 1, 1) := by decide +kernel
theorem dX5_rule_1 : decode cX5_rule 1 = .ok (.iconst 0, 1) := by decide +kernel
theorem dX5_rule_2 : decode cX5_rule 2 = .ok (.aload_n 0, 1) := by decide +kernel
theorem dX5_rule_3 : decode cX5_rule 3 = .ok (.getfield 30, 3) := by decide +kernel
theorem dX5_rule_6 : decode cX5_rule 6 = .ok (.arraylength, 1) := by decide +kernel
theorem dX5_rule_7 : decode cX5_rule 7 = .ok (.iconst 1, 1) := by decide +kernel
theorem dX5_rule_8 : decode cX5_rule 8 = .ok (.isub, 1) := by decide +kernel
theorem dX5_rule_9 : decode cX5_rule 9 = .ok (.invokestatic 91, 3) := by decide +kernel
theorem dX5_rule_12 : decode cX5_rule 12 = .ok (.ifCond .ne 7, 3) := by decide +kernel
theorem dX5_rule_15 : decode cX5_rule 15 = .ok (.ldc2_w 112, 3) := by decide +kernel
theorem dX5_rule_18 : decode cX5_rule 18 = .ok (.lreturn, 1) := by decide +kernel
theorem dX5_rule_19 : decode cX5_rule 19 = .ok (.iload_n 2, 1) := by decide +kernel
theorem dX5_rule_20 : decode cX5_rule 20 = .ok (.getstatic 114, 3) := by decide +kernel
theorem dX5_rule_23 : decode cX5_rule 23 = .ok (.iload_n 1, 1) := by decide +kernel
theorem dX5_rule_24 : decode cX5_rule 24 = .ok (.invokestatic 117, 3) := by decide +kernel
theorem dX5_rule_27 : decode cX5_rule 27 = .ok (.getstatic 121, 3) := by decide +kernel
theorem dX5_rule_30 : decode cX5_rule 30 = .ok (.iload_n 1, 1) := by decide +kernel
theorem dX5_rule_31 : decode cX5_rule 31 = .ok (.invokestatic 117, 3) := by decide +kernel
theorem dX5_rule_34 : decode cX5_rule 34 = .ok (.invokestatic 91, 3) := by decide +kernel
theorem dX5_rule_37 : decode cX5_rule 37 = .ok (.ifCond .ne 7, 3) := by decide +kernel
theorem dX5_rule_40 : decode cX5_rule 40 = .ok (.ldc2_w 112, 3) := by decide +kernel
theorem dX5_rule_43 : decode cX5_rule 43 = .ok (.lreturn, 1) := by decide +kernel
theorem dX5_rule_44 : decode cX5_rule 44 = .ok (.aload_n 0, 1) := by decide +kernel
theorem dX5_rule_45 : decode cX5_rule 45 = .ok (.getfield 30, 3) := by decide +kernel
theorem dX5_rule_48 : decode cX5_rule 48 = .ok (.iload_n 1, 1) := by decide +kernel
theorem dX5_rule_49 : decode cX5_rule 49 = .ok (.invokestatic 117, 3) := by decide +kernel
theorem dX5_rule_52 : decode cX5_rule 52 = .ok (.istore_n 3, 1) := by decide +kernel
theorem dX5_rule_53 : decode cX5_rule 53 = .ok (.aload_n 0, 1) := by decide +kernel
theorem dX5_rule_54 : decode cX5_rule 54 = .ok (.getfield 30, 3) := by decide +kernel
theorem dX5_rule_57 : decode cX5_rule 57 = .ok (.iload_n 1, 1) := by decide +kernel
theorem dX5_rule_58 : decode cX5_rule 58 = .ok (.iload_n 2, 1) := by decide +kernel
theorem dX5_rule_59 : decode cX5_rule 59 = .ok (.invokestatic 124, 3) := by decide +kernel
theorem dX5_rule_62 : decode cX5_rule 62 = .ok (.iload_n 3, 1) := by decide +kernel
theorem dX5_rule_63 : decode cX5_rule 63 = .ok (.i2l, 1) := by decide +kernel
theorem dX5_rule_64 : decode cX5_rule 64 = .ok (.lreturn, 1) := by decide +kernel
set_option maxRecDepth 100000 in
theorem ggX5_at_X5_within : GoodIn wsX5_at wsX5_within := goodIn_g _ [12] [0] rfl (by decide +kernel)
set_option maxRecDepth 100000 in
theorem gX5_at_X5_within : GoodIn wsX5_at (va_wsS RX5 91 yX5_within wsX5_within) := goodIn_app (goodIn_of _ (by decide +kernel)) ggX5_at_X5_within
set_option maxRecDepth 100000 in
theorem ggX5_at_X5_cell : GoodIn wsX5_at wsX5_cell := goodIn_g _ [15] [0] rfl (by decide +kernel)
set_option maxRecDepth 100000 in
theorem gX5_at_X5_cell : GoodIn wsX5_at (va_wsS RX5 117 yX5_cell wsX5_cell) := goodIn_app (goodIn_of _ (by decide +kernel)) ggX5_at_X5_cell
theorem dX5_at_0 : decode cX5_at 0 = .ok (.iload_n 1, 1) := by decide +kernel
theorem dX5_at_1 : decode cX5_at 1 = .ok (.iconst 0, 1) := by decide +kernel
theorem dX5_at_2 : decode cX5_at 2 = .ok (.aload_n 0, 1) := by decide +kernel
theorem dX5_at_3 : decode cX5_at 3 = .ok (.getfield 41, 3) := by decide +kernel
theorem dX5_at_6 : decode cX5_at 6 = .ok (.getfield 128, 3) := by decide +kernel
theorem dX5_at_9 : decode cX5_at 9 = .ok (.invokestatic 91, 3) := by decide +kernel
theorem dX5_at_12 : decode cX5_at 12 = .ok (.ifCond .ne 7, 3) := by decide +kernel
theorem dX5_at_15 : decode cX5_at 15 = .ok (.ldc2_w 112, 3) := by decide +kernel
theorem dX5_at_18 : decode cX5_at 18 = .ok (.lreturn, 1) := by decide +kernel
theorem dX5_at_19 : decode cX5_at 19 = .ok (.iload_n 2, 1) := by decide +kernel
theorem dX5_at_20 : decode cX5_at 20 = .ok (.tableswitch 111 0 4 #[36, 49, 62, 75, 88], 36) := by decide +kernel
theorem dX5_at_56 : decode cX5_at 56 = .ok (.aload_n 0, 1) := by decide +kernel
theorem dX5_at_57 : decode cX5_at 57 = .ok (.getfield 41, 3) := by decide +kernel
theorem dX5_at_60 : decode cX5_at 60 = .ok (.getfield 131, 3) := by decide +kernel
theorem dX5_at_63 : decode cX5_at 63 = .ok (.iload_n 1, 1) := by decide +kernel
theorem dX5_at_64 : decode cX5_at 64 = .ok (.invokestatic 117, 3) := by decide +kernel
theorem dX5_at_67 : decode cX5_at 67 = .ok (.i2l, 1) := by decide +kernel
theorem dX5_at_68 : decode cX5_at 68 = .ok (.lreturn, 1) := by decide +kernel
theorem dX5_at_69 : decode cX5_at 69 = .ok (.aload_n 0, 1) := by decide +kernel
theorem dX5_at_70 : decode cX5_at 70 = .ok (.getfield 41, 3) := by decide +kernel
theorem dX5_at_73 : decode cX5_at 73 = .ok (.getfield 134, 3) := by decide +kernel
theorem dX5_at_76 : decode cX5_at 76 = .ok (.iload_n 1, 1) := by decide +kernel
theorem dX5_at_77 : decode cX5_at 77 = .ok (.invokestatic 117, 3) := by decide +kernel
theorem dX5_at_80 : decode cX5_at 80 = .ok (.i2l, 1) := by decide +kernel
theorem dX5_at_81 : decode cX5_at 81 = .ok (.lreturn, 1) := by decide +kernel
theorem dX5_at_82 : decode cX5_at 82 = .ok (.aload_n 0, 1) := by decide +kernel
theorem dX5_at_83 : decode cX5_at 83 = .ok (.getfield 41, 3) := by decide +kernel
theorem dX5_at_86 : decode cX5_at 86 = .ok (.getfield 137, 3) := by decide +kernel
theorem dX5_at_89 : decode cX5_at 89 = .ok (.iload_n 1, 1) := by decide +kernel
theorem dX5_at_90 : decode cX5_at 90 = .ok (.invokestatic 117, 3) := by decide +kernel
theorem dX5_at_93 : decode cX5_at 93 = .ok (.i2l, 1) := by decide +kernel
theorem dX5_at_94 : decode cX5_at 94 = .ok (.lreturn, 1) := by decide +kernel
theorem dX5_at_95 : decode cX5_at 95 = .ok (.aload_n 0, 1) := by decide +kernel
theorem dX5_at_96 : decode cX5_at 96 = .ok (.getfield 41, 3) := by decide +kernel
theorem dX5_at_99 : decode cX5_at 99 = .ok (.getfield 140, 3) := by decide +kernel
theorem dX5_at_102 : decode cX5_at 102 = .ok (.iload_n 1, 1) := by decide +kernel
theorem dX5_at_103 : decode cX5_at 103 = .ok (.invokestatic 117, 3) := by decide +kernel
theorem dX5_at_106 : decode cX5_at 106 = .ok (.i2l, 1) := by decide +kernel
theorem dX5_at_107 : decode cX5_at 107 = .ok (.lreturn, 1) := by decide +kernel
theorem dX5_at_108 : decode cX5_at 108 = .ok (.iload_n 1, 1) := by decide +kernel
theorem dX5_at_109 : decode cX5_at 109 = .ok (.ifCond .ne 9, 3) := by decide +kernel
theorem dX5_at_112 : decode cX5_at 112 = .ok (.ldc2_w 112, 3) := by decide +kernel
theorem dX5_at_115 : decode cX5_at 115 = .ok (.goto 15, 3) := by decide +kernel
theorem dX5_at_118 : decode cX5_at 118 = .ok (.aload_n 0, 1) := by decide +kernel
theorem dX5_at_119 : decode cX5_at 119 = .ok (.getfield 41, 3) := by decide +kernel
theorem dX5_at_122 : decode cX5_at 122 = .ok (.getfield 143, 3) := by decide +kernel
theorem dX5_at_125 : decode cX5_at 125 = .ok (.iload_n 1, 1) := by decide +kernel
theorem dX5_at_126 : decode cX5_at 126 = .ok (.invokestatic 117, 3) := by decide +kernel
theorem dX5_at_129 : decode cX5_at 129 = .ok (.i2l, 1) := by decide +kernel
theorem dX5_at_130 : decode cX5_at 130 = .ok (.lreturn, 1) := by decide +kernel
theorem dX5_at_131 : decode cX5_at 131 = .ok (.ldc2_w 112, 3) := by decide +kernel
theorem dX5_at_134 : decode cX5_at 134 = .ok (.lreturn, 1) := by decide +kernel
set_option maxRecDepth 100000 in
theorem ggX5_scaled_X5_within : GoodIn wsX5_scaled wsX5_within := goodIn_g _ [9] [0] rfl (by decide +kernel)
set_option maxRecDepth 100000 in
theorem gX5_scaled_X5_within : GoodIn wsX5_scaled (va_wsS RX5 91 yX5_within wsX5_within) := goodIn_app (goodIn_of _ (by decide +kernel)) ggX5_scaled_X5_within
set_option maxRecDepth 100000 in
theorem ggX5_scaled_X5_cell : GoodIn wsX5_scaled wsX5_cell := goodIn_g _ [12] [0] rfl (by decide +kernel)
set_option maxRecDepth 100000 in
theorem gX5_scaled_X5_cell : GoodIn wsX5_scaled (va_wsS RX5 117 yX5_cell wsX5_cell) := goodIn_app (goodIn_of _ (by decide +kernel)) ggX5_scaled_X5_cell
theorem dX5_scaled_0 : decode cX5_scaled 0 = .ok (.iload_n 1, 1) := by decide +kernel
theorem dX5_scaled_1 : decode cX5_scaled 1 = .ok (.iconst 0, 1) := by decide +kernel
theorem dX5_scaled_2 : decode cX5_scaled 2 = .ok (.aload_n 0, 1) := by decide +kernel
theorem dX5_scaled_3 : decode cX5_scaled 3 = .ok (.getfield 41, 3) := by decide +kernel
theorem dX5_scaled_6 : decode cX5_scaled 6 = .ok (.getfield 128, 3) := by decide +kernel
theorem dX5_scaled_9 : decode cX5_scaled 9 = .ok (.invokestatic 91, 3) := by decide +kernel
theorem dX5_scaled_12 : decode cX5_scaled 12 = .ok (.ifCond .ne 7, 3) := by decide +kernel
theorem dX5_scaled_15 : decode cX5_scaled 15 = .ok (.ldc2_w 112, 3) := by decide +kernel
theorem dX5_scaled_18 : decode cX5_scaled 18 = .ok (.lreturn, 1) := by decide +kernel
theorem dX5_scaled_19 : decode cX5_scaled 19 = .ok (.aload_n 0, 1) := by decide +kernel
theorem dX5_scaled_20 : decode cX5_scaled 20 = .ok (.getfield 41, 3) := by decide +kernel
theorem dX5_scaled_23 : decode cX5_scaled 23 = .ok (.getfield 140, 3) := by decide +kernel
theorem dX5_scaled_26 : decode cX5_scaled 26 = .ok (.iload_n 1, 1) := by decide +kernel
theorem dX5_scaled_27 : decode cX5_scaled 27 = .ok (.invokestatic 117, 3) := by decide +kernel
theorem dX5_scaled_30 : decode cX5_scaled 30 = .ok (.i2l, 1) := by decide +kernel
theorem dX5_scaled_31 : decode cX5_scaled 31 = .ok (.aload_n 0, 1) := by decide +kernel
theorem dX5_scaled_32 : decode cX5_scaled 32 = .ok (.getfield 30, 3) := by decide +kernel
theorem dX5_scaled_35 : decode cX5_scaled 35 = .ok (.iconst 0, 1) := by decide +kernel
theorem dX5_scaled_36 : decode cX5_scaled 36 = .ok (.invokestatic 117, 3) := by decide +kernel
theorem dX5_scaled_39 : decode cX5_scaled 39 = .ok (.i2l, 1) := by decide +kernel
theorem dX5_scaled_40 : decode cX5_scaled 40 = .ok (.lmul, 1) := by decide +kernel
theorem dX5_scaled_41 : decode cX5_scaled 41 = .ok (.lstore_n 2, 1) := by decide +kernel
theorem dX5_scaled_42 : decode cX5_scaled 42 = .ok (.lload_n 2, 1) := by decide +kernel
theorem dX5_scaled_43 : decode cX5_scaled 43 = .ok (.lload_n 2, 1) := by decide +kernel
theorem dX5_scaled_44 : decode cX5_scaled 44 = .ok (.l2i, 1) := by decide +kernel
theorem dX5_scaled_45 : decode cX5_scaled 45 = .ok (.i2l, 1) := by decide +kernel
theorem dX5_scaled_46 : decode cX5_scaled 46 = .ok (.lcmp, 1) := by decide +kernel
theorem dX5_scaled_47 : decode cX5_scaled 47 = .ok (.ifCond .ne 7, 3) := by decide +kernel
theorem dX5_scaled_50 : decode cX5_scaled 50 = .ok (.lload_n 2, 1) := by decide +kernel
theorem dX5_scaled_51 : decode cX5_scaled 51 = .ok (.goto 6, 3) := by decide +kernel
theorem dX5_scaled_54 : decode cX5_scaled 54 = .ok (.ldc2_w 112, 3) := by decide +kernel
theorem dX5_scaled_57 : decode cX5_scaled 57 = .ok (.lreturn, 1) := by decide +kernel
set_option maxRecDepth 100000 in
theorem ggX5_join_X5_within : GoodIn wsX5_join wsX5_within := goodIn_g _ [9] [0] rfl (by decide +kernel)
set_option maxRecDepth 100000 in
theorem gX5_join_X5_within : GoodIn wsX5_join (va_wsS RX5 91 yX5_within wsX5_within) := goodIn_app (goodIn_of _ (by decide +kernel)) ggX5_join_X5_within
set_option maxRecDepth 100000 in
theorem ggX5_join_X5_apartAhead : GoodIn wsX5_join wsX5_apartAhead := goodIn_g _ [3, 4, 4, 0, 0, 0, 0, 0, 0, 0, 0, 0, 0, 0, 0, 0, 5, 0, 0, 0, 0, 0, 0, 0, 0, 2, 0, 0, 0, 0, 0, 0, 0] [2, 0, 3, 4, 5, 6, 7, 8, 9, 10, 11, 12, 13, 1, 14, 15, 16, 17, 18, 19, 20, 21, 22, 23, 24, 25, 26, 27, 28, 29, 30, 31, 32] rfl (by decide +kernel)
set_option maxRecDepth 100000 in
theorem gX5_join_X5_apartAhead : GoodIn wsX5_join (wsV RX5 146 RX5 yX5_apartAhead wsX5_apartAhead) := goodIn_app (goodIn_of _ (by decide +kernel)) ggX5_join_X5_apartAhead
set_option maxRecDepth 100000 in
theorem ggX5_join_X5_jumps : GoodIn wsX5_join wsX5_jumps := goodIn_g _ [3, 0, 0, 2, 1, 0, 0, 0, 0, 0, 0, 0, 0, 0, 0, 0, 0, 0, 0, 0, 0, 3, 0, 0, 0, 0, 0, 0, 0, 0, 0, 0, 2, 0, 0, 0, 0, 0, 0, 0] [21, 0, 1, 22, 2, 4, 5, 6, 3, 7, 8, 9, 10, 11, 12, 13, 14, 15, 16, 17, 18, 19, 20, 23, 24, 25, 26, 27, 28, 29, 30, 31, 32, 33, 34, 35, 36, 37, 38, 39] rfl (by decide +kernel)
set_option maxRecDepth 100000 in
theorem gX5_join_X5_jumps : GoodIn wsX5_join (wsV RX5 149 RX5 yX5_jumps wsX5_jumps) := goodIn_app (goodIn_of _ (by decide +kernel)) ggX5_join_X5_jumps
theorem dX5_join_0 : decode cX5_join 0 = .ok (.iload_n 1, 1) := by decide +kernel
theorem dX5_join_1 : decode cX5_join 1 = .ok (.iconst 0, 1) := by decide +kernel
theorem dX5_join_2 : decode cX5_join 2 = .ok (.aload_n 0, 1) := by decide +kernel
theorem dX5_join_3 : decode cX5_join 3 = .ok (.getfield 12, 3) := by decide +kernel
theorem dX5_join_6 : decode cX5_join 6 = .ok (.getfield 76, 3) := by decide +kernel
theorem dX5_join_9 : decode cX5_join 9 = .ok (.iconst 2, 1) := by decide +kernel
theorem dX5_join_10 : decode cX5_join 10 = .ok (.isub, 1) := by decide +kernel
theorem dX5_join_11 : decode cX5_join 11 = .ok (.invokestatic 91, 3) := by decide +kernel
theorem dX5_join_14 : decode cX5_join 14 = .ok (.ifCond .ne 6, 3) := by decide +kernel
theorem dX5_join_17 : decode cX5_join 17 = .ok (.bipush (-2), 2) := by decide +kernel
theorem dX5_join_19 : decode cX5_join 19 = .ok (.ireturn, 1) := by decide +kernel
theorem dX5_join_20 : decode cX5_join 20 = .ok (.iload_n 2, 1) := by decide +kernel
theorem dX5_join_21 : decode cX5_join 21 = .ok (.tableswitch 71 0 2 #[27, 42, 57], 27) := by decide +kernel
theorem dX5_join_48 : decode cX5_join 48 = .ok (.aload_n 0, 1) := by decide +kernel
theorem dX5_join_49 : decode cX5_join 49 = .ok (.aload_n 0, 1) := by decide +kernel
theorem dX5_join_50 : decode cX5_join 50 = .ok (.getfield 41, 3) := by decide +kernel
theorem dX5_join_53 : decode cX5_join 53 = .ok (.getfield 131, 3) := by decide +kernel
theorem dX5_join_56 : decode cX5_join 56 = .ok (.iload_n 1, 1) := by decide +kernel
theorem dX5_join_57 : decode cX5_join 57 = .ok (.iconst 1, 1) := by decide +kernel
theorem dX5_join_58 : decode cX5_join 58 = .ok (.iadd, 1) := by decide +kernel
theorem dX5_join_59 : decode cX5_join 59 = .ok (.invokevirtual 146, 3) := by decide +kernel
theorem dX5_join_62 : decode cX5_join 62 = .ok (.ireturn, 1) := by decide +kernel
theorem dX5_join_63 : decode cX5_join 63 = .ok (.aload_n 0, 1) := by decide +kernel
theorem dX5_join_64 : decode cX5_join 64 = .ok (.aload_n 0, 1) := by decide +kernel
theorem dX5_join_65 : decode cX5_join 65 = .ok (.getfield 41, 3) := by decide +kernel
theorem dX5_join_68 : decode cX5_join 68 = .ok (.getfield 134, 3) := by decide +kernel
theorem dX5_join_71 : decode cX5_join 71 = .ok (.iload_n 1, 1) := by decide +kernel
theorem dX5_join_72 : decode cX5_join 72 = .ok (.iconst 1, 1) := by decide +kernel
theorem dX5_join_73 : decode cX5_join 73 = .ok (.iadd, 1) := by decide +kernel
theorem dX5_join_74 : decode cX5_join 74 = .ok (.invokevirtual 146, 3) := by decide +kernel
theorem dX5_join_77 : decode cX5_join 77 = .ok (.ireturn, 1) := by decide +kernel
theorem dX5_join_78 : decode cX5_join 78 = .ok (.aload_n 0, 1) := by decide +kernel
theorem dX5_join_79 : decode cX5_join 79 = .ok (.iload_n 1, 1) := by decide +kernel
theorem dX5_join_80 : decode cX5_join 80 = .ok (.invokevirtual 149, 3) := by decide +kernel
theorem dX5_join_83 : decode cX5_join 83 = .ok (.ifCond .eq 7, 3) := by decide +kernel
theorem dX5_join_86 : decode cX5_join 86 = .ok (.iconst 1, 1) := by decide +kernel
theorem dX5_join_87 : decode cX5_join 87 = .ok (.goto 4, 3) := by decide +kernel
theorem dX5_join_90 : decode cX5_join 90 = .ok (.iconst 0, 1) := by decide +kernel
theorem dX5_join_91 : decode cX5_join 91 = .ok (.ireturn, 1) := by decide +kernel
theorem dX5_join_92 : decode cX5_join 92 = .ok (.bipush (-2), 2) := by decide +kernel
theorem dX5_join_94 : decode cX5_join 94 = .ok (.ireturn, 1) := by decide +kernel
set_option maxRecDepth 100000 in
theorem ggX5_joins_X5_jumps : GoodIn wsX5_joins wsX5_jumps := goodIn_g _ [6, 0, 0, 0, 0, 0, 0, 0, 0, 0, 0, 0, 0, 0, 0, 0, 0, 0, 0, 0, 0, 0, 0, 0, 0, 0, 0, 0, 0, 0, 0, 0, 2, 0, 0, 0, 0, 0, 0, 0] [1, 2, 3, 4, 5, 6, 7, 8, 0, 9, 10, 11, 12, 13, 14, 15, 16, 17, 18, 19, 20, 21, 22, 23, 24, 25, 26, 27, 28, 29, 30, 31, 32, 33, 34, 35, 36, 37, 38, 39] rfl (by decide +kernel)
set_option maxRecDepth 100000 in
theorem gX5_joins_X5_jumps : GoodIn wsX5_joins (wsV RX5 149 RX5 yX5_jumps wsX5_jumps) := goodIn_app (goodIn_of _ (by decide +kernel)) ggX5_joins_X5_jumps
theorem dX5_joins_0 : decode cX5_joins 0 = .ok (.iconst 0, 1) := by decide +kernel
theorem dX5_joins_1 : decode cX5_joins 1 = .ok (.istore_n 1, 1) := by decide +kernel
theorem dX5_joins_2 : decode cX5_joins 2 = .ok (.iconst 0, 1) := by decide +kernel
theorem dX5_joins_3 : decode cX5_joins 3 = .ok (.istore_n 2, 1) := by decide +kernel
theorem dX5_joins_4 : decode cX5_joins 4 = .ok (.iload_n 2, 1) := by decide +kernel
theorem dX5_joins_5 : decode cX5_joins 5 = .ok (.aload_n 0, 1) := by decide +kernel
theorem dX5_joins_6 : decode cX5_joins 6 = .ok (.getfield 12, 3) := by decide +kernel
theorem dX5_joins_9 : decode cX5_joins 9 = .ok (.getfield 76, 3) := by decide +kernel
theorem dX5_joins_12 : decode cX5_joins 12 = .ok (.iconst 1, 1) := by decide +kernel
theorem dX5_joins_13 : decode cX5_joins 13 = .ok (.isub, 1) := by decide +kernel
theorem dX5_joins_14 : decode cX5_joins 14 = .ok (.if_icmp .ge 23, 3) := by decide +kernel
theorem dX5_joins_17 : decode cX5_joins 17 = .ok (.aload_n 0, 1) := by decide +kernel
theorem dX5_joins_18 : decode cX5_joins 18 = .ok (.iload_n 2, 1) := by decide +kernel
theorem dX5_joins_19 : decode cX5_joins 19 = .ok (.invokevirtual 149, 3) := by decide +kernel
theorem dX5_joins_22 : decode cX5_joins 22 = .ok (.ifCond .eq 9, 3) := by decide +kernel
theorem dX5_joins_25 : decode cX5_joins 25 = .ok (.iload_n 1, 1) := by decide +kernel
theorem dX5_joins_26 : decode cX5_joins 26 = .ok (.iconst 1, 1) := by decide +kernel
theorem dX5_joins_27 : decode cX5_joins 27 = .ok (.iload_n 2, 1) := by decide +kernel
theorem dX5_joins_28 : decode cX5_joins 28 = .ok (.ishl, 1) := by decide +kernel
theorem dX5_joins_29 : decode cX5_joins 29 = .ok (.ior, 1) := by decide +kernel
theorem dX5_joins_30 : decode cX5_joins 30 = .ok (.istore_n 1, 1) := by decide +kernel
theorem dX5_joins_31 : decode cX5_joins 31 = .ok (.iinc 2 1, 3) := by decide +kernel
theorem dX5_joins_34 : decode cX5_joins 34 = .ok (.goto (-30), 3) := by decide +kernel
theorem dX5_joins_37 : decode cX5_joins 37 = .ok (.iload_n 1, 1) := by decide +kernel
theorem dX5_joins_38 : decode cX5_joins 38 = .ok (.ireturn, 1) := by decide +kernel
set_option maxRecDepth 100000 in
theorem ggX5_apartAhead_X0_firstOf : GoodIn wsX5_apartAhead wsX0_firstOf := goodIn_g _ [10, 0, 0, 0, 0, 10, 0, 0, 0, 0, 0, 0, 0] [0, 1, 2, 3, 4, 5, 6, 7, 8, 9, 10, 11, 12] rfl (by decide +kernel)
set_option maxRecDepth 100000 in
theorem gX5_apartAhead_X0_firstOf : GoodIn wsX5_apartAhead (wsV RX5 102 RX0 yX0_firstOf wsX0_firstOf) := goodIn_app (goodIn_of _ (by decide +kernel)) ggX5_apartAhead_X0_firstOf
set_option maxRecDepth 100000 in
theorem ggX5_apartAhead_X5_cell : GoodIn wsX5_apartAhead wsX5_cell := goodIn_g _ [14] [0] rfl (by decide +kernel)
set_option maxRecDepth 100000 in
theorem gX5_apartAhead_X5_cell : GoodIn wsX5_apartAhead (va_wsS RX5 117 yX5_cell wsX5_cell) := goodIn_app (goodIn_of _ (by decide +kernel)) ggX5_apartAhead_X5_cell
theorem dX5_apartAhead_0 : decode cX5_apartAhead 0 = .ok (.aload_n 0, 1) := by decide +kernel
theorem dX5_apartAhead_1 : decode cX5_apartAhead 1 = .ok (.getfield 41, 3) := by decide +kernel
theorem dX5_apartAhead_4 : decode cX5_apartAhead 4 = .ok (.iload_n 2, 1) := by decide +kernel
theorem dX5_apartAhead_5 : decode cX5_apartAhead 5 = .ok (.invokevirtual 102, 3) := by decide +kernel
theorem dX5_apartAhead_8 : decode cX5_apartAhead 8 = .ok (.istore_n 3, 1) := by decide +kernel
theorem dX5_apartAhead_9 : decode cX5_apartAhead 9 = .ok (.aload_n 1, 1) := by decide +kernel
theorem dX5_apartAhead_10 : decode cX5_apartAhead 10 = .ok (.iload_n 3, 1) := by decide +kernel
theorem dX5_apartAhead_11 : decode cX5_apartAhead 11 = .ok (.invokestatic 117, 3) := by decide +kernel
theorem dX5_apartAhead_14 : decode cX5_apartAhead 14 = .ok (.aload_n 1, 1) := by decide +kernel
theorem dX5_apartAhead_15 : decode cX5_apartAhead 15 = .ok (.iload_n 3, 1) := by decide +kernel
theorem dX5_apartAhead_16 : decode cX5_apartAhead 16 = .ok (.iconst 1, 1) := by decide +kernel
theorem dX5_apartAhead_17 : decode cX5_apartAhead 17 = .ok (.isub, 1) := by decide +kernel
theorem dX5_apartAhead_18 : decode cX5_apartAhead 18 = .ok (.invokestatic 117, 3) := by decide +kernel
theorem dX5_apartAhead_21 : decode cX5_apartAhead 21 = .ok (.isub, 1) := by decide +kernel
theorem dX5_apartAhead_22 : decode cX5_apartAhead 22 = .ok (.invokestatic 152, 3) := by decide +kernel
theorem dX5_apartAhead_25 : decode cX5_apartAhead 25 = .ok (.ireturn, 1) := by decide +kernel
set_option maxRecDepth 100000 in
theorem ggX5_jumps_X5_apartAhead : GoodIn wsX5_jumps wsX5_apartAhead := goodIn_g _ [1, 6, 0, 0, 0, 0, 0, 0, 0, 0, 0, 0, 0, 0, 0, 0, 0, 0, 0, 0, 0, 0, 0, 0, 0, 0, 0, 0, 0, 0, 0, 0, 0] [2, 0, 3, 4, 5, 6, 7, 8, 9, 10, 11, 12, 13, 1, 14, 15, 16, 17, 18, 19, 20, 21, 22, 23, 24, 25, 26, 27, 28, 29, 30, 31, 32] rfl (by decide +kernel)
set_option maxRecDepth 100000 in
theorem gX5_jumps_X5_apartAhead : GoodIn wsX5_jumps (wsV RX5 146 RX5 yX5_apartAhead wsX5_apartAhead) := goodIn_app (goodIn_of _ (by decide +kernel)) ggX5_jumps_X5_apartAhead
set_option maxRecDepth 100000 in
theorem ggX5_jumps_X5_cell : GoodIn wsX5_jumps wsX5_cell := goodIn_g _ [21] [0] rfl (by decide +kernel)
set_option maxRecDepth 100000 in
theorem gX5_jumps_X5_cell : GoodIn wsX5_jumps (va_wsS RX5 117 yX5_cell wsX5_cell) := goodIn_app (goodIn_of _ (by decide +kernel)) ggX5_jumps_X5_cell
theorem dX5_jumps_0 : decode cX5_jumps 0 = .ok (.aload_n 0, 1) := by decide +kernel
theorem dX5_jumps_1 : decode cX5_jumps 1 = .ok (.aload_n 0, 1) := by decide +kernel
theorem dX5_jumps_2 : decode cX5_jumps 2 = .ok (.getfield 41, 3) := by decide +kernel
theorem dX5_jumps_5 : decode cX5_jumps 5 = .ok (.getfield 131, 3) := by decide +kernel
theorem dX5_jumps_8 : decode cX5_jumps 8 = .ok (.iload_n 1, 1) := by decide +kernel
theorem dX5_jumps_9 : decode cX5_jumps 9 = .ok (.iconst 1, 1) := by decide +kernel
theorem dX5_jumps_10 : decode cX5_jumps 10 = .ok (.iadd, 1) := by decide +kernel
theorem dX5_jumps_11 : decode cX5_jumps 11 = .ok (.invokevirtual 146, 3) := by decide +kernel
theorem dX5_jumps_14 : decode cX5_jumps 14 = .ok (.aload_n 0, 1) := by decide +kernel
theorem dX5_jumps_15 : decode cX5_jumps 15 = .ok (.getfield 30, 3) := by decide +kernel
theorem dX5_jumps_18 : decode cX5_jumps 18 = .ok (.iconst 4, 1) := by decide +kernel
theorem dX5_jumps_19 : decode cX5_jumps 19 = .ok (.invokestatic 117, 3) := by decide +kernel
theorem dX5_jumps_22 : decode cX5_jumps 22 = .ok (.if_icmp .gt 28, 3) := by decide +kernel
theorem dX5_jumps_25 : decode cX5_jumps 25 = .ok (.aload_n 0, 1) := by decide +kernel
theorem dX5_jumps_26 : decode cX5_jumps 26 = .ok (.aload_n 0, 1) := by decide +kernel
theorem dX5_jumps_27 : decode cX5_jumps 27 = .ok (.getfield 41, 3) := by decide +kernel
theorem dX5_jumps_30 : decode cX5_jumps 30 = .ok (.getfield 134, 3) := by decide +kernel
theorem dX5_jumps_33 : decode cX5_jumps 33 = .ok (.iload_n 1, 1) := by decide +kernel
theorem dX5_jumps_34 : decode cX5_jumps 34 = .ok (.iconst 1, 1) := by decide +kernel
theorem dX5_jumps_35 : decode cX5_jumps 35 = .ok (.iadd, 1) := by decide +kernel
theorem dX5_jumps_36 : decode cX5_jumps 36 = .ok (.invokevirtual 146, 3) := by decide +kernel
theorem dX5_jumps_39 : decode cX5_jumps 39 = .ok (.aload_n 0, 1) := by decide +kernel
theorem dX5_jumps_40 : decode cX5_jumps 40 = .ok (.getfield 30, 3) := by decide +kernel
theorem dX5_jumps_43 : decode cX5_jumps 43 = .ok (.iconst 3, 1) := by decide +kernel
theorem dX5_jumps_44 : decode cX5_jumps 44 = .ok (.invokestatic 117, 3) := by decide +kernel
theorem dX5_jumps_47 : decode cX5_jumps 47 = .ok (.if_icmp .le 7, 3) := by decide +kernel
theorem dX5_jumps_50 : decode cX5_jumps 50 = .ok (.iconst 1, 1) := by decide +kernel
theorem dX5_jumps_51 : decode cX5_jumps 51 = .ok (.goto 4, 3) := by decide +kernel
theorem dX5_jumps_54 : decode cX5_jumps 54 = .ok (.iconst 0, 1) := by decide +kernel
theorem dX5_jumps_55 : decode cX5_jumps 55 = .ok (.ireturn, 1) := by decide +kernel
set_option maxRecDepth 100000 in
theorem ggX5_need_X5_within : GoodIn wsX5_need wsX5_within := goodIn_g _ [7] [0] rfl (by decide +kernel)
set_option maxRecDepth 100000 in
theorem gX5_need_X5_within : GoodIn wsX5_need (va_wsS RX5 91 yX5_within wsX5_within) := goodIn_app (goodIn_of _ (by decide +kernel)) ggX5_need_X5_within
set_option maxRecDepth 100000 in
theorem ggX5_need_X5_cell : GoodIn wsX5_need wsX5_cell := goodIn_g _ [10] [0] rfl (by decide +kernel)
set_option maxRecDepth 100000 in
theorem gX5_need_X5_cell : GoodIn wsX5_need (va_wsS RX5 117 yX5_cell wsX5_cell) := goodIn_app (goodIn_of _ (by decide +kernel)) ggX5_need_X5_cell
set_option maxRecDepth 100000 in
theorem ggX5_need_X5_needBy : GoodIn wsX5_need wsX5_needBy := goodIn_g _ [1, 4, 1, 0, 0, 3, 0, 0, 0, 0, 0, 13, 0, 0, 0, 0, 0, 0, 0, 0, 0, 0, 0, 0, 0, 0, 0, 0] [5, 0, 6, 7, 8, 9, 10, 2, 3, 1, 4, 11, 12, 13, 14, 15, 16, 17, 18, 19, 20, 21, 22, 23, 24, 25, 26, 27] rfl (by decide +kernel)
set_option maxRecDepth 100000 in
theorem gX5_need_X5_needBy : GoodIn wsX5_need (wsV RX5 157 RX5 yX5_needBy wsX5_needBy) := goodIn_app (goodIn_of _ (by decide +kernel)) ggX5_need_X5_needBy
set_option maxRecDepth 100000 in
theorem ggX5_need_X5_lacks : GoodIn wsX5_need wsX5_lacks := goodIn_g _ [1, 1, 2, 1, 0, 0, 0, 0, 0, 0, 0, 0, 0, 0, 0, 3, 0, 8, 0, 0, 0, 0, 0, 0, 0, 0, 0, 0, 0, 0, 0, 0, 0, 0] [15, 0, 16, 1, 6, 7, 8, 2, 9, 10, 11, 12, 13, 14, 3, 4, 5, 17, 18, 19, 20, 21, 22, 23, 24, 25, 26, 27, 28, 29, 30, 31, 32, 33] rfl (by decide +kernel)
set_option maxRecDepth 100000 in
theorem gX5_need_X5_lacks : GoodIn wsX5_need (wsV RX5 160 RX5 yX5_lacks wsX5_lacks) := goodIn_app (goodIn_of _ (by decide +kernel)) ggX5_need_X5_lacks
set_option maxRecDepth 100000 in
theorem ggX5_need_X5_tooHigh : GoodIn wsX5_need wsX5_tooHigh := goodIn_g _ [1, 1, 2, 1, 0, 0, 0, 0, 0, 0, 0, 0, 0, 0, 0, 4, 3, 4, 0, 0, 0, 0, 0, 0, 0, 0, 0, 0, 0, 0, 0, 0, 0, 0] [16, 0, 15, 1, 3, 4, 2, 5, 6, 7, 8, 9, 10, 11, 12, 13, 14, 17, 18, 19, 20, 21, 22, 23, 24, 25, 26, 27, 28, 29, 30, 31, 32, 33] rfl (by decide +kernel)
set_option maxRecDepth 100000 in
theorem gX5_need_X5_tooHigh : GoodIn wsX5_need (wsV RX5 163 RX5 yX5_tooHigh wsX5_tooHigh) := goodIn_app (goodIn_of _ (by decide +kernel)) ggX5_need_X5_tooHigh
set_option maxRecDepth 100000 in
theorem ggX5_need_X5_steep : GoodIn wsX5_need wsX5_steep := goodIn_g _ [1, 1, 2, 1, 0, 0, 5, 0, 0, 0, 4, 7, 0, 0, 0, 0, 0, 0, 0, 0, 0, 0, 0, 0, 0, 0, 0, 0, 0] [11, 0, 10, 6, 7, 8, 9, 1, 3, 4, 2, 5, 12, 13, 14, 15, 16, 17, 18, 19, 20, 21, 22, 23, 24, 25, 26, 27, 28] rfl (by decide +kernel)
set_option maxRecDepth 100000 in
theorem gX5_need_X5_steep : GoodIn wsX5_need (wsV RX5 166 RX5 yX5_steep wsX5_steep) := goodIn_app (goodIn_of _ (by decide +kernel)) ggX5_need_X5_steep
theorem dX5_need_0 : decode cX5_need 0 = .ok (.iload_n 1, 1) := by decide +kernel
theorem dX5_need_1 : decode cX5_need 1 = .ok (.iconst 1, 1) := by decide +kernel
theorem dX5_need_2 : decode cX5_need 2 = .ok (.aload_n 0, 1) := by decide +kernel
theorem dX5_need_3 : decode cX5_need 3 = .ok (.getfield 41, 3) := by decide +kernel
theorem dX5_need_6 : decode cX5_need 6 = .ok (.getfield 128, 3) := by decide +kernel
theorem dX5_need_9 : decode cX5_need 9 = .ok (.invokestatic 91, 3) := by decide +kernel
theorem dX5_need_12 : decode cX5_need 12 = .ok (.ifCond .ne 6, 3) := by decide +kernel
theorem dX5_need_15 : decode cX5_need 15 = .ok (.bipush (-2), 2) := by decide +kernel
theorem dX5_need_17 : decode cX5_need 17 = .ok (.ireturn, 1) := by decide +kernel
theorem dX5_need_18 : decode cX5_need 18 = .ok (.aload_n 0, 1) := by decide +kernel
theorem dX5_need_19 : decode cX5_need 19 = .ok (.getfield 30, 3) := by decide +kernel
theorem dX5_need_22 : decode cX5_need 22 = .ok (.iconst 5, 1) := by decide +kernel
theorem dX5_need_23 : decode cX5_need 23 = .ok (.invokestatic 117, 3) := by decide +kernel
theorem dX5_need_26 : decode cX5_need 26 = .ok (.istore_n 3, 1) := by decide +kernel
theorem dX5_need_27 : decode cX5_need 27 = .ok (.iload_n 2, 1) := by decide +kernel
theorem dX5_need_28 : decode cX5_need 28 = .ok (.tableswitch 83 0 3 #[32, 39, 54, 69], 32) := by decide +kernel
theorem dX5_need_60 : decode cX5_need 60 = .ok (.aload_n 0, 1) := by decide +kernel
theorem dX5_need_61 : decode cX5_need 61 = .ok (.iload_n 1, 1) := by decide +kernel
theorem dX5_need_62 : decode cX5_need 62 = .ok (.iload_n 3, 1) := by decide +kernel
theorem dX5_need_63 : decode cX5_need 63 = .ok (.invokevirtual 157, 3) := by decide +kernel
theorem dX5_need_66 : decode cX5_need 66 = .ok (.ireturn, 1) := by decide +kernel
theorem dX5_need_67 : decode cX5_need 67 = .ok (.aload_n 0, 1) := by decide +kernel
theorem dX5_need_68 : decode cX5_need 68 = .ok (.iload_n 1, 1) := by decide +kernel
theorem dX5_need_69 : decode cX5_need 69 = .ok (.iload_n 3, 1) := by decide +kernel
theorem dX5_need_70 : decode cX5_need 70 = .ok (.invokevirtual 160, 3) := by decide +kernel
theorem dX5_need_73 : decode cX5_need 73 = .ok (.ifCond .eq 7, 3) := by decide +kernel
theorem dX5_need_76 : decode cX5_need 76 = .ok (.iconst 1, 1) := by decide +kernel
theorem dX5_need_77 : decode cX5_need 77 = .ok (.goto 4, 3) := by decide +kernel
theorem dX5_need_80 : decode cX5_need 80 = .ok (.iconst 0, 1) := by decide +kernel
theorem dX5_need_81 : decode cX5_need 81 = .ok (.ireturn, 1) := by decide +kernel
theorem dX5_need_82 : decode cX5_need 82 = .ok (.aload_n 0, 1) := by decide +kernel
theorem dX5_need_83 : decode cX5_need 83 = .ok (.iload_n 1, 1) := by decide +kernel
theorem dX5_need_84 : decode cX5_need 84 = .ok (.iload_n 3, 1) := by decide +kernel
theorem dX5_need_85 : decode cX5_need 85 = .ok (.invokevirtual 163, 3) := by decide +kernel
theorem dX5_need_88 : decode cX5_need 88 = .ok (.ifCond .eq 7, 3) := by decide +kernel
theorem dX5_need_91 : decode cX5_need 91 = .ok (.iconst 1, 1) := by decide +kernel
theorem dX5_need_92 : decode cX5_need 92 = .ok (.goto 4, 3) := by decide +kernel
theorem dX5_need_95 : decode cX5_need 95 = .ok (.iconst 0, 1) := by decide +kernel
theorem dX5_need_96 : decode cX5_need 96 = .ok (.ireturn, 1) := by decide +kernel
theorem dX5_need_97 : decode cX5_need 97 = .ok (.aload_n 0, 1) := by decide +kernel
theorem dX5_need_98 : decode cX5_need 98 = .ok (.iload_n 1, 1) := by decide +kernel
theorem dX5_need_99 : decode cX5_need 99 = .ok (.invokevirtual 166, 3) := by decide +kernel
theorem dX5_need_102 : decode cX5_need 102 = .ok (.ifCond .eq 7, 3) := by decide +kernel
theorem dX5_need_105 : decode cX5_need 105 = .ok (.iconst 1, 1) := by decide +kernel
theorem dX5_need_106 : decode cX5_need 106 = .ok (.goto 4, 3) := by decide +kernel
theorem dX5_need_109 : decode cX5_need 109 = .ok (.iconst 0, 1) := by decide +kernel
theorem dX5_need_110 : decode cX5_need 110 = .ok (.ireturn, 1) := by decide +kernel
theorem dX5_need_111 : decode cX5_need 111 = .ok (.bipush (-2), 2) := by decide +kernel
theorem dX5_need_113 : decode cX5_need 113 = .ok (.ireturn, 1) := by decide +kernel
set_option maxRecDepth 100000 in
theorem ggX5_fault_X5_firstFault : GoodIn wsX5_fault wsX5_firstFault := goodIn_g _ [5, 0, 0, 0, 0, 0, 0, 0, 0, 0, 0, 0, 0, 0, 0, 0, 0, 0, 0, 0, 0, 0, 0, 0, 0, 0, 0, 0, 0, 0, 0, 0, 0, 0, 23, 0, 0, 0, 0, 0, 0, 0, 0, 0, 0, 0, 0, 0, 0, 0, 0] [1, 2, 3, 4, 5, 6, 0, 7, 8, 9, 10, 11, 12, 13, 14, 15, 16, 17, 18, 19, 20, 21, 22, 23, 24, 25, 26, 27, 28, 29, 30, 31, 32, 33, 34, 35, 36, 37, 38, 39, 40, 41, 42, 43, 44, 45, 46, 47, 48, 49, 50] rfl (by decide +kernel)
set_option maxRecDepth 100000 in
theorem gX5_fault_X5_firstFault : GoodIn wsX5_fault (wsV RX5 169 RX5 yX5_firstFault wsX5_firstFault) := goodIn_app (goodIn_of _ (by decide +kernel)) ggX5_fault_X5_firstFault
set_option maxRecDepth 100000 in
theorem ggX5_fault_X5_whyAt : GoodIn wsX5_fault wsX5_whyAt := goodIn_g _ [5, 1, 4, 0, 0, 0, 0, 0, 0, 0, 0, 0, 0, 0, 0, 0, 0, 0, 0, 0, 0, 0, 0, 0, 0, 0, 0, 0, 0, 23, 0, 0, 0, 0, 0, 0, 0, 0, 0, 0, 0, 0, 0, 0, 0, 0] [2, 3, 4, 5, 0, 6, 7, 8, 9, 10, 1, 11, 12, 13, 14, 15, 16, 17, 18, 19, 20, 21, 22, 23, 24, 25, 26, 27, 28, 29, 30, 31, 32, 33, 34, 35, 36, 37, 38, 39, 40, 41, 42, 43, 44, 45] rfl (by decide +kernel)
set_option maxRecDepth 100000 in
theorem gX5_fault_X5_whyAt : GoodIn wsX5_fault (wsV RX5 173 RX5 yX5_whyAt wsX5_whyAt) := goodIn_app (goodIn_of _ (by decide +kernel)) ggX5_fault_X5_whyAt
set_option maxRecDepth 100000 in
theorem ggX5_fault_X5_rootOf : GoodIn wsX5_fault wsX5_rootOf := goodIn_g _ [5, 1, 5, 0, 0, 0, 9, 0, 0, 0, 0, 11, 0, 0, 0, 0, 0, 0, 0, 0, 0, 0, 0, 0, 0, 0, 0, 0, 0, 0, 0, 0, 0, 0, 0, 0, 0, 0, 0, 0, 0, 0, 0, 0, 0, 0, 0, 0, 0, 0] [11, 1, 12, 13, 7, 8, 9, 10, 6, 2, 3, 4, 0, 5, 14, 15, 16, 17, 18, 19, 20, 21, 22, 23, 24, 25, 26, 27, 28, 29, 30, 31, 32, 33, 34, 35, 36, 37, 38, 39, 40, 41, 42, 43, 44, 45, 46, 47, 48, 49] rfl (by decide +kernel)
set_option maxRecDepth 100000 in
theorem gX5_fault_X5_rootOf : GoodIn wsX5_fault (wsV RX5 176 RX5 yX5_rootOf wsX5_rootOf) := goodIn_app (goodIn_of _ (by decide +kernel)) ggX5_fault_X5_rootOf
set_option maxRecDepth 100000 in
theorem ggX5_fault_X5_cell : GoodIn wsX5_fault wsX5_cell := goodIn_g _ [16] [0] rfl (by decide +kernel)
set_option maxRecDepth 100000 in
theorem gX5_fault_X5_cell : GoodIn wsX5_fault (va_wsS RX5 117 yX5_cell wsX5_cell) := goodIn_app (goodIn_of _ (by decide +kernel)) ggX5_fault_X5_cell
theorem dX5_fault_0 : decode cX5_fault 0 = .ok (.aload_n 0, 1) := by decide +kernel
theorem dX5_fault_1 : decode cX5_fault 1 = .ok (.invokevirtual 169, 3) := by decide +kernel
theorem dX5_fault_4 : decode cX5_fault 4 = .ok (.istore_n 2, 1) := by decide +kernel
theorem dX5_fault_5 : decode cX5_fault 5 = .ok (.iload_n 2, 1) := by decide +kernel
theorem dX5_fault_6 : decode cX5_fault 6 = .ok (.iconst (-1), 1) := by decide +kernel
theorem dX5_fault_7 : decode cX5_fault 7 = .ok (.if_icmp .ne 7, 3) := by decide +kernel
theorem dX5_fault_10 : decode cX5_fault 10 = .ok (.iconst 0, 1) := by decide +kernel
theorem dX5_fault_11 : decode cX5_fault 11 = .ok (.goto 8, 3) := by decide +kernel
theorem dX5_fault_14 : decode cX5_fault 14 = .ok (.aload_n 0, 1) := by decide +kernel
theorem dX5_fault_15 : decode cX5_fault 15 = .ok (.iload_n 2, 1) := by decide +kernel
theorem dX5_fault_16 : decode cX5_fault 16 = .ok (.invokevirtual 173, 3) := by decide +kernel
theorem dX5_fault_19 : decode cX5_fault 19 = .ok (.istore_n 3, 1) := by decide +kernel
theorem dX5_fault_20 : decode cX5_fault 20 = .ok (.iload_n 2, 1) := by decide +kernel
theorem dX5_fault_21 : decode cX5_fault 21 = .ok (.iconst (-1), 1) := by decide +kernel
theorem dX5_fault_22 : decode cX5_fault 22 = .ok (.if_icmp .ne 7, 3) := by decide +kernel
theorem dX5_fault_25 : decode cX5_fault 25 = .ok (.iconst 0, 1) := by decide +kernel
theorem dX5_fault_26 : decode cX5_fault 26 = .ok (.goto 9, 3) := by decide +kernel
theorem dX5_fault_29 : decode cX5_fault 29 = .ok (.aload_n 0, 1) := by decide +kernel
theorem dX5_fault_30 : decode cX5_fault 30 = .ok (.iload_n 2, 1) := by decide +kernel
theorem dX5_fault_31 : decode cX5_fault 31 = .ok (.iload_n 3, 1) := by decide +kernel
theorem dX5_fault_32 : decode cX5_fault 32 = .ok (.invokevirtual 176, 3) := by decide +kernel
theorem dX5_fault_35 : decode cX5_fault 35 = .ok (.istore 4, 2) := by decide +kernel
theorem dX5_fault_37 : decode cX5_fault 37 = .ok (.iload_n 1, 1) := by decide +kernel
theorem dX5_fault_38 : decode cX5_fault 38 = .ok (.tableswitch 46 0 3 #[30, 32, 34, 43], 30) := by decide +kernel
theorem dX5_fault_68 : decode cX5_fault 68 = .ok (.iload_n 2, 1) := by decide +kernel
theorem dX5_fault_69 : decode cX5_fault 69 = .ok (.ireturn, 1) := by decide +kernel
theorem dX5_fault_70 : decode cX5_fault 70 = .ok (.iload_n 3, 1) := by decide +kernel
theorem dX5_fault_71 : decode cX5_fault 71 = .ok (.ireturn, 1) := by decide +kernel
theorem dX5_fault_72 : decode cX5_fault 72 = .ok (.getstatic 179, 3) := by decide +kernel
theorem dX5_fault_75 : decode cX5_fault 75 = .ok (.iload 4, 2) := by decide +kernel
theorem dX5_fault_77 : decode cX5_fault 77 = .ok (.invokestatic 117, 3) := by decide +kernel
theorem dX5_fault_80 : decode cX5_fault 80 = .ok (.ireturn, 1) := by decide +kernel
theorem dX5_fault_81 : decode cX5_fault 81 = .ok (.iload 4, 2) := by decide +kernel
theorem dX5_fault_83 : decode cX5_fault 83 = .ok (.ireturn, 1) := by decide +kernel
theorem dX5_fault_84 : decode cX5_fault 84 = .ok (.bipush (-2), 2) := by decide +kernel
theorem dX5_fault_86 : decode cX5_fault 86 = .ok (.ireturn, 1) := by decide +kernel
set_option maxRecDepth 100000 in
theorem ggX5_may_X5_within : GoodIn wsX5_may wsX5_within := goodIn_g _ [6] [0] rfl (by decide +kernel)
set_option maxRecDepth 100000 in
theorem gX5_may_X5_within : GoodIn wsX5_may (va_wsS RX5 91 yX5_within wsX5_within) := goodIn_app (goodIn_of _ (by decide +kernel)) ggX5_may_X5_within
set_option maxRecDepth 100000 in
theorem ggX5_may_X5_runs : GoodIn wsX5_may wsX5_runs := goodIn_g _ [1, 3, 4, 0, 0, 0, 0, 0, 0, 0, 0, 0, 0, 0, 0, 0, 0, 0, 0, 0, 0, 0, 0, 0, 0, 0, 0, 0, 0, 0, 0, 0, 0, 0, 0, 0, 0, 0, 0, 0, 0, 0] [2, 3, 4, 5, 1, 6, 0, 7, 8, 9, 10, 11, 12, 13, 14, 15, 16, 17, 18, 19, 20, 21, 22, 23, 24, 25, 26, 27, 28, 29, 30, 31, 32, 33, 34, 35, 36, 37, 38, 39, 40, 41] rfl (by decide +kernel)
set_option maxRecDepth 100000 in
theorem gX5_may_X5_runs : GoodIn wsX5_may (wsV RX5 182 RX5 yX5_runs wsX5_runs) := goodIn_app (goodIn_of _ (by decide +kernel)) ggX5_may_X5_runs
theorem dX5_may_0 : decode cX5_may 0 = .ok (.iload_n 1, 1) := by decide +kernel
theorem dX5_may_1 : decode cX5_may 1 = .ok (.iconst 1, 1) := by decide +kernel
theorem dX5_may_2 : decode cX5_may 2 = .ok (.aload_n 0, 1) := by decide +kernel
theorem dX5_may_3 : decode cX5_may 3 = .ok (.getfield 41, 3) := by decide +kernel
theorem dX5_may_6 : decode cX5_may 6 = .ok (.getfield 128, 3) := by decide +kernel
theorem dX5_may_9 : decode cX5_may 9 = .ok (.invokestatic 91, 3) := by decide +kernel
theorem dX5_may_12 : decode cX5_may 12 = .ok (.ifCond .ne 6, 3) := by decide +kernel
theorem dX5_may_15 : decode cX5_may 15 = .ok (.bipush (-2), 2) := by decide +kernel
theorem dX5_may_17 : decode cX5_may 17 = .ok (.ireturn, 1) := by decide +kernel
theorem dX5_may_18 : decode cX5_may 18 = .ok (.sipush 200, 3) := by decide +kernel
theorem dX5_may_21 : decode cX5_may 21 = .ok (.istore_n 2, 1) := by decide +kernel
theorem dX5_may_22 : decode cX5_may 22 = .ok (.iload_n 2, 1) := by decide +kernel
theorem dX5_may_23 : decode cX5_may 23 = .ok (.ifCond .lt 20, 3) := by decide +kernel
theorem dX5_may_26 : decode cX5_may 26 = .ok (.aload_n 0, 1) := by decide +kernel
theorem dX5_may_27 : decode cX5_may 27 = .ok (.iload_n 1, 1) := by decide +kernel
theorem dX5_may_28 : decode cX5_may 28 = .ok (.iload_n 2, 1) := by decide +kernel
theorem dX5_may_29 : decode cX5_may 29 = .ok (.invokevirtual 182, 3) := by decide +kernel
theorem dX5_may_32 : decode cX5_may 32 = .ok (.ifCond .eq 5, 3) := by decide +kernel
theorem dX5_may_35 : decode cX5_may 35 = .ok (.iload_n 2, 1) := by decide +kernel
theorem dX5_may_36 : decode cX5_may 36 = .ok (.ireturn, 1) := by decide +kernel
theorem dX5_may_37 : decode cX5_may 37 = .ok (.iinc 2 (-5), 3) := by decide +kernel
theorem dX5_may_40 : decode cX5_may 40 = .ok (.goto (-18), 3) := by decide +kernel
theorem dX5_may_43 : decode cX5_may 43 = .ok (.iconst (-1), 1) := by decide +kernel
theorem dX5_may_44 : decode cX5_may 44 = .ok (.ireturn, 1) := by decide +kernel
set_option maxRecDepth 100000 in
theorem ggX5_limit_X5_runsAll : GoodIn wsX5_limit wsX5_runsAll := goodIn_g _ [4, 0, 0, 0, 0, 0, 0, 0, 0, 0, 0, 0, 0, 0, 0, 0, 0, 0, 0, 0, 0, 0, 0, 0, 0, 0, 0, 0, 0, 0, 0, 0, 0, 0, 0, 0, 0, 0, 0, 0, 0, 0, 0, 0, 0, 0, 0] [1, 2, 3, 4, 5, 6, 0, 7, 8, 9, 10, 11, 12, 13, 14, 15, 16, 17, 18, 19, 20, 21, 22, 23, 24, 25, 26, 27, 28, 29, 30, 31, 32, 33, 34, 35, 36, 37, 38, 39, 40, 41, 42, 43, 44, 45, 46] rfl (by decide +kernel)
set_option maxRecDepth 100000 in
theorem gX5_limit_X5_runsAll : GoodIn wsX5_limit (wsV RX5 185 RX5 yX5_runsAll wsX5_runsAll) := goodIn_app (goodIn_of _ (by decide +kernel)) ggX5_limit_X5_runsAll
theorem dX5_limit_0 : decode cX5_limit 0 = .ok (.sipush 200, 3) := by decide +kernel
theorem dX5_limit_3 : decode cX5_limit 3 = .ok (.istore_n 1, 1) := by decide +kernel
theorem dX5_limit_4 : decode cX5_limit 4 = .ok (.iload_n 1, 1) := by decide +kernel
theorem dX5_limit_5 : decode cX5_limit 5 = .ok (.ifCond .lt 19, 3) := by decide +kernel
theorem dX5_limit_8 : decode cX5_limit 8 = .ok (.aload_n 0, 1) := by decide +kernel
theorem dX5_limit_9 : decode cX5_limit 9 = .ok (.iload_n 1, 1) := by decide +kernel
theorem dX5_limit_10 : decode cX5_limit 10 = .ok (.invokevirtual 185, 3) := by decide +kernel
theorem dX5_limit_13 : decode cX5_limit 13 = .ok (.ifCond .eq 5, 3) := by decide +kernel
theorem dX5_limit_16 : decode cX5_limit 16 = .ok (.iload_n 1, 1) := by decide +kernel
theorem dX5_limit_17 : decode cX5_limit 17 = .ok (.ireturn, 1) := by decide +kernel
theorem dX5_limit_18 : decode cX5_limit 18 = .ok (.iinc 1 (-5), 3) := by decide +kernel
theorem dX5_limit_21 : decode cX5_limit 21 = .ok (.goto (-17), 3) := by decide +kernel
theorem dX5_limit_24 : decode cX5_limit 24 = .ok (.iconst (-1), 1) := by decide +kernel
theorem dX5_limit_25 : decode cX5_limit 25 = .ok (.ireturn, 1) := by decide +kernel
set_option maxRecDepth 100000 in
theorem ggX5_least_X2_has : GoodIn wsX5_least wsX2_has := goodIn_g _ [7, 0, 74, 0] [0, 1, 2, 3] rfl (by decide +kernel)
set_option maxRecDepth 100000 in
theorem gX5_least_X2_has : GoodIn wsX5_least (wsV RX5 87 RX2 yX2_has wsX2_has) := goodIn_app (goodIn_of _ (by decide +kernel)) ggX5_least_X2_has
set_option maxRecDepth 100000 in
theorem ggX5_least_X2_read : GoodIn wsX5_least wsX2_read := goodIn_g _ [8, 3, 0, 0, 0, 0, 66, 0] [1, 0, 2, 3, 4, 5, 6, 7] rfl (by decide +kernel)
set_option maxRecDepth 100000 in
theorem gX5_least_X2_read : GoodIn wsX5_least (wsV RX5 95 RX2 yX2_read wsX2_read) := goodIn_app (goodIn_of _ (by decide +kernel)) ggX5_least_X2_read
set_option maxRecDepth 100000 in
theorem ggX5_least_X2_write : GoodIn wsX5_least wsX2_write := goodIn_g _ [4, 0, 0, 0, 0, 4, 1, 4, 0, 0, 0, 59, 0] [7, 5, 8, 0, 1, 2, 3, 4, 9, 6, 10, 11, 12] rfl (by decide +kernel)
set_option maxRecDepth 100000 in
theorem gX5_least_X2_write : GoodIn wsX5_least (wsV RX5 80 RX2 yX2_write wsX2_write) := goodIn_app (goodIn_of _ (by decide +kernel)) ggX5_least_X2_write
set_option maxRecDepth 100000 in
theorem ggX5_least_X0_fill : GoodIn wsX5_least wsX0_fill := goodIn_g _ [4, 0, 0, 0, 0, 1, 0, 0, 0, 0, 0, 0, 5, 0, 3, 0, 0, 0, 0, 0, 0, 0, 0, 0, 0, 0, 0, 0, 0, 0, 0, 0, 0, 0, 0, 0, 34, 0, 0, 0, 0, 0, 0, 0, 0, 0] [15, 16, 17, 18, 19, 20, 0, 1, 2, 3, 4, 21, 5, 6, 7, 8, 9, 10, 11, 22, 23, 24, 14, 25, 26, 27, 28, 29, 30, 12, 13, 31, 32, 33, 34, 35, 38, 39, 40, 41, 42, 43, 44, 45, 36, 37] rfl (by decide +kernel)
set_option maxRecDepth 100000 in
theorem gX5_least_X0_fill : GoodIn wsX5_least (wsV RX5 188 RX0 yX0_fill wsX0_fill) := goodIn_app (goodIn_of _ (by decide +kernel)) ggX5_least_X0_fill
set_option maxRecDepth 100000 in
theorem ggX5_least_X5_lacksWithin : GoodIn wsX5_least wsX5_lacksWithin := goodIn_g _ [2, 3, 1, 1, 0, 0, 0, 0, 0, 0, 10, 1, 4, 4, 0, 0, 0, 0, 8, 0, 0, 0, 0, 0, 0, 0, 0, 0, 0, 0, 0, 0, 0, 0, 0, 0, 0, 0, 0, 0, 0, 0, 0, 0, 0, 0, 0, 0, 0, 0, 0, 0, 0, 0, 0, 0, 0, 0, 0] [18, 19, 0, 20, 7, 8, 9, 21, 22, 23, 10, 24, 11, 13, 14, 15, 16, 17, 12, 3, 4, 1, 5, 2, 6, 25, 26, 27, 28, 29, 30, 31, 32, 33, 34, 35, 36, 37, 38, 39, 40, 41, 42, 43, 44, 45, 46, 47, 48, 51, 52, 53, 54, 55, 56, 57, 58, 49, 50] rfl (by decide +kernel)
set_option maxRecDepth 100000 in
theorem gX5_least_X5_lacksWithin : GoodIn wsX5_least (wsV RX5 192 RX5 yX5_lacksWithin wsX5_lacksWithin) := goodIn_app (goodIn_of _ (by decide +kernel)) ggX5_least_X5_lacksWithin
theorem dX5_least_0 : decode cX5_least 0 = .ok (.aload_n 0, 1) := by decide +kernel
theorem dX5_least_1 : decode cX5_least 1 = .ok (.getfield 12, 3) := by decide +kernel
theorem dX5_least_4 : decode cX5_least 4 = .ok (.iload_n 1, 1) := by decide +kernel
theorem dX5_least_5 : decode cX5_least 5 = .ok (.invokevirtual 87, 3) := by decide +kernel
theorem dX5_least_8 : decode cX5_least 8 = .ok (.ifCond .ne 6, 3) := by decide +kernel
theorem dX5_least_11 : decode cX5_least 11 = .ok (.bipush (-2), 2) := by decide +kernel
theorem dX5_least_13 : decode cX5_least 13 = .ok (.ireturn, 1) := by decide +kernel
theorem dX5_least_14 : decode cX5_least 14 = .ok (.aload_n 0, 1) := by decide +kernel
theorem dX5_least_15 : decode cX5_least 15 = .ok (.getfield 12, 3) := by decide +kernel
theorem dX5_least_18 : decode cX5_least 18 = .ok (.iload_n 1, 1) := by decide +kernel
theorem dX5_least_19 : decode cX5_least 19 = .ok (.iconst 3, 1) := by decide +kernel
theorem dX5_least_20 : decode cX5_least 20 = .ok (.invokevirtual 95, 3) := by decide +kernel
theorem dX5_least_23 : decode cX5_least 23 = .ok (.istore_n 2, 1) := by decide +kernel
theorem dX5_least_24 : decode cX5_least 24 = .ok (.iconst (-1), 1) := by decide +kernel
theorem dX5_least_25 : decode cX5_least 25 = .ok (.istore_n 3, 1) := by decide +kernel
theorem dX5_least_26 : decode cX5_least 26 = .ok (.iconst 0, 1) := by decide +kernel
theorem dX5_least_27 : decode cX5_least 27 = .ok (.istore 4, 2) := by decide +kernel
theorem dX5_least_29 : decode cX5_least 29 = .ok (.iload 4, 2) := by decide +kernel
theorem dX5_least_31 : decode cX5_least 31 = .ok (.sipush 160, 3) := by decide +kernel
theorem dX5_least_34 : decode cX5_least 34 = .ok (.if_icmp .gt 44, 3) := by decide +kernel
theorem dX5_least_37 : decode cX5_least 37 = .ok (.iload_n 3, 1) := by decide +kernel
theorem dX5_least_38 : decode cX5_least 38 = .ok (.iconst (-1), 1) := by decide +kernel
theorem dX5_least_39 : decode cX5_least 39 = .ok (.if_icmp .ne 39, 3) := by decide +kernel
theorem dX5_least_42 : decode cX5_least 42 = .ok (.aload_n 0, 1) := by decide +kernel
theorem dX5_least_43 : decode cX5_least 43 = .ok (.getfield 12, 3) := by decide +kernel
theorem dX5_least_46 : decode cX5_least 46 = .ok (.iload_n 1, 1) := by decide +kernel
theorem dX5_least_47 : decode cX5_least 47 = .ok (.iconst 3, 1) := by decide +kernel
theorem dX5_least_48 : decode cX5_least 48 = .ok (.iload 4, 2) := by decide +kernel
theorem dX5_least_50 : decode cX5_least 50 = .ok (.invokevirtual 80, 3) := by decide +kernel
theorem dX5_least_53 : decode cX5_least 53 = .ok (.aload_n 0, 1) := by decide +kernel
theorem dX5_least_54 : decode cX5_least 54 = .ok (.getfield 41, 3) := by decide +kernel
theorem dX5_least_57 : decode cX5_least 57 = .ok (.iload_n 1, 1) := by decide +kernel
theorem dX5_least_58 : decode cX5_least 58 = .ok (.invokevirtual 188, 3) := by decide +kernel
theorem dX5_least_61 : decode cX5_least 61 = .ok (.aload_n 0, 1) := by decide +kernel
theorem dX5_least_62 : decode cX5_least 62 = .ok (.iload_n 1, 1) := by decide +kernel
theorem dX5_least_63 : decode cX5_least 63 = .ok (.invokevirtual 192, 3) := by decide +kernel
theorem dX5_least_66 : decode cX5_least 66 = .ok (.ifCond .ne 6, 3) := by decide +kernel
theorem dX5_least_69 : decode cX5_least 69 = .ok (.iload 4, 2) := by decide +kernel
theorem dX5_least_71 : decode cX5_least 71 = .ok (.istore_n 3, 1) := by decide +kernel
theorem dX5_least_72 : decode cX5_least 72 = .ok (.iinc 4 1, 3) := by decide +kernel
theorem dX5_least_75 : decode cX5_least 75 = .ok (.goto (-46), 3) := by decide +kernel
theorem dX5_least_78 : decode cX5_least 78 = .ok (.aload_n 0, 1) := by decide +kernel
theorem dX5_least_79 : decode cX5_least 79 = .ok (.getfield 12, 3) := by decide +kernel
theorem dX5_least_82 : decode cX5_least 82 = .ok (.iload_n 1, 1) := by decide +kernel
theorem dX5_least_83 : decode cX5_least 83 = .ok (.iconst 3, 1) := by decide +kernel
theorem dX5_least_84 : decode cX5_least 84 = .ok (.iload_n 2, 1) := by decide +kernel
theorem dX5_least_85 : decode cX5_least 85 = .ok (.invokevirtual 80, 3) := by decide +kernel
theorem dX5_least_88 : decode cX5_least 88 = .ok (.aload_n 0, 1) := by decide +kernel
theorem dX5_least_89 : decode cX5_least 89 = .ok (.getfield 41, 3) := by decide +kernel
theorem dX5_least_92 : decode cX5_least 92 = .ok (.iload_n 1, 1) := by decide +kernel
theorem dX5_least_93 : decode cX5_least 93 = .ok (.invokevirtual 188, 3) := by decide +kernel
theorem dX5_least_96 : decode cX5_least 96 = .ok (.iload_n 3, 1) := by decide +kernel
theorem dX5_least_97 : decode cX5_least 97 = .ok (.ireturn, 1) := by decide +kernel
set_option maxRecDepth 100000 in
theorem ggX5_needBy_X5_cell : GoodIn wsX5_needBy wsX5_cell := goodIn_g _ [10] [0] rfl (by decide +kernel)
set_option maxRecDepth 100000 in
theorem gX5_needBy_X5_cell : GoodIn wsX5_needBy (va_wsS RX5 117 yX5_cell wsX5_cell) := goodIn_app (goodIn_of _ (by decide +kernel)) ggX5_needBy_X5_cell
theorem dX5_needBy_0 : decode cX5_needBy 0 = .ok (.iload_n 2, 1) := by decide +kernel
theorem dX5_needBy_1 : decode cX5_needBy 1 = .ok (.iload_n 2, 1) := by decide +kernel
theorem dX5_needBy_2 : decode cX5_needBy 2 = .ok (.imul, 1) := by decide +kernel
theorem dX5_needBy_3 : decode cX5_needBy 3 = .ok (.aload_n 0, 1) := by decide +kernel
theorem dX5_needBy_4 : decode cX5_needBy 4 = .ok (.getfield 41, 3) := by decide +kernel
theorem dX5_needBy_7 : decode cX5_needBy 7 = .ok (.getfield 131, 3) := by decide +kernel
theorem dX5_needBy_10 : decode cX5_needBy 10 = .ok (.iload_n 1, 1) := by decide +kernel
theorem dX5_needBy_11 : decode cX5_needBy 11 = .ok (.invokestatic 117, 3) := by decide +kernel
theorem dX5_needBy_14 : decode cX5_needBy 14 = .ok (.invokestatic 152, 3) := by decide +kernel
theorem dX5_needBy_17 : decode cX5_needBy 17 = .ok (.imul, 1) := by decide +kernel
theorem dX5_needBy_18 : decode cX5_needBy 18 = .ok (.sipush 1000, 3) := by decide +kernel
theorem dX5_needBy_21 : decode cX5_needBy 21 = .ok (.idiv, 1) := by decide +kernel
theorem dX5_needBy_22 : decode cX5_needBy 22 = .ok (.ireturn, 1) := by decide +kernel
set_option maxRecDepth 100000 in
theorem ggX5_lacks_X5_needBy : GoodIn wsX5_lacks wsX5_needBy := goodIn_g _ [1, 5, 0, 0, 0, 0, 0, 0, 0, 0, 0, 0, 0, 0, 0, 0, 0, 0, 0, 0, 0, 0, 0, 0, 0, 0, 0, 0] [2, 0, 3, 4, 5, 6, 7, 8, 9, 1, 10, 11, 12, 13, 14, 15, 16, 17, 18, 19, 20, 21, 22, 23, 24, 25, 26, 27] rfl (by decide +kernel)
set_option maxRecDepth 100000 in
theorem gX5_lacks_X5_needBy : GoodIn wsX5_lacks (wsV RX5 157 RX5 yX5_needBy wsX5_needBy) := goodIn_app (goodIn_of _ (by decide +kernel)) ggX5_lacks_X5_needBy
set_option maxRecDepth 100000 in
theorem ggX5_lacks_X5_cell : GoodIn wsX5_lacks wsX5_cell := goodIn_g _ [16] [0] rfl (by decide +kernel)
set_option maxRecDepth 100000 in
theorem gX5_lacks_X5_cell : GoodIn wsX5_lacks (va_wsS RX5 117 yX5_cell wsX5_cell) := goodIn_app (goodIn_of _ (by decide +kernel)) ggX5_lacks_X5_cell
theorem dX5_lacks_0 : decode cX5_lacks 0 = .ok (.aload_n 0, 1) := by decide +kernel
theorem dX5_lacks_1 : decode cX5_lacks 1 = .ok (.iload_n 1, 1) := by decide +kernel
theorem dX5_lacks_2 : decode cX5_lacks 2 = .ok (.iload_n 2, 1) := by decide +kernel
theorem dX5_lacks_3 : decode cX5_lacks 3 = .ok (.invokevirtual 157, 3) := by decide +kernel
theorem dX5_lacks_6 : decode cX5_lacks 6 = .ok (.aload_n 0, 1) := by decide +kernel
theorem dX5_lacks_7 : decode cX5_lacks 7 = .ok (.getfield 41, 3) := by decide +kernel
theorem dX5_lacks_10 : decode cX5_lacks 10 = .ok (.getfield 134, 3) := by decide +kernel
theorem dX5_lacks_13 : decode cX5_lacks 13 = .ok (.iload_n 1, 1) := by decide +kernel
theorem dX5_lacks_14 : decode cX5_lacks 14 = .ok (.invokestatic 117, 3) := by decide +kernel
theorem dX5_lacks_17 : decode cX5_lacks 17 = .ok (.isub, 1) := by decide +kernel
theorem dX5_lacks_18 : decode cX5_lacks 18 = .ok (.aload_n 0, 1) := by decide +kernel
theorem dX5_lacks_19 : decode cX5_lacks 19 = .ok (.getfield 30, 3) := by decide +kernel
theorem dX5_lacks_22 : decode cX5_lacks 22 = .ok (.iconst 1, 1) := by decide +kernel
theorem dX5_lacks_23 : decode cX5_lacks 23 = .ok (.invokestatic 117, 3) := by decide +kernel
theorem dX5_lacks_26 : decode cX5_lacks 26 = .ok (.if_icmp .le 7, 3) := by decide +kernel
theorem dX5_lacks_29 : decode cX5_lacks 29 = .ok (.iconst 1, 1) := by decide +kernel
theorem dX5_lacks_30 : decode cX5_lacks 30 = .ok (.goto 4, 3) := by decide +kernel
theorem dX5_lacks_33 : decode cX5_lacks 33 = .ok (.iconst 0, 1) := by decide +kernel
theorem dX5_lacks_34 : decode cX5_lacks 34 = .ok (.ireturn, 1) := by decide +kernel
set_option maxRecDepth 100000 in
theorem ggX5_tooHigh_X5_cell : GoodIn wsX5_tooHigh wsX5_cell := goodIn_g _ [7] [0] rfl (by decide +kernel)
set_option maxRecDepth 100000 in
theorem gX5_tooHigh_X5_cell : GoodIn wsX5_tooHigh (va_wsS RX5 117 yX5_cell wsX5_cell) := goodIn_app (goodIn_of _ (by decide +kernel)) ggX5_tooHigh_X5_cell
set_option maxRecDepth 100000 in
theorem ggX5_tooHigh_X5_needBy : GoodIn wsX5_tooHigh wsX5_needBy := goodIn_g _ [1, 2, 0, 0, 0, 3, 0, 0, 0, 0, 0, 0, 0, 0, 0, 0, 0, 0, 0, 0, 0, 0, 0, 0, 0, 0, 0, 0] [5, 0, 6, 7, 8, 9, 10, 1, 2, 3, 4, 11, 12, 13, 14, 15, 16, 17, 18, 19, 20, 21, 22, 23, 24, 25, 26, 27] rfl (by decide +kernel)
set_option maxRecDepth 100000 in
theorem gX5_tooHigh_X5_needBy : GoodIn wsX5_tooHigh (wsV RX5 157 RX5 yX5_needBy wsX5_needBy) := goodIn_app (goodIn_of _ (by decide +kernel)) ggX5_tooHigh_X5_needBy
theorem dX5_tooHigh_0 : decode cX5_tooHigh 0 = .ok (.aload_n 0, 1) := by decide +kernel
theorem dX5_tooHigh_1 : decode cX5_tooHigh 1 = .ok (.getfield 41, 3) := by decide +kernel
theorem dX5_tooHigh_4 : decode cX5_tooHigh 4 = .ok (.getfield 134, 3) := by decide +kernel
theorem dX5_tooHigh_7 : decode cX5_tooHigh 7 = .ok (.iload_n 1, 1) := by decide +kernel
theorem dX5_tooHigh_8 : decode cX5_tooHigh 8 = .ok (.invokestatic 117, 3) := by decide +kernel
theorem dX5_tooHigh_11 : decode cX5_tooHigh 11 = .ok (.aload_n 0, 1) := by decide +kernel
theorem dX5_tooHigh_12 : decode cX5_tooHigh 12 = .ok (.iload_n 1, 1) := by decide +kernel
theorem dX5_tooHigh_13 : decode cX5_tooHigh 13 = .ok (.iload_n 2, 1) := by decide +kernel
theorem dX5_tooHigh_14 : decode cX5_tooHigh 14 = .ok (.invokevirtual 157, 3) := by decide +kernel
theorem dX5_tooHigh_17 : decode cX5_tooHigh 17 = .ok (.isub, 1) := by decide +kernel
theorem dX5_tooHigh_18 : decode cX5_tooHigh 18 = .ok (.aload_n 0, 1) := by decide +kernel
theorem dX5_tooHigh_19 : decode cX5_tooHigh 19 = .ok (.getfield 30, 3) := by decide +kernel
theorem dX5_tooHigh_22 : decode cX5_tooHigh 22 = .ok (.iconst 2, 1) := by decide +kernel
theorem dX5_tooHigh_23 : decode cX5_tooHigh 23 = .ok (.invokestatic 117, 3) := by decide +kernel
theorem dX5_tooHigh_26 : decode cX5_tooHigh 26 = .ok (.if_icmp .le 7, 3) := by decide +kernel
theorem dX5_tooHigh_29 : decode cX5_tooHigh 29 = .ok (.iconst 1, 1) := by decide +kernel
theorem dX5_tooHigh_30 : decode cX5_tooHigh 30 = .ok (.goto 4, 3) := by decide +kernel
theorem dX5_tooHigh_33 : decode cX5_tooHigh 33 = .ok (.iconst 0, 1) := by decide +kernel
theorem dX5_tooHigh_34 : decode cX5_tooHigh 34 = .ok (.ireturn, 1) := by decide +kernel
set_option maxRecDepth 100000 in
theorem ggX5_steep_X5_cell : GoodIn wsX5_steep wsX5_cell := goodIn_g _ [11] [0] rfl (by decide +kernel)
set_option maxRecDepth 100000 in
theorem gX5_steep_X5_cell : GoodIn wsX5_steep (va_wsS RX5 117 yX5_cell wsX5_cell) := goodIn_app (goodIn_of _ (by decide +kernel)) ggX5_steep_X5_cell
theorem dX5_steep_0 : decode cX5_steep 0 = .ok (.aload_n 0, 1) := by decide +kernel
theorem dX5_steep_1 : decode cX5_steep 1 = .ok (.getfield 41, 3) := by decide +kernel
theorem dX5_steep_4 : decode cX5_steep 4 = .ok (.getfield 134, 3) := by decide +kernel
theorem dX5_steep_7 : decode cX5_steep 7 = .ok (.iload_n 1, 1) := by decide +kernel
theorem dX5_steep_8 : decode cX5_steep 8 = .ok (.invokestatic 117, 3) := by decide +kernel
theorem dX5_steep_11 : decode cX5_steep 11 = .ok (.aload_n 0, 1) := by decide +kernel
theorem dX5_steep_12 : decode cX5_steep 12 = .ok (.getfield 41, 3) := by decide +kernel
theorem dX5_steep_15 : decode cX5_steep 15 = .ok (.getfield 134, 3) := by decide +kernel
theorem dX5_steep_18 : decode cX5_steep 18 = .ok (.iload_n 1, 1) := by decide +kernel
theorem dX5_steep_19 : decode cX5_steep 19 = .ok (.iconst 1, 1) := by decide +kernel
theorem dX5_steep_20 : decode cX5_steep 20 = .ok (.isub, 1) := by decide +kernel
theorem dX5_steep_21 : decode cX5_steep 21 = .ok (.invokestatic 117, 3) := by decide +kernel
theorem dX5_steep_24 : decode cX5_steep 24 = .ok (.isub, 1) := by decide +kernel
theorem dX5_steep_25 : decode cX5_steep 25 = .ok (.invokestatic 152, 3) := by decide +kernel
theorem dX5_steep_28 : decode cX5_steep 28 = .ok (.aload_n 0, 1) := by decide +kernel
theorem dX5_steep_29 : decode cX5_steep 29 = .ok (.getfield 30, 3) := by decide +kernel
theorem dX5_steep_32 : decode cX5_steep 32 = .ok (.iconst 3, 1) := by decide +kernel
theorem dX5_steep_33 : decode cX5_steep 33 = .ok (.invokestatic 117, 3) := by decide +kernel
theorem dX5_steep_36 : decode cX5_steep 36 = .ok (.if_icmp .le 7, 3) := by decide +kernel
theorem dX5_steep_39 : decode cX5_steep 39 = .ok (.iconst 1, 1) := by decide +kernel
theorem dX5_steep_40 : decode cX5_steep 40 = .ok (.goto 4, 3) := by decide +kernel
theorem dX5_steep_43 : decode cX5_steep 43 = .ok (.iconst 0, 1) := by decide +kernel
theorem dX5_steep_44 : decode cX5_steep 44 = .ok (.ireturn, 1) := by decide +kernel
set_option maxRecDepth 100000 in
theorem ggX5_runs_X5_lacks : GoodIn wsX5_runs wsX5_lacks := goodIn_g _ [4, 0, 0, 0, 0, 0, 0, 0, 0, 0, 0, 0, 0, 0, 0, 0, 0, 4, 0, 0, 0, 0, 0, 0, 0, 0, 0, 0, 0, 0, 0, 0, 0, 0] [1, 2, 3, 4, 5, 6, 7, 0, 8, 9, 10, 11, 12, 13, 14, 15, 16, 17, 18, 19, 20, 21, 22, 23, 24, 25, 26, 27, 28, 29, 30, 31, 32, 33] rfl (by decide +kernel)
set_option maxRecDepth 100000 in
theorem gX5_runs_X5_lacks : GoodIn wsX5_runs (wsV RX5 160 RX5 yX5_lacks wsX5_lacks) := goodIn_app (goodIn_of _ (by decide +kernel)) ggX5_runs_X5_lacks
set_option maxRecDepth 100000 in
theorem ggX5_runs_X5_tooHigh : GoodIn wsX5_runs wsX5_tooHigh := goodIn_g _ [4, 1, 0, 0, 0, 0, 0, 0, 0, 0, 0, 0, 0, 0, 0, 0, 3, 0, 0, 0, 0, 0, 0, 0, 0, 0, 0, 0, 0, 0, 0, 0, 0, 0] [16, 1, 2, 3, 13, 14, 0, 15, 4, 5, 6, 7, 8, 9, 10, 11, 12, 17, 18, 19, 20, 21, 22, 23, 24, 25, 26, 27, 28, 29, 30, 31, 32, 33] rfl (by decide +kernel)
set_option maxRecDepth 100000 in
theorem gX5_runs_X5_tooHigh : GoodIn wsX5_runs (wsV RX5 163 RX5 yX5_tooHigh wsX5_tooHigh) := goodIn_app (goodIn_of _ (by decide +kernel)) ggX5_runs_X5_tooHigh
theorem dX5_runs_0 : decode cX5_runs 0 = .ok (.aload_n 0, 1) := by decide +kernel
theorem dX5_runs_1 : decode cX5_runs 1 = .ok (.iload_n 1, 1) := by decide +kernel
theorem dX5_runs_2 : decode cX5_runs 2 = .ok (.iload_n 2, 1) := by decide +kernel
theorem dX5_runs_3 : decode cX5_runs 3 = .ok (.invokevirtual 160, 3) := by decide +kernel
theorem dX5_runs_6 : decode cX5_runs 6 = .ok (.ifCond .ne 16, 3) := by decide +kernel
theorem dX5_runs_9 : decode cX5_runs 9 = .ok (.aload_n 0, 1) := by decide +kernel
theorem dX5_runs_10 : decode cX5_runs 10 = .ok (.iload_n 1, 1) := by decide +kernel
theorem dX5_runs_11 : decode cX5_runs 11 = .ok (.iload_n 2, 1) := by decide +kernel
theorem dX5_runs_12 : decode cX5_runs 12 = .ok (.invokevirtual 163, 3) := by decide +kernel
theorem dX5_runs_15 : decode cX5_runs 15 = .ok (.ifCond .ne 7, 3) := by decide +kernel
theorem dX5_runs_18 : decode cX5_runs 18 = .ok (.iconst 1, 1) := by decide +kernel
theorem dX5_runs_19 : decode cX5_runs 19 = .ok (.goto 4, 3) := by decide +kernel
theorem dX5_runs_22 : decode cX5_runs 22 = .ok (.iconst 0, 1) := by decide +kernel
theorem dX5_runs_23 : decode cX5_runs 23 = .ok (.ireturn, 1) := by decide +kernel
set_option maxRecDepth 100000 in
theorem ggX5_runsAll_X5_runs : GoodIn wsX5_runsAll wsX5_runs := goodIn_g _ [1, 4, 0, 0, 0, 0, 0, 0, 0, 0, 0, 0, 0, 0, 0, 0, 0, 0, 0, 0, 0, 0, 0, 0, 0, 0, 0, 0, 0, 0, 0, 0, 0, 0, 0, 0, 0, 0, 0, 0, 0, 0] [2, 3, 4, 5, 1, 6, 0, 7, 8, 9, 10, 11, 12, 13, 14, 15, 16, 17, 18, 19, 20, 21, 22, 23, 24, 25, 26, 27, 28, 29, 30, 31, 32, 33, 34, 35, 36, 37, 38, 39, 40, 41] rfl (by decide +kernel)
set_option maxRecDepth 100000 in
theorem gX5_runsAll_X5_runs : GoodIn wsX5_runsAll (wsV RX5 182 RX5 yX5_runs wsX5_runs) := goodIn_app (goodIn_of _ (by decide +kernel)) ggX5_runsAll_X5_runs
theorem dX5_runsAll_0 : decode cX5_runsAll 0 = .ok (.iconst 1, 1) := by decide +kernel
theorem dX5_runsAll_1 : decode cX5_runsAll 1 = .ok (.istore_n 2, 1) := by decide +kernel
theorem dX5_runsAll_2 : decode cX5_runsAll 2 = .ok (.iload_n 2, 1) := by decide +kernel
theorem dX5_runsAll_3 : decode cX5_runsAll 3 = .ok (.aload_n 0, 1) := by decide +kernel
theorem dX5_runsAll_4 : decode cX5_runsAll 4 = .ok (.getfield 41, 3) := by decide +kernel
theorem dX5_runsAll_7 : decode cX5_runsAll 7 = .ok (.getfield 128, 3) := by decide +kernel
theorem dX5_runsAll_10 : decode cX5_runsAll 10 = .ok (.if_icmp .gt 20, 3) := by decide +kernel
theorem dX5_runsAll_13 : decode cX5_runsAll 13 = .ok (.aload_n 0, 1) := by decide +kernel
theorem dX5_runsAll_14 : decode cX5_runsAll 14 = .ok (.iload_n 2, 1) := by decide +kernel
theorem dX5_runsAll_15 : decode cX5_runsAll 15 = .ok (.iload_n 1, 1) := by decide +kernel
theorem dX5_runsAll_16 : decode cX5_runsAll 16 = .ok (.invokevirtual 182, 3) := by decide +kernel
theorem dX5_runsAll_19 : decode cX5_runsAll 19 = .ok (.ifCond .ne 5, 3) := by decide +kernel
theorem dX5_runsAll_22 : decode cX5_runsAll 22 = .ok (.iconst 0, 1) := by decide +kernel
theorem dX5_runsAll_23 : decode cX5_runsAll 23 = .ok (.ireturn, 1) := by decide +kernel
theorem dX5_runsAll_24 : decode cX5_runsAll 24 = .ok (.iinc 2 1, 3) := by decide +kernel
theorem dX5_runsAll_27 : decode cX5_runsAll 27 = .ok (.goto (-25), 3) := by decide +kernel
theorem dX5_runsAll_30 : decode cX5_runsAll 30 = .ok (.iconst 1, 1) := by decide +kernel
theorem dX5_runsAll_31 : decode cX5_runsAll 31 = .ok (.ireturn, 1) := by decide +kernel
set_option maxRecDepth 100000 in
theorem ggX5_lacksWithin_X5_cell : GoodIn wsX5_lacksWithin wsX5_cell := goodIn_g _ [6] [0] rfl (by decide +kernel)
set_option maxRecDepth 100000 in
theorem gX5_lacksWithin_X5_cell : GoodIn wsX5_lacksWithin (va_wsS RX5 117 yX5_cell wsX5_cell) := goodIn_app (goodIn_of _ (by decide +kernel)) ggX5_lacksWithin_X5_cell
set_option maxRecDepth 100000 in
theorem ggX5_lacksWithin_X0_lastOf : GoodIn wsX5_lacksWithin wsX0_lastOf := goodIn_g _ [4, 0, 0, 3, 0, 0, 0, 0, 0, 0, 0, 0, 0, 0, 0, 0, 0, 0, 24, 0, 0, 0, 0, 0, 0, 0, 0, 0] [4, 5, 6, 7, 8, 3, 9, 10, 0, 1, 2, 11, 12, 13, 14, 15, 16, 17, 18, 19, 20, 21, 22, 23, 24, 25, 26, 27] rfl (by decide +kernel)
set_option maxRecDepth 100000 in
theorem gX5_lacksWithin_X0_lastOf : GoodIn wsX5_lacksWithin (wsV RX5 106 RX0 yX0_lastOf wsX0_lastOf) := goodIn_app (goodIn_of _ (by decide +kernel)) ggX5_lacksWithin_X0_lastOf
set_option maxRecDepth 100000 in
theorem ggX5_lacksWithin_X0_firstOf : GoodIn wsX5_lacksWithin wsX0_firstOf := goodIn_g _ [4, 0, 0, 9, 0, 31, 0, 0, 0, 0, 0, 0, 0] [3, 4, 0, 1, 2, 5, 6, 7, 8, 9, 10, 11, 12] rfl (by decide +kernel)
set_option maxRecDepth 100000 in
theorem gX5_lacksWithin_X0_firstOf : GoodIn wsX5_lacksWithin (wsV RX5 102 RX0 yX0_firstOf wsX0_firstOf) := goodIn_app (goodIn_of _ (by decide +kernel)) ggX5_lacksWithin_X0_firstOf
set_option maxRecDepth 100000 in
theorem ggX5_lacksWithin_X5_lacks : GoodIn wsX5_lacksWithin wsX5_lacks := goodIn_g _ [1, 0, 0, 0, 0, 0, 22, 0, 0, 0, 0, 0, 0, 0, 0, 0, 0, 0, 0, 0, 0, 0, 0, 0, 0, 0, 0, 0, 0, 0, 0, 0, 0, 0] [6, 1, 7, 0, 8, 9, 10, 4, 11, 12, 13, 14, 15, 16, 2, 3, 5, 17, 18, 19, 20, 21, 22, 23, 24, 25, 26, 27, 28, 29, 30, 31, 32, 33] rfl (by decide +kernel)
set_option maxRecDepth 100000 in
theorem gX5_lacksWithin_X5_lacks : GoodIn wsX5_lacksWithin (wsV RX5 160 RX5 yX5_lacks wsX5_lacks) := goodIn_app (goodIn_of _ (by decide +kernel)) ggX5_lacksWithin_X5_lacks
theorem dX5_lacksWithin_0 : decode cX5_lacksWithin 0 = .ok (.aload_n 0, 1) := by decide +kernel
theorem dX5_lacksWithin_1 : decode cX5_lacksWithin 1 = .ok (.getfield 30, 3) := by decide +kernel
theorem dX5_lacksWithin_4 : decode cX5_lacksWithin 4 = .ok (.iconst 5, 1) := by decide +kernel
theorem dX5_lacksWithin_5 : decode cX5_lacksWithin 5 = .ok (.invokestatic 117, 3) := by decide +kernel
theorem dX5_lacksWithin_8 : decode cX5_lacksWithin 8 = .ok (.istore_n 2, 1) := by decide +kernel
theorem dX5_lacksWithin_9 : decode cX5_lacksWithin 9 = .ok (.aload_n 0, 1) := by decide +kernel
theorem dX5_lacksWithin_10 : decode cX5_lacksWithin 10 = .ok (.getfield 41, 3) := by decide +kernel
theorem dX5_lacksWithin_13 : decode cX5_lacksWithin 13 = .ok (.iload_n 1, 1) := by decide +kernel
theorem dX5_lacksWithin_14 : decode cX5_lacksWithin 14 = .ok (.invokevirtual 106, 3) := by decide +kernel
theorem dX5_lacksWithin_17 : decode cX5_lacksWithin 17 = .ok (.istore_n 3, 1) := by decide +kernel
theorem dX5_lacksWithin_18 : decode cX5_lacksWithin 18 = .ok (.aload_n 0, 1) := by decide +kernel
theorem dX5_lacksWithin_19 : decode cX5_lacksWithin 19 = .ok (.getfield 41, 3) := by decide +kernel
theorem dX5_lacksWithin_22 : decode cX5_lacksWithin 22 = .ok (.iload_n 1, 1) := by decide +kernel
theorem dX5_lacksWithin_23 : decode cX5_lacksWithin 23 = .ok (.invokevirtual 102, 3) := by decide +kernel
theorem dX5_lacksWithin_26 : decode cX5_lacksWithin 26 = .ok (.istore 4, 2) := by decide +kernel
theorem dX5_lacksWithin_28 : decode cX5_lacksWithin 28 = .ok (.iload 4, 2) := by decide +kernel
theorem dX5_lacksWithin_30 : decode cX5_lacksWithin 30 = .ok (.iload_n 3, 1) := by decide +kernel
theorem dX5_lacksWithin_31 : decode cX5_lacksWithin 31 = .ok (.if_icmp .gt 21, 3) := by decide +kernel
theorem dX5_lacksWithin_34 : decode cX5_lacksWithin 34 = .ok (.aload_n 0, 1) := by decide +kernel
theorem dX5_lacksWithin_35 : decode cX5_lacksWithin 35 = .ok (.iload 4, 2) := by decide +kernel
theorem dX5_lacksWithin_37 : decode cX5_lacksWithin 37 = .ok (.iload_n 2, 1) := by decide +kernel
theorem dX5_lacksWithin_38 : decode cX5_lacksWithin 38 = .ok (.invokevirtual 160, 3) := by decide +kernel
theorem dX5_lacksWithin_41 : decode cX5_lacksWithin 41 = .ok (.ifCond .eq 5, 3) := by decide +kernel
theorem dX5_lacksWithin_44 : decode cX5_lacksWithin 44 = .ok (.iconst 1, 1) := by decide +kernel
theorem dX5_lacksWithin_45 : decode cX5_lacksWithin 45 = .ok (.ireturn, 1) := by decide +kernel
theorem dX5_lacksWithin_46 : decode cX5_lacksWithin 46 = .ok (.iinc 4 1, 3) := by decide +kernel
theorem dX5_lacksWithin_49 : decode cX5_lacksWithin 49 = .ok (.goto (-21), 3) := by decide +kernel
theorem dX5_lacksWithin_52 : decode cX5_lacksWithin 52 = .ok (.iconst 0, 1) := by decide +kernel
theorem dX5_lacksWithin_53 : decode cX5_lacksWithin 53 = .ok (.ireturn, 1) := by decide +kernel
set_option maxRecDepth 100000 in
theorem ggX5_firstFault_X5_whyAt : GoodIn wsX5_firstFault wsX5_whyAt := goodIn_g _ [1, 4, 0, 0, 0, 0, 0, 0, 0, 0, 0, 0, 0, 0, 0, 0, 0, 0, 0, 0, 0, 0, 0, 0, 0, 0, 0, 0, 0, 0, 0, 0, 0, 0, 0, 0, 0, 0, 0, 0, 0, 0, 0, 0, 0, 0] [2, 3, 4, 5, 1, 6, 7, 8, 9, 10, 0, 11, 12, 13, 14, 15, 16, 17, 18, 19, 20, 21, 22, 23, 24, 25, 26, 27, 28, 29, 30, 31, 32, 33, 34, 35, 36, 37, 38, 39, 40, 41, 42, 43, 44, 45] rfl (by decide +kernel)
set_option maxRecDepth 100000 in
theorem gX5_firstFault_X5_whyAt : GoodIn wsX5_firstFault (wsV RX5 173 RX5 yX5_whyAt wsX5_whyAt) := goodIn_app (goodIn_of _ (by decide +kernel)) ggX5_firstFault_X5_whyAt
theorem dX5_firstFault_0 : decode cX5_firstFault 0 = .ok (.iconst 1, 1) := by decide +kernel
theorem dX5_firstFault_1 : decode cX5_firstFault 1 = .ok (.istore_n 1, 1) := by decide +kernel
theorem dX5_firstFault_2 : decode cX5_firstFault 2 = .ok (.iload_n 1, 1) := by decide +kernel
theorem dX5_firstFault_3 : decode cX5_firstFault 3 = .ok (.aload_n 0, 1) := by decide +kernel
theorem dX5_firstFault_4 : decode cX5_firstFault 4 = .ok (.getfield 41, 3) := by decide +kernel
theorem dX5_firstFault_7 : decode cX5_firstFault 7 = .ok (.getfield 128, 3) := by decide +kernel
theorem dX5_firstFault_10 : decode cX5_firstFault 10 = .ok (.if_icmp .gt 19, 3) := by decide +kernel
theorem dX5_firstFault_13 : decode cX5_firstFault 13 = .ok (.aload_n 0, 1) := by decide +kernel
theorem dX5_firstFault_14 : decode cX5_firstFault 14 = .ok (.iload_n 1, 1) := by decide +kernel
theorem dX5_firstFault_15 : decode cX5_firstFault 15 = .ok (.invokevirtual 173, 3) := by decide +kernel
theorem dX5_firstFault_18 : decode cX5_firstFault 18 = .ok (.ifCond .eq 5, 3) := by decide +kernel
theorem dX5_firstFault_21 : decode cX5_firstFault 21 = .ok (.iload_n 1, 1) := by decide +kernel
theorem dX5_firstFault_22 : decode cX5_firstFault 22 = .ok (.ireturn, 1) := by decide +kernel
theorem dX5_firstFault_23 : decode cX5_firstFault 23 = .ok (.iinc 1 1, 3) := by decide +kernel
theorem dX5_firstFault_26 : decode cX5_firstFault 26 = .ok (.goto (-24), 3) := by decide +kernel
theorem dX5_firstFault_29 : decode cX5_firstFault 29 = .ok (.iconst (-1), 1) := by decide +kernel
theorem dX5_firstFault_30 : decode cX5_firstFault 30 = .ok (.ireturn, 1) := by decide +kernel
set_option maxRecDepth 100000 in
theorem ggX5_whyAt_X5_cell : GoodIn wsX5_whyAt wsX5_cell := goodIn_g _ [5] [0] rfl (by decide +kernel)
set_option maxRecDepth 100000 in
theorem gX5_whyAt_X5_cell : GoodIn wsX5_whyAt (va_wsS RX5 117 yX5_cell wsX5_cell) := goodIn_app (goodIn_of _ (by decide +kernel)) ggX5_whyAt_X5_cell
set_option maxRecDepth 100000 in
theorem ggX5_whyAt_X5_lacks : GoodIn wsX5_whyAt wsX5_lacks := goodIn_g _ [1, 0, 0, 0, 0, 3, 0, 0, 0, 0, 0, 0, 0, 0, 0, 0, 0, 8, 0, 0, 0, 0, 0, 0, 0, 0, 0, 0, 0, 0, 0, 0, 0, 0] [5, 6, 7, 0, 8, 9, 10, 3, 11, 12, 13, 14, 15, 16, 1, 2, 4, 17, 18, 19, 20, 21, 22, 23, 24, 25, 26, 27, 28, 29, 30, 31, 32, 33] rfl (by decide +kernel)
set_option maxRecDepth 100000 in
theorem gX5_whyAt_X5_lacks : GoodIn wsX5_whyAt (wsV RX5 160 RX5 yX5_lacks wsX5_lacks) := goodIn_app (goodIn_of _ (by decide +kernel)) ggX5_whyAt_X5_lacks
set_option maxRecDepth 100000 in
theorem ggX5_whyAt_X5_tooHigh : GoodIn wsX5_whyAt wsX5_tooHigh := goodIn_g _ [1, 0, 0, 0, 0, 4, 0, 0, 0, 0, 0, 0, 0, 0, 0, 0, 3, 4, 0, 0, 0, 0, 0, 0, 0, 0, 0, 0, 0, 0, 0, 0, 0, 0] [16, 5, 6, 0, 1, 2, 3, 4, 7, 8, 9, 10, 11, 12, 13, 14, 15, 17, 18, 19, 20, 21, 22, 23, 24, 25, 26, 27, 28, 29, 30, 31, 32, 33] rfl (by decide +kernel)
set_option maxRecDepth 100000 in
theorem gX5_whyAt_X5_tooHigh : GoodIn wsX5_whyAt (wsV RX5 163 RX5 yX5_tooHigh wsX5_tooHigh) := goodIn_app (goodIn_of _ (by decide +kernel)) ggX5_whyAt_X5_tooHigh
set_option maxRecDepth 100000 in
theorem ggX5_whyAt_X5_steep : GoodIn wsX5_whyAt wsX5_steep := goodIn_g _ [1, 0, 0, 0, 0, 4, 0, 5, 0, 0, 0, 7, 0, 0, 0, 0, 0, 0, 0, 0, 0, 0, 0, 0, 0, 0, 0, 0, 0] [11, 5, 6, 7, 8, 9, 10, 0, 1, 2, 3, 4, 12, 13, 14, 15, 16, 17, 18, 19, 20, 21, 22, 23, 24, 25, 26, 27, 28] rfl (by decide +kernel)
set_option maxRecDepth 100000 in
theorem gX5_whyAt_X5_steep : GoodIn wsX5_whyAt (wsV RX5 166 RX5 yX5_steep wsX5_steep) := goodIn_app (goodIn_of _ (by decide +kernel)) ggX5_whyAt_X5_steep
theorem dX5_whyAt_0 : decode cX5_whyAt 0 = .ok (.aload_n 0, 1) := by decide +kernel
theorem dX5_whyAt_1 : decode cX5_whyAt 1 = .ok (.getfield 30, 3) := by decide +kernel
theorem dX5_whyAt_4 : decode cX5_whyAt 4 = .ok (.iconst 5, 1) := by decide +kernel
theorem dX5_whyAt_5 : decode cX5_whyAt 5 = .ok (.invokestatic 117, 3) := by decide +kernel
theorem dX5_whyAt_8 : decode cX5_whyAt 8 = .ok (.istore_n 2, 1) := by decide +kernel
theorem dX5_whyAt_9 : decode cX5_whyAt 9 = .ok (.aload_n 0, 1) := by decide +kernel
theorem dX5_whyAt_10 : decode cX5_whyAt 10 = .ok (.iload_n 1, 1) := by decide +kernel
theorem dX5_whyAt_11 : decode cX5_whyAt 11 = .ok (.iload_n 2, 1) := by decide +kernel
theorem dX5_whyAt_12 : decode cX5_whyAt 12 = .ok (.invokevirtual 160, 3) := by decide +kernel
theorem dX5_whyAt_15 : decode cX5_whyAt 15 = .ok (.ifCond .eq 5, 3) := by decide +kernel
theorem dX5_whyAt_18 : decode cX5_whyAt 18 = .ok (.iconst 1, 1) := by decide +kernel
theorem dX5_whyAt_19 : decode cX5_whyAt 19 = .ok (.ireturn, 1) := by decide +kernel
theorem dX5_whyAt_20 : decode cX5_whyAt 20 = .ok (.aload_n 0, 1) := by decide +kernel
theorem dX5_whyAt_21 : decode cX5_whyAt 21 = .ok (.iload_n 1, 1) := by decide +kernel
theorem dX5_whyAt_22 : decode cX5_whyAt 22 = .ok (.iload_n 2, 1) := by decide +kernel
theorem dX5_whyAt_23 : decode cX5_whyAt 23 = .ok (.invokevirtual 163, 3) := by decide +kernel
theorem dX5_whyAt_26 : decode cX5_whyAt 26 = .ok (.ifCond .eq 5, 3) := by decide +kernel
theorem dX5_whyAt_29 : decode cX5_whyAt 29 = .ok (.iconst 2, 1) := by decide +kernel
theorem dX5_whyAt_30 : decode cX5_whyAt 30 = .ok (.ireturn, 1) := by decide +kernel
theorem dX5_whyAt_31 : decode cX5_whyAt 31 = .ok (.aload_n 0, 1) := by decide +kernel
theorem dX5_whyAt_32 : decode cX5_whyAt 32 = .ok (.iload_n 1, 1) := by decide +kernel
theorem dX5_whyAt_33 : decode cX5_whyAt 33 = .ok (.invokevirtual 166, 3) := by decide +kernel
theorem dX5_whyAt_36 : decode cX5_whyAt 36 = .ok (.ifCond .eq 7, 3) := by decide +kernel
theorem dX5_whyAt_39 : decode cX5_whyAt 39 = .ok (.iconst 3, 1) := by decide +kernel
theorem dX5_whyAt_40 : decode cX5_whyAt 40 = .ok (.goto 4, 3) := by decide +kernel
theorem dX5_whyAt_43 : decode cX5_whyAt 43 = .ok (.iconst 0, 1) := by decide +kernel
theorem dX5_whyAt_44 : decode cX5_whyAt 44 = .ok (.ireturn, 1) := by decide +kernel
set_option maxRecDepth 100000 in
theorem ggX5_rootOf_X5_cell : GoodIn wsX5_rootOf wsX5_cell := goodIn_g _ [13] [0] rfl (by decide +kernel)
set_option maxRecDepth 100000 in
theorem gX5_rootOf_X5_cell : GoodIn wsX5_rootOf (va_wsS RX5 117 yX5_cell wsX5_cell) := goodIn_app (goodIn_of _ (by decide +kernel)) ggX5_rootOf_X5_cell
set_option maxRecDepth 100000 in
theorem ggX5_rootOf_X2_read : GoodIn wsX5_rootOf wsX2_read := goodIn_g _ [11, 0, 0, 4, 0, 0, 27, 0] [3, 4, 5, 0, 1, 2, 6, 7] rfl (by decide +kernel)
set_option maxRecDepth 100000 in
theorem gX5_rootOf_X2_read : GoodIn wsX5_rootOf (wsV RX5 95 RX2 yX2_read wsX2_read) := goodIn_app (goodIn_of _ (by decide +kernel)) ggX5_rootOf_X2_read
set_option maxRecDepth 100000 in
theorem ggX5_rootOf_X0_firstOf : GoodIn wsX5_rootOf wsX0_firstOf := goodIn_g _ [11, 0, 0, 11, 0, 13, 0, 0, 0, 0, 0, 0, 0] [3, 4, 0, 1, 2, 5, 6, 7, 8, 9, 10, 11, 12] rfl (by decide +kernel)
set_option maxRecDepth 100000 in
theorem gX5_rootOf_X0_firstOf : GoodIn wsX5_rootOf (wsV RX5 102 RX0 yX0_firstOf wsX0_firstOf) := goodIn_app (goodIn_of _ (by decide +kernel)) ggX5_rootOf_X0_firstOf
set_option maxRecDepth 100000 in
theorem ggX5_rootOf_X5_apartAhead : GoodIn wsX5_rootOf wsX5_apartAhead := goodIn_g _ [1, 2, 0, 0, 0, 2, 0, 0, 0, 7, 0, 0, 0, 0, 0, 3, 0, 0, 0, 0, 0, 0, 0, 0, 0, 0, 0, 0, 0, 0, 0, 0, 0] [15, 0, 1, 2, 3, 4, 9, 10, 11, 12, 13, 14, 6, 7, 8, 5, 16, 17, 18, 19, 20, 21, 22, 23, 24, 25, 26, 27, 28, 29, 30, 31, 32] rfl (by decide +kernel)
set_option maxRecDepth 100000 in
theorem gX5_rootOf_X5_apartAhead : GoodIn wsX5_rootOf (wsV RX5 146 RX5 yX5_apartAhead wsX5_apartAhead) := goodIn_app (goodIn_of _ (by decide +kernel)) ggX5_rootOf_X5_apartAhead
theorem dX5_rootOf_0 : decode cX5_rootOf 0 = .ok (.aload_n 0, 1) := by decide +kernel
theorem dX5_rootOf_1 : decode cX5_rootOf 1 = .ok (.getfield 41, 3) := by decide +kernel
theorem dX5_rootOf_4 : decode cX5_rootOf 4 = .ok (.getfield 143, 3) := by decide +kernel
theorem dX5_rootOf_7 : decode cX5_rootOf 7 = .ok (.iload_n 1, 1) := by decide +kernel
theorem dX5_rootOf_8 : decode cX5_rootOf 8 = .ok (.invokestatic 117, 3) := by decide +kernel
theorem dX5_rootOf_11 : decode cX5_rootOf 11 = .ok (.istore_n 3, 1) := by decide +kernel
theorem dX5_rootOf_12 : decode cX5_rootOf 12 = .ok (.iload_n 2, 1) := by decide +kernel
theorem dX5_rootOf_13 : decode cX5_rootOf 13 = .ok (.iconst 1, 1) := by decide +kernel
theorem dX5_rootOf_14 : decode cX5_rootOf 14 = .ok (.if_icmp .ne 26, 3) := by decide +kernel
theorem dX5_rootOf_17 : decode cX5_rootOf 17 = .ok (.aload_n 0, 1) := by decide +kernel
theorem dX5_rootOf_18 : decode cX5_rootOf 18 = .ok (.getfield 12, 3) := by decide +kernel
theorem dX5_rootOf_21 : decode cX5_rootOf 21 = .ok (.iload_n 3, 1) := by decide +kernel
theorem dX5_rootOf_22 : decode cX5_rootOf 22 = .ok (.iconst 2, 1) := by decide +kernel
theorem dX5_rootOf_23 : decode cX5_rootOf 23 = .ok (.invokevirtual 95, 3) := by decide +kernel
theorem dX5_rootOf_26 : decode cX5_rootOf 26 = .ok (.invokestatic 152, 3) := by decide +kernel
theorem dX5_rootOf_29 : decode cX5_rootOf 29 = .ok (.bipush 50, 2) := by decide +kernel
theorem dX5_rootOf_31 : decode cX5_rootOf 31 = .ok (.if_icmp .le 7, 3) := by decide +kernel
theorem dX5_rootOf_34 : decode cX5_rootOf 34 = .ok (.iconst 2, 1) := by decide +kernel
theorem dX5_rootOf_35 : decode cX5_rootOf 35 = .ok (.goto 4, 3) := by decide +kernel
theorem dX5_rootOf_38 : decode cX5_rootOf 38 = .ok (.iconst 1, 1) := by decide +kernel
theorem dX5_rootOf_39 : decode cX5_rootOf 39 = .ok (.ireturn, 1) := by decide +kernel
theorem dX5_rootOf_40 : decode cX5_rootOf 40 = .ok (.iload_n 2, 1) := by decide +kernel
theorem dX5_rootOf_41 : decode cX5_rootOf 41 = .ok (.iconst 2, 1) := by decide +kernel
theorem dX5_rootOf_42 : decode cX5_rootOf 42 = .ok (.if_icmp .ne 5, 3) := by decide +kernel
theorem dX5_rootOf_45 : decode cX5_rootOf 45 = .ok (.iconst 3, 1) := by decide +kernel
theorem dX5_rootOf_46 : decode cX5_rootOf 46 = .ok (.ireturn, 1) := by decide +kernel
theorem dX5_rootOf_47 : decode cX5_rootOf 47 = .ok (.iload_n 3, 1) := by decide +kernel
theorem dX5_rootOf_48 : decode cX5_rootOf 48 = .ok (.iconst 1, 1) := by decide +kernel
theorem dX5_rootOf_49 : decode cX5_rootOf 49 = .ok (.if_icmp .lt 15, 3) := by decide +kernel
theorem dX5_rootOf_52 : decode cX5_rootOf 52 = .ok (.iload_n 1, 1) := by decide +kernel
theorem dX5_rootOf_53 : decode cX5_rootOf 53 = .ok (.aload_n 0, 1) := by decide +kernel
theorem dX5_rootOf_54 : decode cX5_rootOf 54 = .ok (.getfield 41, 3) := by decide +kernel
theorem dX5_rootOf_57 : decode cX5_rootOf 57 = .ok (.iload_n 3, 1) := by decide +kernel
theorem dX5_rootOf_58 : decode cX5_rootOf 58 = .ok (.invokevirtual 102, 3) := by decide +kernel
theorem dX5_rootOf_61 : decode cX5_rootOf 61 = .ok (.if_icmp .eq 5, 3) := by decide +kernel
theorem dX5_rootOf_64 : decode cX5_rootOf 64 = .ok (.iconst 1, 1) := by decide +kernel
theorem dX5_rootOf_65 : decode cX5_rootOf 65 = .ok (.ireturn, 1) := by decide +kernel
theorem dX5_rootOf_66 : decode cX5_rootOf 66 = .ok (.aload_n 0, 1) := by decide +kernel
theorem dX5_rootOf_67 : decode cX5_rootOf 67 = .ok (.aload_n 0, 1) := by decide +kernel
theorem dX5_rootOf_68 : decode cX5_rootOf 68 = .ok (.getfield 41, 3) := by decide +kernel
theorem dX5_rootOf_71 : decode cX5_rootOf 71 = .ok (.getfield 131, 3) := by decide +kernel
theorem dX5_rootOf_74 : decode cX5_rootOf 74 = .ok (.iload_n 3, 1) := by decide +kernel
theorem dX5_rootOf_75 : decode cX5_rootOf 75 = .ok (.invokevirtual 146, 3) := by decide +kernel
theorem dX5_rootOf_78 : decode cX5_rootOf 78 = .ok (.aload_n 0, 1) := by decide +kernel
theorem dX5_rootOf_79 : decode cX5_rootOf 79 = .ok (.getfield 30, 3) := by decide +kernel
theorem dX5_rootOf_82 : decode cX5_rootOf 82 = .ok (.iconst 4, 1) := by decide +kernel
theorem dX5_rootOf_83 : decode cX5_rootOf 83 = .ok (.invokestatic 117, 3) := by decide +kernel
theorem dX5_rootOf_86 : decode cX5_rootOf 86 = .ok (.if_icmp .le 7, 3) := by decide +kernel
theorem dX5_rootOf_89 : decode cX5_rootOf 89 = .ok (.iconst 5, 1) := by decide +kernel
theorem dX5_rootOf_90 : decode cX5_rootOf 90 = .ok (.goto 4, 3) := by decide +kernel
theorem dX5_rootOf_93 : decode cX5_rootOf 93 = .ok (.iconst 4, 1) := by decide +kernel
theorem dX5_rootOf_94 : decode cX5_rootOf 94 = .ok (.ireturn, 1) := by decide +kernel
set_option maxRecDepth 100000 in
theorem ggX5_miss_X5_cell : GoodIn wsX5_miss wsX5_cell := goodIn_g _ [10] [0] rfl (by decide +kernel)
set_option maxRecDepth 100000 in
theorem gX5_miss_X5_cell : GoodIn wsX5_miss (va_wsS RX5 117 yX5_cell wsX5_cell) := goodIn_app (goodIn_of _ (by decide +kernel)) ggX5_miss_X5_cell
theorem dX5_miss_0 : decode cX5_miss 0 = .ok (.iload_n 1, 1) := by decide +kernel
theorem dX5_miss_1 : decode cX5_miss 1 = .ok (.ifCond .ne 33, 3) := by decide +kernel
theorem dX5_miss_4 : decode cX5_miss 4 = .ok (.aload_n 0, 1) := by decide +kernel
theorem dX5_miss_5 : decode cX5_miss 5 = .ok (.getfield 41, 3) := by decide +kernel
theorem dX5_miss_8 : decode cX5_miss 8 = .ok (.getfield 140, 3) := by decide +kernel
theorem dX5_miss_11 : decode cX5_miss 11 = .ok (.aload_n 0, 1) := by decide +kernel
theorem dX5_miss_12 : decode cX5_miss 12 = .ok (.getfield 41, 3) := by decide +kernel
theorem dX5_miss_15 : decode cX5_miss 15 = .ok (.getfield 128, 3) := by decide +kernel
theorem dX5_miss_18 : decode cX5_miss 18 = .ok (.invokestatic 117, 3) := by decide +kernel
theorem dX5_miss_21 : decode cX5_miss 21 = .ok (.i2l, 1) := by decide +kernel
theorem dX5_miss_22 : decode cX5_miss 22 = .ok (.aload_n 0, 1) := by decide +kernel
theorem dX5_miss_23 : decode cX5_miss 23 = .ok (.getfield 30, 3) := by decide +kernel
theorem dX5_miss_26 : decode cX5_miss 26 = .ok (.bipush 6, 2) := by decide +kernel
theorem dX5_miss_28 : decode cX5_miss 28 = .ok (.invokestatic 117, 3) := by decide +kernel
theorem dX5_miss_31 : decode cX5_miss 31 = .ok (.i2l, 1) := by decide +kernel
theorem dX5_miss_32 : decode cX5_miss 32 = .ok (.lsub, 1) := by decide +kernel
theorem dX5_miss_33 : decode cX5_miss 33 = .ok (.lreturn, 1) := by decide +kernel
theorem dX5_miss_34 : decode cX5_miss 34 = .ok (.iload_n 1, 1) := by decide +kernel
theorem dX5_miss_35 : decode cX5_miss 35 = .ok (.iconst 1, 1) := by decide +kernel
theorem dX5_miss_36 : decode cX5_miss 36 = .ok (.if_icmp .ne 33, 3) := by decide +kernel
theorem dX5_miss_39 : decode cX5_miss 39 = .ok (.aload_n 0, 1) := by decide +kernel
theorem dX5_miss_40 : decode cX5_miss 40 = .ok (.getfield 41, 3) := by decide +kernel
theorem dX5_miss_43 : decode cX5_miss 43 = .ok (.getfield 137, 3) := by decide +kernel
theorem dX5_miss_46 : decode cX5_miss 46 = .ok (.aload_n 0, 1) := by decide +kernel
theorem dX5_miss_47 : decode cX5_miss 47 = .ok (.getfield 41, 3) := by decide +kernel
theorem dX5_miss_50 : decode cX5_miss 50 = .ok (.getfield 128, 3) := by decide +kernel
theorem dX5_miss_53 : decode cX5_miss 53 = .ok (.invokestatic 117, 3) := by decide +kernel
theorem dX5_miss_56 : decode cX5_miss 56 = .ok (.i2l, 1) := by decide +kernel
theorem dX5_miss_57 : decode cX5_miss 57 = .ok (.aload_n 0, 1) := by decide +kernel
theorem dX5_miss_58 : decode cX5_miss 58 = .ok (.getfield 30, 3) := by decide +kernel
theorem dX5_miss_61 : decode cX5_miss 61 = .ok (.bipush 7, 2) := by decide +kernel
theorem dX5_miss_63 : decode cX5_miss 63 = .ok (.invokestatic 117, 3) := by decide +kernel
theorem dX5_miss_66 : decode cX5_miss 66 = .ok (.i2l, 1) := by decide +kernel
theorem dX5_miss_67 : decode cX5_miss 67 = .ok (.lsub, 1) := by decide +kernel
theorem dX5_miss_68 : decode cX5_miss 68 = .ok (.lreturn, 1) := by decide +kernel
theorem dX5_miss_69 : decode cX5_miss 69 = .ok (.ldc2_w 112, 3) := by decide +kernel
theorem dX5_miss_72 : decode cX5_miss 72 = .ok (.lreturn, 1) := by decide +kernel
set_option maxRecDepth 100000 in
theorem ggX5_meets_X2_has : GoodIn wsX5_meets wsX2_has := goodIn_g _ [8, 0, 75, 0] [0, 1, 2, 3] rfl (by decide +kernel)
set_option maxRecDepth 100000 in
theorem gX5_meets_X2_has : GoodIn wsX5_meets (wsV RX5 87 RX2 yX2_has wsX2_has) := goodIn_app (goodIn_of _ (by decide +kernel)) ggX5_meets_X2_has
set_option maxRecDepth 100000 in
theorem ggX5_meets_X2_read : GoodIn wsX5_meets wsX2_read := goodIn_g _ [9, 3, 0, 0, 0, 0, 67, 0] [1, 0, 2, 3, 4, 5, 6, 7] rfl (by decide +kernel)
set_option maxRecDepth 100000 in
theorem gX5_meets_X2_read : GoodIn wsX5_meets (wsV RX5 95 RX2 yX2_read wsX2_read) := goodIn_app (goodIn_of _ (by decide +kernel)) ggX5_meets_X2_read
set_option maxRecDepth 100000 in
theorem ggX5_meets_X5_cell : GoodIn wsX5_meets wsX5_cell := goodIn_g _ [17] [0] rfl (by decide +kernel)
set_option maxRecDepth 100000 in
theorem gX5_meets_X5_cell : GoodIn wsX5_meets (va_wsS RX5 117 yX5_cell wsX5_cell) := goodIn_app (goodIn_of _ (by decide +kernel)) ggX5_meets_X5_cell
set_option maxRecDepth 100000 in
theorem ggX5_meets_X0_turnBut : GoodIn wsX5_meets wsX0_turnBut := goodIn_g _ [7, 1, 1, 0, 0, 0, 0, 0, 0, 0, 3, 0, 0, 0, 0, 0, 0, 0, 0, 0, 0, 0, 0, 0, 0, 0, 0, 0, 0, 0, 0, 42, 0, 0, 0, 0, 0, 0, 0, 0, 0] [11, 12, 13, 14, 15, 16, 10, 17, 18, 2, 3, 0, 4, 1, 5, 6, 7, 8, 19, 20, 21, 22, 23, 24, 25, 9, 26, 27, 28, 29, 30, 33, 34, 35, 36, 37, 38, 39, 40, 31, 32] rfl (by decide +kernel)
set_option maxRecDepth 100000 in
theorem gX5_meets_X0_turnBut : GoodIn wsX5_meets (wsV RX5 195 RX0 yX0_turnBut wsX0_turnBut) := goodIn_app (goodIn_of _ (by decide +kernel)) ggX5_meets_X0_turnBut
set_option maxRecDepth 100000 in
theorem ggX5_meets_X0_offsetBut : GoodIn wsX5_meets wsX0_offsetBut := goodIn_g _ [7, 1, 1, 0, 0, 0, 0, 0, 0, 4, 1, 0, 4, 0, 0, 0, 0, 3, 0, 0, 0, 0, 3, 0, 0, 0, 0, 0, 0, 0, 0, 0, 0, 28, 0, 0, 0, 0, 0, 0, 0, 0, 0] [22, 10, 11, 23, 24, 25, 9, 26, 27, 12, 2, 3, 0, 4, 1, 5, 6, 7, 8, 13, 14, 15, 16, 28, 29, 30, 31, 32, 17, 18, 19, 20, 21, 35, 36, 37, 38, 39, 40, 41, 42, 33, 34] rfl (by decide +kernel)
set_option maxRecDepth 100000 in
theorem gX5_meets_X0_offsetBut : GoodIn wsX5_meets (wsV RX5 198 RX0 yX0_offsetBut wsX0_offsetBut) := goodIn_app (goodIn_of _ (by decide +kernel)) ggX5_meets_X0_offsetBut
set_option maxRecDepth 100000 in
theorem ggX5_meets_X5_meetsBy : GoodIn wsX5_meets wsX5_meetsBy := goodIn_g _ [1, 1, 1, 0, 0, 0, 0, 1, 0, 0, 0, 0, 0, 0, 0, 3, 1, 1, 0, 0, 0, 0, 0, 0, 0, 0, 0, 0, 0, 0, 0, 0, 0, 0, 4, 0, 0, 0, 0, 0, 0, 0, 0, 0, 3, 0, 0, 0, 0, 0, 0, 0, 0, 0, 0, 0, 0, 0, 0, 0, 0, 0, 0, 0, 0, 0, 0, 0, 0, 0, 0, 0, 0, 0, 0, 0, 0, 0, 0] [44, 0, 1, 45, 46, 47, 4, 48, 10, 49, 2, 3, 5, 6, 50, 12, 51, 52, 53, 54, 15, 55, 17, 18, 19, 20, 16, 21, 7, 8, 9, 11, 13, 22, 23, 24, 25, 26, 27, 28, 14, 29, 30, 31, 32, 33, 56, 57, 58, 59, 34, 35, 36, 37, 38, 39, 40, 41, 42, 43, 60, 61, 62, 63, 64, 65, 66, 67, 68, 69, 70, 71, 72, 73, 74, 75, 76, 77, 78] rfl (by decide +kernel)
set_option maxRecDepth 100000 in
theorem gX5_meets_X5_meetsBy : GoodIn wsX5_meets (wsV RX5 201 RX5 yX5_meetsBy wsX5_meetsBy) := goodIn_app (goodIn_of _ (by decide +kernel)) ggX5_meets_X5_meetsBy
set_option maxRecDepth 100000 in
theorem ggX5_meets_X2_write : GoodIn wsX5_meets wsX2_write := goodIn_g _ [5, 0, 0, 0, 0, 4, 1, 47, 0, 0, 0, 17, 0] [7, 5, 8, 0, 1, 2, 3, 4, 9, 6, 10, 11, 12] rfl (by decide +kernel)
set_option maxRecDepth 100000 in
theorem gX5_meets_X2_write : GoodIn wsX5_meets (wsV RX5 80 RX2 yX2_write wsX2_write) := goodIn_app (goodIn_of _ (by decide +kernel)) ggX5_meets_X2_write
theorem dX5_meets_0 : decode cX5_meets 0 = .ok (.aload_n 0, 1) := by decide +kernel
theorem dX5_meets_1 : decode cX5_meets 1 = .ok (.getfield 12, 3) := by decide +kernel
theorem dX5_meets_4 : decode cX5_meets 4 = .ok (.iload_n 1, 1) := by decide +kernel
theorem dX5_meets_5 : decode cX5_meets 5 = .ok (.invokevirtual 87, 3) := by decide +kernel
theorem dX5_meets_8 : decode cX5_meets 8 = .ok (.ifCond .ne 6, 3) := by decide +kernel
theorem dX5_meets_11 : decode cX5_meets 11 = .ok (.bipush (-2), 2) := by decide +kernel
theorem dX5_meets_13 : decode cX5_meets 13 = .ok (.ireturn, 1) := by decide +kernel
theorem dX5_meets_14 : decode cX5_meets 14 = .ok (.aload_n 0, 1) := by decide +kernel
theorem dX5_meets_15 : decode cX5_meets 15 = .ok (.getfield 12, 3) := by decide +kernel
theorem dX5_meets_18 : decode cX5_meets 18 = .ok (.iload_n 1, 1) := by decide +kernel
theorem dX5_meets_19 : decode cX5_meets 19 = .ok (.iconst 2, 1) := by decide +kernel
theorem dX5_meets_20 : decode cX5_meets 20 = .ok (.invokevirtual 95, 3) := by decide +kernel
theorem dX5_meets_23 : decode cX5_meets 23 = .ok (.istore_n 2, 1) := by decide +kernel
theorem dX5_meets_24 : decode cX5_meets 24 = .ok (.aload_n 0, 1) := by decide +kernel
theorem dX5_meets_25 : decode cX5_meets 25 = .ok (.getfield 30, 3) := by decide +kernel
theorem dX5_meets_28 : decode cX5_meets 28 = .ok (.bipush 7, 2) := by decide +kernel
theorem dX5_meets_30 : decode cX5_meets 30 = .ok (.invokestatic 117, 3) := by decide +kernel
theorem dX5_meets_33 : decode cX5_meets 33 = .ok (.aload_n 0, 1) := by decide +kernel
theorem dX5_meets_34 : decode cX5_meets 34 = .ok (.getfield 41, 3) := by decide +kernel
theorem dX5_meets_37 : decode cX5_meets 37 = .ok (.iload_n 1, 1) := by decide +kernel
theorem dX5_meets_38 : decode cX5_meets 38 = .ok (.invokevirtual 195, 3) := by decide +kernel
theorem dX5_meets_41 : decode cX5_meets 41 = .ok (.isub, 1) := by decide +kernel
theorem dX5_meets_42 : decode cX5_meets 42 = .ok (.istore_n 3, 1) := by decide +kernel
theorem dX5_meets_43 : decode cX5_meets 43 = .ok (.aload_n 0, 1) := by decide +kernel
theorem dX5_meets_44 : decode cX5_meets 44 = .ok (.getfield 30, 3) := by decide +kernel
theorem dX5_meets_47 : decode cX5_meets 47 = .ok (.bipush 6, 2) := by decide +kernel
theorem dX5_meets_49 : decode cX5_meets 49 = .ok (.invokestatic 117, 3) := by decide +kernel
theorem dX5_meets_52 : decode cX5_meets 52 = .ok (.aload_n 0, 1) := by decide +kernel
theorem dX5_meets_53 : decode cX5_meets 53 = .ok (.getfield 41, 3) := by decide +kernel
theorem dX5_meets_56 : decode cX5_meets 56 = .ok (.iload_n 1, 1) := by decide +kernel
theorem dX5_meets_57 : decode cX5_meets 57 = .ok (.invokevirtual 198, 3) := by decide +kernel
theorem dX5_meets_60 : decode cX5_meets 60 = .ok (.isub, 1) := by decide +kernel
theorem dX5_meets_61 : decode cX5_meets 61 = .ok (.istore 4, 2) := by decide +kernel
theorem dX5_meets_63 : decode cX5_meets 63 = .ok (.iconst (-1), 1) := by decide +kernel
theorem dX5_meets_64 : decode cX5_meets 64 = .ok (.istore 5, 2) := by decide +kernel
theorem dX5_meets_66 : decode cX5_meets 66 = .ok (.iconst 0, 1) := by decide +kernel
theorem dX5_meets_67 : decode cX5_meets 67 = .ok (.istore 6, 2) := by decide +kernel
theorem dX5_meets_69 : decode cX5_meets 69 = .ok (.iload 6, 2) := by decide +kernel
theorem dX5_meets_71 : decode cX5_meets 71 = .ok (.bipush 99, 2) := by decide +kernel
theorem dX5_meets_73 : decode cX5_meets 73 = .ok (.if_icmp .gt 61, 3) := by decide +kernel
theorem dX5_meets_76 : decode cX5_meets 76 = .ok (.iload 5, 2) := by decide +kernel
theorem dX5_meets_78 : decode cX5_meets 78 = .ok (.iconst (-1), 1) := by decide +kernel
theorem dX5_meets_79 : decode cX5_meets 79 = .ok (.if_icmp .ne 55, 3) := by decide +kernel
theorem dX5_meets_82 : decode cX5_meets 82 = .ok (.aload_n 0, 1) := by decide +kernel
theorem dX5_meets_83 : decode cX5_meets 83 = .ok (.iload_n 1, 1) := by decide +kernel
theorem dX5_meets_84 : decode cX5_meets 84 = .ok (.iload 6, 2) := by decide +kernel
theorem dX5_meets_86 : decode cX5_meets 86 = .ok (.iload_n 3, 1) := by decide +kernel
theorem dX5_meets_87 : decode cX5_meets 87 = .ok (.iload 4, 2) := by decide +kernel
theorem dX5_meets_89 : decode cX5_meets 89 = .ok (.invokevirtual 201, 3) := by decide +kernel
theorem dX5_meets_92 : decode cX5_meets 92 = .ok (.ifCond .eq 14, 3) := by decide +kernel
theorem dX5_meets_95 : decode cX5_meets 95 = .ok (.sipush 1000, 3) := by decide +kernel
theorem dX5_meets_98 : decode cX5_meets 98 = .ok (.iload 6, 2) := by decide +kernel
theorem dX5_meets_100 : decode cX5_meets 100 = .ok (.iadd, 1) := by decide +kernel
theorem dX5_meets_101 : decode cX5_meets 101 = .ok (.istore 5, 2) := by decide +kernel
theorem dX5_meets_103 : decode cX5_meets 103 = .ok (.goto 25, 3) := by decide +kernel
theorem dX5_meets_106 : decode cX5_meets 106 = .ok (.aload_n 0, 1) := by decide +kernel
theorem dX5_meets_107 : decode cX5_meets 107 = .ok (.iload_n 1, 1) := by decide +kernel
theorem dX5_meets_108 : decode cX5_meets 108 = .ok (.iload 6, 2) := by decide +kernel
theorem dX5_meets_110 : decode cX5_meets 110 = .ok (.ineg, 1) := by decide +kernel
theorem dX5_meets_111 : decode cX5_meets 111 = .ok (.iload_n 3, 1) := by decide +kernel
theorem dX5_meets_112 : decode cX5_meets 112 = .ok (.iload 4, 2) := by decide +kernel
theorem dX5_meets_114 : decode cX5_meets 114 = .ok (.invokevirtual 201, 3) := by decide +kernel
theorem dX5_meets_117 : decode cX5_meets 117 = .ok (.ifCond .eq 11, 3) := by decide +kernel
theorem dX5_meets_120 : decode cX5_meets 120 = .ok (.sipush 1000, 3) := by decide +kernel
theorem dX5_meets_123 : decode cX5_meets 123 = .ok (.iload 6, 2) := by decide +kernel
theorem dX5_meets_125 : decode cX5_meets 125 = .ok (.isub, 1) := by decide +kernel
theorem dX5_meets_126 : decode cX5_meets 126 = .ok (.istore 5, 2) := by decide +kernel
theorem dX5_meets_128 : decode cX5_meets 128 = .ok (.iinc 6 1, 3) := by decide +kernel
theorem dX5_meets_131 : decode cX5_meets 131 = .ok (.goto (-62), 3) := by decide +kernel
theorem dX5_meets_134 : decode cX5_meets 134 = .ok (.aload_n 0, 1) := by decide +kernel
theorem dX5_meets_135 : decode cX5_meets 135 = .ok (.getfield 12, 3) := by decide +kernel
theorem dX5_meets_138 : decode cX5_meets 138 = .ok (.iload_n 1, 1) := by decide +kernel
theorem dX5_meets_139 : decode cX5_meets 139 = .ok (.iconst 2, 1) := by decide +kernel
theorem dX5_meets_140 : decode cX5_meets 140 = .ok (.iload_n 2, 1) := by decide +kernel
theorem dX5_meets_141 : decode cX5_meets 141 = .ok (.invokevirtual 80, 3) := by decide +kernel
theorem dX5_meets_144 : decode cX5_meets 144 = .ok (.iload 5, 2) := by decide +kernel
theorem dX5_meets_146 : decode cX5_meets 146 = .ok (.ireturn, 1) := by decide +kernel
set_option maxRecDepth 100000 in
theorem ggX5_both_X2_has : GoodIn wsX5_both wsX2_has := goodIn_g _ [6, 0, 81, 0] [0, 1, 2, 3] rfl (by decide +kernel)
set_option maxRecDepth 100000 in
theorem gX5_both_X2_has : GoodIn wsX5_both (wsV RX5 87 RX2 yX2_has wsX2_has) := goodIn_app (goodIn_of _ (by decide +kernel)) ggX5_both_X2_has
set_option maxRecDepth 100000 in
theorem ggX5_both_X2_read : GoodIn wsX5_both wsX2_read := goodIn_g _ [7, 3, 0, 0, 0, 0, 73, 0] [1, 0, 2, 3, 4, 5, 6, 7] rfl (by decide +kernel)
set_option maxRecDepth 100000 in
theorem gX5_both_X2_read : GoodIn wsX5_both (wsV RX5 95 RX2 yX2_read wsX2_read) := goodIn_app (goodIn_of _ (by decide +kernel)) ggX5_both_X2_read
set_option maxRecDepth 100000 in
theorem ggX5_both_X2_write : GoodIn wsX5_both wsX2_write := goodIn_g _ [3, 0, 0, 0, 0, 4, 1, 4, 0, 0, 0, 66, 0] [7, 5, 8, 0, 1, 2, 3, 4, 9, 6, 10, 11, 12] rfl (by decide +kernel)
set_option maxRecDepth 100000 in
theorem gX5_both_X2_write : GoodIn wsX5_both (wsV RX5 80 RX2 yX2_write wsX2_write) := goodIn_app (goodIn_of _ (by decide +kernel)) ggX5_both_X2_write
set_option maxRecDepth 100000 in
theorem ggX5_both_X5_firstToMeet : GoodIn wsX5_both wsX5_firstToMeet := goodIn_g _ [1, 1, 0, 0, 0, 0, 1, 0, 0, 0, 0, 0, 0, 0, 0, 0, 0, 0, 0, 0, 3, 0, 0, 0, 0, 0, 0, 0, 0, 0, 0, 0, 0, 0, 0, 0, 0, 0, 0, 0, 0, 0, 0, 0, 0, 0, 0, 0, 0, 0, 0, 0, 0, 0, 0, 0, 0, 0, 0, 0, 0, 0, 0, 0, 0, 0, 0, 0, 0, 0, 0, 0, 0, 0, 0, 0, 0, 0, 0, 0, 0, 0, 0, 0, 0, 0, 0, 0, 0, 0, 0, 0, 0] [20, 21, 22, 23, 10, 11, 12, 24, 25, 26, 27, 28, 29, 30, 31, 32, 33, 34, 35, 6, 7, 3, 8, 5, 9, 36, 37, 38, 39, 40, 41, 42, 43, 44, 45, 46, 47, 48, 49, 50, 51, 52, 53, 54, 55, 56, 57, 58, 59, 60, 61, 62, 63, 64, 65, 0, 13, 14, 15, 16, 17, 1, 2, 4, 18, 19, 66, 67, 68, 69, 70, 71, 72, 73, 74, 75, 76, 77, 78, 79, 80, 81, 82, 85, 86, 87, 88, 89, 90, 91, 92, 83, 84] rfl (by decide +kernel)
set_option maxRecDepth 100000 in
theorem gX5_both_X5_firstToMeet : GoodIn wsX5_both (wsV RX5 205 RX5 yX5_firstToMeet wsX5_firstToMeet) := goodIn_app (goodIn_of _ (by decide +kernel)) ggX5_both_X5_firstToMeet
theorem dX5_both_0 : decode cX5_both 0 = .ok (.aload_n 0, 1) := by decide +kernel
theorem dX5_both_1 : decode cX5_both 1 = .ok (.getfield 12, 3) := by decide +kernel
theorem dX5_both_4 : decode cX5_both 4 = .ok (.iload_n 1, 1) := by decide +kernel
theorem dX5_both_5 : decode cX5_both 5 = .ok (.invokevirtual 87, 3) := by decide +kernel
theorem dX5_both_8 : decode cX5_both 8 = .ok (.ifCond .eq 19, 3) := by decide +kernel
theorem dX5_both_11 : decode cX5_both 11 = .ok (.aload_n 0, 1) := by decide +kernel
theorem dX5_both_12 : decode cX5_both 12 = .ok (.getfield 12, 3) := by decide +kernel
theorem dX5_both_15 : decode cX5_both 15 = .ok (.iload_n 2, 1) := by decide +kernel
theorem dX5_both_16 : decode cX5_both 16 = .ok (.invokevirtual 87, 3) := by decide +kernel
theorem dX5_both_19 : decode cX5_both 19 = .ok (.ifCond .eq 8, 3) := by decide +kernel
theorem dX5_both_22 : decode cX5_both 22 = .ok (.iload_n 1, 1) := by decide +kernel
theorem dX5_both_23 : decode cX5_both 23 = .ok (.iload_n 2, 1) := by decide +kernel
theorem dX5_both_24 : decode cX5_both 24 = .ok (.if_icmp .ne 6, 3) := by decide +kernel
theorem dX5_both_27 : decode cX5_both 27 = .ok (.bipush (-2), 2) := by decide +kernel
theorem dX5_both_29 : decode cX5_both 29 = .ok (.ireturn, 1) := by decide +kernel
theorem dX5_both_30 : decode cX5_both 30 = .ok (.aload_n 0, 1) := by decide +kernel
theorem dX5_both_31 : decode cX5_both 31 = .ok (.getfield 12, 3) := by decide +kernel
theorem dX5_both_34 : decode cX5_both 34 = .ok (.iload_n 1, 1) := by decide +kernel
theorem dX5_both_35 : decode cX5_both 35 = .ok (.iconst 2, 1) := by decide +kernel
theorem dX5_both_36 : decode cX5_both 36 = .ok (.invokevirtual 95, 3) := by decide +kernel
theorem dX5_both_39 : decode cX5_both 39 = .ok (.istore_n 3, 1) := by decide +kernel
theorem dX5_both_40 : decode cX5_both 40 = .ok (.aload_n 0, 1) := by decide +kernel
theorem dX5_both_41 : decode cX5_both 41 = .ok (.getfield 12, 3) := by decide +kernel
theorem dX5_both_44 : decode cX5_both 44 = .ok (.iload_n 2, 1) := by decide +kernel
theorem dX5_both_45 : decode cX5_both 45 = .ok (.iconst 2, 1) := by decide +kernel
theorem dX5_both_46 : decode cX5_both 46 = .ok (.invokevirtual 95, 3) := by decide +kernel
theorem dX5_both_49 : decode cX5_both 49 = .ok (.istore 4, 2) := by decide +kernel
theorem dX5_both_51 : decode cX5_both 51 = .ok (.iconst (-1), 1) := by decide +kernel
theorem dX5_both_52 : decode cX5_both 52 = .ok (.istore 5, 2) := by decide +kernel
theorem dX5_both_54 : decode cX5_both 54 = .ok (.bipush (-30), 2) := by decide +kernel
theorem dX5_both_56 : decode cX5_both 56 = .ok (.istore 6, 2) := by decide +kernel
theorem dX5_both_58 : decode cX5_both 58 = .ok (.iload 6, 2) := by decide +kernel
theorem dX5_both_60 : decode cX5_both 60 = .ok (.bipush 30, 2) := by decide +kernel
theorem dX5_both_62 : decode cX5_both 62 = .ok (.if_icmp .gt 52, 3) := by decide +kernel
theorem dX5_both_65 : decode cX5_both 65 = .ok (.iload 5, 2) := by decide +kernel
theorem dX5_both_67 : decode cX5_both 67 = .ok (.iconst (-1), 1) := by decide +kernel
theorem dX5_both_68 : decode cX5_both 68 = .ok (.if_icmp .ne 46, 3) := by decide +kernel
theorem dX5_both_71 : decode cX5_both 71 = .ok (.aload_n 0, 1) := by decide +kernel
theorem dX5_both_72 : decode cX5_both 72 = .ok (.getfield 12, 3) := by decide +kernel
theorem dX5_both_75 : decode cX5_both 75 = .ok (.iload_n 1, 1) := by decide +kernel
theorem dX5_both_76 : decode cX5_both 76 = .ok (.iconst 2, 1) := by decide +kernel
theorem dX5_both_77 : decode cX5_both 77 = .ok (.iload 6, 2) := by decide +kernel
theorem dX5_both_79 : decode cX5_both 79 = .ok (.invokevirtual 80, 3) := by decide +kernel
theorem dX5_both_82 : decode cX5_both 82 = .ok (.aload_n 0, 1) := by decide +kernel
theorem dX5_both_83 : decode cX5_both 83 = .ok (.iload_n 2, 1) := by decide +kernel
theorem dX5_both_84 : decode cX5_both 84 = .ok (.invokevirtual 205, 3) := by decide +kernel
theorem dX5_both_87 : decode cX5_both 87 = .ok (.istore 7, 2) := by decide +kernel
theorem dX5_both_89 : decode cX5_both 89 = .ok (.iload 7, 2) := by decide +kernel
theorem dX5_both_91 : decode cX5_both 91 = .ok (.iconst (-1), 1) := by decide +kernel
theorem dX5_both_92 : decode cX5_both 92 = .ok (.if_icmp .eq 16, 3) := by decide +kernel
theorem dX5_both_95 : decode cX5_both 95 = .ok (.bipush 61, 2) := by decide +kernel
theorem dX5_both_97 : decode cX5_both 97 = .ok (.iload 6, 2) := by decide +kernel
theorem dX5_both_99 : decode cX5_both 99 = .ok (.bipush 30, 2) := by decide +kernel
theorem dX5_both_101 : decode cX5_both 101 = .ok (.iadd, 1) := by decide +kernel
theorem dX5_both_102 : decode cX5_both 102 = .ok (.imul, 1) := by decide +kernel
theorem dX5_both_103 : decode cX5_both 103 = .ok (.iload 7, 2) := by decide +kernel
theorem dX5_both_105 : decode cX5_both 105 = .ok (.iadd, 1) := by decide +kernel
theorem dX5_both_106 : decode cX5_both 106 = .ok (.istore 5, 2) := by decide +kernel
theorem dX5_both_108 : decode cX5_both 108 = .ok (.iinc 6 1, 3) := by decide +kernel
theorem dX5_both_111 : decode cX5_both 111 = .ok (.goto (-53), 3) := by decide +kernel
theorem dX5_both_114 : decode cX5_both 114 = .ok (.aload_n 0, 1) := by decide +kernel
theorem dX5_both_115 : decode cX5_both 115 = .ok (.getfield 12, 3) := by decide +kernel
theorem dX5_both_118 : decode cX5_both 118 = .ok (.iload_n 1, 1) := by decide +kernel
theorem dX5_both_119 : decode cX5_both 119 = .ok (.iconst 2, 1) := by decide +kernel
theorem dX5_both_120 : decode cX5_both 120 = .ok (.iload_n 3, 1) := by decide +kernel
theorem dX5_both_121 : decode cX5_both 121 = .ok (.invokevirtual 80, 3) := by decide +kernel
theorem dX5_both_124 : decode cX5_both 124 = .ok (.aload_n 0, 1) := by decide +kernel
theorem dX5_both_125 : decode cX5_both 125 = .ok (.getfield 12, 3) := by decide +kernel
theorem dX5_both_128 : decode cX5_both 128 = .ok (.iload_n 2, 1) := by decide +kernel
theorem dX5_both_129 : decode cX5_both 129 = .ok (.iconst 2, 1) := by decide +kernel
theorem dX5_both_130 : decode cX5_both 130 = .ok (.iload 4, 2) := by decide +kernel
theorem dX5_both_132 : decode cX5_both 132 = .ok (.invokevirtual 80, 3) := by decide +kernel
theorem dX5_both_135 : decode cX5_both 135 = .ok (.iload 5, 2) := by decide +kernel
theorem dX5_both_137 : decode cX5_both 137 = .ok (.ireturn, 1) := by decide +kernel
set_option maxRecDepth 100000 in
theorem ggX5_alike_X5_unlike : GoodIn wsX5_alike wsX5_unlike := goodIn_g _ [1, 3, 0, 0, 0, 0, 0, 0, 0, 0, 0, 0, 0, 0, 0, 0, 0, 0, 0, 0, 0, 4, 0, 0, 0, 0, 0, 0, 0, 0, 0, 0] [2, 0, 3, 4, 5, 6, 1, 7, 8, 9, 10, 11, 12, 13, 14, 15, 16, 17, 18, 19, 20, 21, 22, 23, 24, 25, 26, 27, 28, 29, 30, 31] rfl (by decide +kernel)
set_option maxRecDepth 100000 in
theorem gX5_alike_X5_unlike : GoodIn wsX5_alike (wsV RX5 208 RX5 yX5_unlike wsX5_unlike) := goodIn_app (goodIn_of _ (by decide +kernel)) ggX5_alike_X5_unlike
set_option maxRecDepth 100000 in
theorem ggX5_alike_X2_has : GoodIn wsX5_alike wsX2_has := goodIn_g _ [21, 6, 9, 0] [1, 0, 2, 3] rfl (by decide +kernel)
set_option maxRecDepth 100000 in
theorem gX5_alike_X2_has : GoodIn wsX5_alike (wsV RX5 87 RX2 yX2_has wsX2_has) := goodIn_app (goodIn_of _ (by decide +kernel)) ggX5_alike_X2_has
set_option maxRecDepth 100000 in
theorem ggX5_alike_X5_alikeTo : GoodIn wsX5_alike wsX5_alikeTo := goodIn_g _ [1, 3, 1, 3, 0, 0, 0, 0, 0, 0, 0, 0, 0, 0, 0, 0, 0, 4, 0, 0, 0, 0, 0, 0, 0, 0, 0, 0] [3, 0, 2, 4, 5, 6, 7, 8, 9, 10, 11, 12, 13, 14, 15, 1, 16, 17, 18, 19, 20, 21, 22, 23, 24, 25, 26, 27] rfl (by decide +kernel)
set_option maxRecDepth 100000 in
theorem gX5_alike_X5_alikeTo : GoodIn wsX5_alike (wsV RX5 211 RX5 yX5_alikeTo wsX5_alikeTo) := goodIn_app (goodIn_of _ (by decide +kernel)) ggX5_alike_X5_alikeTo
theorem dX5_alike_0 : decode cX5_alike 0 = .ok (.iload_n 1, 1) := by decide +kernel
theorem dX5_alike_1 : decode cX5_alike 1 = .ok (.iconst (-1), 1) := by decide +kernel
theorem dX5_alike_2 : decode cX5_alike 2 = .ok (.if_icmp .ne 8, 3) := by decide +kernel
theorem dX5_alike_5 : decode cX5_alike 5 = .ok (.aload_n 0, 1) := by decide +kernel
theorem dX5_alike_6 : decode cX5_alike 6 = .ok (.invokevirtual 208, 3) := by decide +kernel
theorem dX5_alike_9 : decode cX5_alike 9 = .ok (.ireturn, 1) := by decide +kernel
theorem dX5_alike_10 : decode cX5_alike 10 = .ok (.aload_n 0, 1) := by decide +kernel
theorem dX5_alike_11 : decode cX5_alike 11 = .ok (.getfield 12, 3) := by decide +kernel
theorem dX5_alike_14 : decode cX5_alike 14 = .ok (.iload_n 1, 1) := by decide +kernel
theorem dX5_alike_15 : decode cX5_alike 15 = .ok (.invokevirtual 87, 3) := by decide +kernel
theorem dX5_alike_18 : decode cX5_alike 18 = .ok (.ifCond .eq 11, 3) := by decide +kernel
theorem dX5_alike_21 : decode cX5_alike 21 = .ok (.aload_n 0, 1) := by decide +kernel
theorem dX5_alike_22 : decode cX5_alike 22 = .ok (.iload_n 1, 1) := by decide +kernel
theorem dX5_alike_23 : decode cX5_alike 23 = .ok (.invokevirtual 211, 3) := by decide +kernel
theorem dX5_alike_26 : decode cX5_alike 26 = .ok (.goto 5, 3) := by decide +kernel
theorem dX5_alike_29 : decode cX5_alike 29 = .ok (.bipush (-2), 2) := by decide +kernel
theorem dX5_alike_31 : decode cX5_alike 31 = .ok (.ireturn, 1) := by decide +kernel
set_option maxRecDepth 100000 in
theorem ggX5_firstToMeet_X5_cell : GoodIn wsX5_firstToMeet wsX5_cell := goodIn_g _ [6] [0] rfl (by decide +kernel)
set_option maxRecDepth 100000 in
theorem gX5_firstToMeet_X5_cell : GoodIn wsX5_firstToMeet (va_wsS RX5 117 yX5_cell wsX5_cell) := goodIn_app (goodIn_of _ (by decide +kernel)) ggX5_firstToMeet_X5_cell
set_option maxRecDepth 100000 in
theorem ggX5_firstToMeet_X0_turnBut : GoodIn wsX5_firstToMeet wsX0_turnBut := goodIn_g _ [3, 0, 0, 0, 3, 0, 0, 0, 0, 0, 0, 0, 0, 0, 0, 0, 0, 0, 0, 0, 0, 0, 0, 0, 0, 0, 0, 0, 0, 0, 0, 46, 0, 0, 0, 0, 0, 0, 0, 0, 0] [5, 6, 7, 8, 9, 10, 4, 11, 12, 13, 14, 15, 16, 17, 18, 1, 2, 3, 19, 20, 21, 22, 23, 24, 25, 0, 26, 27, 28, 29, 30, 31, 32, 33, 34, 35, 36, 37, 38, 39, 40] rfl (by decide +kernel)
set_option maxRecDepth 100000 in
theorem gX5_firstToMeet_X0_turnBut : GoodIn wsX5_firstToMeet (wsV RX5 195 RX0 yX0_turnBut wsX0_turnBut) := goodIn_app (goodIn_of _ (by decide +kernel)) ggX5_firstToMeet_X0_turnBut
set_option maxRecDepth 100000 in
theorem ggX5_firstToMeet_X0_offsetBut : GoodIn wsX5_firstToMeet wsX0_offsetBut := goodIn_g _ [4, 0, 0, 3, 1, 0, 4, 0, 0, 0, 0, 0, 0, 0, 0, 0, 0, 3, 0, 0, 0, 0, 3, 0, 0, 0, 0, 0, 0, 0, 0, 0, 0, 32, 0, 0, 0, 0, 0, 0, 0, 0, 0] [22, 4, 5, 23, 24, 25, 3, 26, 27, 6, 7, 8, 9, 10, 11, 12, 0, 1, 2, 13, 14, 15, 16, 28, 29, 30, 31, 32, 17, 18, 19, 20, 21, 33, 34, 35, 36, 37, 38, 39, 40, 41, 42] rfl (by decide +kernel)
set_option maxRecDepth 100000 in
theorem gX5_firstToMeet_X0_offsetBut : GoodIn wsX5_firstToMeet (wsV RX5 198 RX0 yX0_offsetBut wsX0_offsetBut) := goodIn_app (goodIn_of _ (by decide +kernel)) ggX5_firstToMeet_X0_offsetBut
set_option maxRecDepth 100000 in
theorem ggX5_firstToMeet_X5_meetsBy : GoodIn wsX5_firstToMeet wsX5_meetsBy := goodIn_g _ [2, 0, 0, 0, 0, 3, 1, 1, 0, 0, 0, 0, 0, 0, 0, 0, 0, 0, 0, 0, 0, 0, 0, 0, 0, 0, 0, 0, 0, 0, 4, 0, 0, 0, 0, 0, 0, 0, 0, 0, 3, 0, 0, 0, 0, 0, 0, 0, 0, 0, 0, 0, 0, 0, 0, 0, 0, 0, 0, 0, 0, 0, 0, 0, 0, 0, 0, 0, 0, 0, 0, 0, 0, 0, 0, 0, 0, 0, 0] [40, 41, 0, 42, 43, 44, 14, 45, 17, 46, 47, 48, 49, 16, 50, 3, 51, 52, 53, 54, 5, 55, 7, 8, 9, 10, 6, 11, 12, 13, 15, 2, 4, 18, 19, 20, 21, 22, 23, 24, 1, 25, 26, 27, 28, 29, 56, 57, 58, 59, 30, 31, 32, 33, 34, 35, 36, 37, 38, 39, 60, 61, 62, 63, 64, 65, 66, 67, 68, 77, 78, 69, 70, 71, 72, 73, 74, 75, 76] rfl (by decide +kernel)
set_option maxRecDepth 100000 in
theorem gX5_firstToMeet_X5_meetsBy : GoodIn wsX5_firstToMeet (wsV RX5 201 RX5 yX5_meetsBy wsX5_meetsBy) := goodIn_app (goodIn_of _ (by decide +kernel)) ggX5_firstToMeet_X5_meetsBy
theorem dX5_firstToMeet_0 : decode cX5_firstToMeet 0 = .ok (.aload_n 0, 1) := by decide +kernel
theorem dX5_firstToMeet_1 : decode cX5_firstToMeet 1 = .ok (.getfield 30, 3) := by decide +kernel
theorem dX5_firstToMeet_4 : decode cX5_firstToMeet 4 = .ok (.bipush 7, 2) := by decide +kernel
theorem dX5_firstToMeet_6 : decode cX5_firstToMeet 6 = .ok (.invokestatic 117, 3) := by decide +kernel
theorem dX5_firstToMeet_9 : decode cX5_firstToMeet 9 = .ok (.aload_n 0, 1) := by decide +kernel
theorem dX5_firstToMeet_10 : decode cX5_firstToMeet 10 = .ok (.getfield 41, 3) := by decide +kernel
theorem dX5_firstToMeet_13 : decode cX5_firstToMeet 13 = .ok (.iload_n 1, 1) := by decide +kernel
theorem dX5_firstToMeet_14 : decode cX5_firstToMeet 14 = .ok (.invokevirtual 195, 3) := by decide +kernel
theorem dX5_firstToMeet_17 : decode cX5_firstToMeet 17 = .ok (.isub, 1) := by decide +kernel
theorem dX5_firstToMeet_18 : decode cX5_firstToMeet 18 = .ok (.istore_n 2, 1) := by decide +kernel
theorem dX5_firstToMeet_19 : decode cX5_firstToMeet 19 = .ok (.aload_n 0, 1) := by decide +kernel
theorem dX5_firstToMeet_20 : decode cX5_firstToMeet 20 = .ok (.getfield 30, 3) := by decide +kernel
theorem dX5_firstToMeet_23 : decode cX5_firstToMeet 23 = .ok (.bipush 6, 2) := by decide +kernel
theorem dX5_firstToMeet_25 : decode cX5_firstToMeet 25 = .ok (.invokestatic 117, 3) := by decide +kernel
theorem dX5_firstToMeet_28 : decode cX5_firstToMeet 28 = .ok (.aload_n 0, 1) := by decide +kernel
theorem dX5_firstToMeet_29 : decode cX5_firstToMeet 29 = .ok (.getfield 41, 3) := by decide +kernel
theorem dX5_firstToMeet_32 : decode cX5_firstToMeet 32 = .ok (.iload_n 1, 1) := by decide +kernel
theorem dX5_firstToMeet_33 : decode cX5_firstToMeet 33 = .ok (.invokevirtual 198, 3) := by decide +kernel
theorem dX5_firstToMeet_36 : decode cX5_firstToMeet 36 = .ok (.isub, 1) := by decide +kernel
theorem dX5_firstToMeet_37 : decode cX5_firstToMeet 37 = .ok (.istore_n 3, 1) := by decide +kernel
theorem dX5_firstToMeet_38 : decode cX5_firstToMeet 38 = .ok (.iconst 0, 1) := by decide +kernel
theorem dX5_firstToMeet_39 : decode cX5_firstToMeet 39 = .ok (.istore 4, 2) := by decide +kernel
theorem dX5_firstToMeet_41 : decode cX5_firstToMeet 41 = .ok (.iload 4, 2) := by decide +kernel
theorem dX5_firstToMeet_43 : decode cX5_firstToMeet 43 = .ok (.bipush 61, 2) := by decide +kernel
theorem dX5_firstToMeet_45 : decode cX5_firstToMeet 45 = .ok (.if_icmp .ge 27, 3) := by decide +kernel
theorem dX5_firstToMeet_48 : decode cX5_firstToMeet 48 = .ok (.aload_n 0, 1) := by decide +kernel
theorem dX5_firstToMeet_49 : decode cX5_firstToMeet 49 = .ok (.iload_n 1, 1) := by decide +kernel
theorem dX5_firstToMeet_50 : decode cX5_firstToMeet 50 = .ok (.iload 4, 2) := by decide +kernel
theorem dX5_firstToMeet_52 : decode cX5_firstToMeet 52 = .ok (.bipush 30, 2) := by decide +kernel
theorem dX5_firstToMeet_54 : decode cX5_firstToMeet 54 = .ok (.isub, 1) := by decide +kernel
theorem dX5_firstToMeet_55 : decode cX5_firstToMeet 55 = .ok (.iload_n 2, 1) := by decide +kernel
theorem dX5_firstToMeet_56 : decode cX5_firstToMeet 56 = .ok (.iload_n 3, 1) := by decide +kernel
theorem dX5_firstToMeet_57 : decode cX5_firstToMeet 57 = .ok (.invokevirtual 201, 3) := by decide +kernel
theorem dX5_firstToMeet_60 : decode cX5_firstToMeet 60 = .ok (.ifCond .eq 6, 3) := by decide +kernel
theorem dX5_firstToMeet_63 : decode cX5_firstToMeet 63 = .ok (.iload 4, 2) := by decide +kernel
theorem dX5_firstToMeet_65 : decode cX5_firstToMeet 65 = .ok (.ireturn, 1) := by decide +kernel
theorem dX5_firstToMeet_66 : decode cX5_firstToMeet 66 = .ok (.iinc 4 1, 3) := by decide +kernel
theorem dX5_firstToMeet_69 : decode cX5_firstToMeet 69 = .ok (.goto (-28), 3) := by decide +kernel
theorem dX5_firstToMeet_72 : decode cX5_firstToMeet 72 = .ok (.iconst (-1), 1) := by decide +kernel
theorem dX5_firstToMeet_73 : decode cX5_firstToMeet 73 = .ok (.ireturn, 1) := by decide +kernel
set_option maxRecDepth 100000 in
theorem ggX5_meetsBy_X2_write : GoodIn wsX5_meetsBy wsX2_write := goodIn_g _ [6, 0, 0, 0, 0, 0, 0, 0, 0, 0, 0, 52, 0] [1, 2, 3, 4, 5, 0, 6, 7, 8, 9, 10, 11, 12] rfl (by decide +kernel)
set_option maxRecDepth 100000 in
theorem gX5_meetsBy_X2_write : GoodIn wsX5_meetsBy (wsV RX5 80 RX2 yX2_write wsX2_write) := goodIn_app (goodIn_of _ (by decide +kernel)) ggX5_meetsBy_X2_write
set_option maxRecDepth 100000 in
theorem ggX5_meetsBy_X0_turnReached : GoodIn wsX5_meetsBy wsX0_turnReached := goodIn_g _ [6, 1, 4, 1, 4, 0, 0, 0, 0, 0, 0, 0, 0, 0, 0, 0, 0, 0, 0, 0, 0, 0, 0, 0, 0, 0, 0, 0, 0, 0, 23, 0, 0, 0, 0, 0, 0, 0, 0, 0] [5, 6, 7, 8, 4, 9, 10, 11, 12, 13, 0, 14, 2, 1, 15, 3, 16, 17, 18, 19, 20, 21, 22, 23, 24, 25, 26, 27, 28, 29, 32, 33, 34, 35, 36, 37, 38, 39, 30, 31] rfl (by decide +kernel)
set_option maxRecDepth 100000 in
theorem gX5_meetsBy_X0_turnReached : GoodIn wsX5_meetsBy (wsV RX5 214 RX0 yX0_turnReached wsX0_turnReached) := goodIn_app (goodIn_of _ (by decide +kernel)) ggX5_meetsBy_X0_turnReached
set_option maxRecDepth 100000 in
theorem ggX5_meetsBy_X0_offsetReached : GoodIn wsX5_meetsBy wsX0_offsetReached := goodIn_g _ [6, 1, 4, 1, 4, 5, 0, 0, 0, 0, 0, 0, 0, 0, 0, 0, 4, 0, 0, 0, 0, 3, 0, 0, 0, 0, 0, 0, 0, 0, 0, 0, 9, 0, 0, 0, 0, 0, 0, 0, 0, 0] [21, 22, 23, 24, 4, 25, 5, 26, 6, 7, 8, 0, 9, 2, 1, 10, 3, 11, 12, 13, 14, 15, 27, 28, 29, 30, 31, 16, 17, 18, 19, 20, 34, 35, 36, 37, 38, 39, 40, 41, 32, 33] rfl (by decide +kernel)
set_option maxRecDepth 100000 in
theorem gX5_meetsBy_X0_offsetReached : GoodIn wsX5_meetsBy (wsV RX5 217 RX0 yX0_offsetReached wsX0_offsetReached) := goodIn_app (goodIn_of _ (by decide +kernel)) ggX5_meetsBy_X0_offsetReached
theorem dX5_meetsBy_0 : decode cX5_meetsBy 0 = .ok (.aload_n 0, 1) := by decide +kernel
theorem dX5_meetsBy_1 : decode cX5_meetsBy 1 = .ok (.getfield 12, 3) := by decide +kernel
theorem dX5_meetsBy_4 : decode cX5_meetsBy 4 = .ok (.iload_n 1, 1) := by decide +kernel
theorem dX5_meetsBy_5 : decode cX5_meetsBy 5 = .ok (.iconst 2, 1) := by decide +kernel
theorem dX5_meetsBy_6 : decode cX5_meetsBy 6 = .ok (.iload_n 2, 1) := by decide +kernel
theorem dX5_meetsBy_7 : decode cX5_meetsBy 7 = .ok (.invokevirtual 80, 3) := by decide +kernel
theorem dX5_meetsBy_10 : decode cX5_meetsBy 10 = .ok (.aload_n 0, 1) := by decide +kernel
theorem dX5_meetsBy_11 : decode cX5_meetsBy 11 = .ok (.getfield 41, 3) := by decide +kernel
theorem dX5_meetsBy_14 : decode cX5_meetsBy 14 = .ok (.iload_n 1, 1) := by decide +kernel
theorem dX5_meetsBy_15 : decode cX5_meetsBy 15 = .ok (.invokevirtual 214, 3) := by decide +kernel
theorem dX5_meetsBy_18 : decode cX5_meetsBy 18 = .ok (.iload_n 3, 1) := by decide +kernel
theorem dX5_meetsBy_19 : decode cX5_meetsBy 19 = .ok (.if_icmp .ne 20, 3) := by decide +kernel
theorem dX5_meetsBy_22 : decode cX5_meetsBy 22 = .ok (.aload_n 0, 1) := by decide +kernel
theorem dX5_meetsBy_23 : decode cX5_meetsBy 23 = .ok (.getfield 41, 3) := by decide +kernel
theorem dX5_meetsBy_26 : decode cX5_meetsBy 26 = .ok (.iload_n 1, 1) := by decide +kernel
theorem dX5_meetsBy_27 : decode cX5_meetsBy 27 = .ok (.invokevirtual 217, 3) := by decide +kernel
theorem dX5_meetsBy_30 : decode cX5_meetsBy 30 = .ok (.iload 4, 2) := by decide +kernel
theorem dX5_meetsBy_32 : decode cX5_meetsBy 32 = .ok (.if_icmp .ne 7, 3) := by decide +kernel
theorem dX5_meetsBy_35 : decode cX5_meetsBy 35 = .ok (.iconst 1, 1) := by decide +kernel
theorem dX5_meetsBy_36 : decode cX5_meetsBy 36 = .ok (.goto 4, 3) := by decide +kernel
theorem dX5_meetsBy_39 : decode cX5_meetsBy 39 = .ok (.iconst 0, 1) := by decide +kernel
theorem dX5_meetsBy_40 : decode cX5_meetsBy 40 = .ok (.ireturn, 1) := by decide +kernel
set_option maxRecDepth 100000 in
theorem ggX5_alikeTo_X2_same : GoodIn wsX5_alikeTo wsX2_same := goodIn_g _ [6, 0, 0, 0, 0, 0, 0, 0, 0, 0, 0, 9, 0] [1, 2, 3, 4, 0, 5, 6, 7, 8, 9, 10, 11, 12] rfl (by decide +kernel)
set_option maxRecDepth 100000 in
theorem gX5_alikeTo_X2_same : GoodIn wsX5_alikeTo (wsV RX5 220 RX2 yX2_same wsX2_same) := goodIn_app (goodIn_of _ (by decide +kernel)) ggX5_alikeTo_X2_same
theorem dX5_alikeTo_0 : decode cX5_alikeTo 0 = .ok (.iconst 0, 1) := by decide +kernel
theorem dX5_alikeTo_1 : decode cX5_alikeTo 1 = .ok (.istore_n 2, 1) := by decide +kernel
theorem dX5_alikeTo_2 : decode cX5_alikeTo 2 = .ok (.iconst 0, 1) := by decide +kernel
theorem dX5_alikeTo_3 : decode cX5_alikeTo 3 = .ok (.istore_n 3, 1) := by decide +kernel
theorem dX5_alikeTo_4 : decode cX5_alikeTo 4 = .ok (.iload_n 3, 1) := by decide +kernel
theorem dX5_alikeTo_5 : decode cX5_alikeTo 5 = .ok (.aload_n 0, 1) := by decide +kernel
theorem dX5_alikeTo_6 : decode cX5_alikeTo 6 = .ok (.getfield 12, 3) := by decide +kernel
theorem dX5_alikeTo_9 : decode cX5_alikeTo 9 = .ok (.getfield 76, 3) := by decide +kernel
theorem dX5_alikeTo_12 : decode cX5_alikeTo 12 = .ok (.if_icmp .ge 27, 3) := by decide +kernel
theorem dX5_alikeTo_15 : decode cX5_alikeTo 15 = .ok (.aload_n 0, 1) := by decide +kernel
theorem dX5_alikeTo_16 : decode cX5_alikeTo 16 = .ok (.getfield 12, 3) := by decide +kernel
theorem dX5_alikeTo_19 : decode cX5_alikeTo 19 = .ok (.iload_n 1, 1) := by decide +kernel
theorem dX5_alikeTo_20 : decode cX5_alikeTo 20 = .ok (.iload_n 3, 1) := by decide +kernel
theorem dX5_alikeTo_21 : decode cX5_alikeTo 21 = .ok (.invokevirtual 220, 3) := by decide +kernel
theorem dX5_alikeTo_24 : decode cX5_alikeTo 24 = .ok (.ifCond .eq 9, 3) := by decide +kernel
theorem dX5_alikeTo_27 : decode cX5_alikeTo 27 = .ok (.iload_n 2, 1) := by decide +kernel
theorem dX5_alikeTo_28 : decode cX5_alikeTo 28 = .ok (.iconst 1, 1) := by decide +kernel
theorem dX5_alikeTo_29 : decode cX5_alikeTo 29 = .ok (.iload_n 3, 1) := by decide +kernel
theorem dX5_alikeTo_30 : decode cX5_alikeTo 30 = .ok (.ishl, 1) := by decide +kernel
theorem dX5_alikeTo_31 : decode cX5_alikeTo 31 = .ok (.ior, 1) := by decide +kernel
theorem dX5_alikeTo_32 : decode cX5_alikeTo 32 = .ok (.istore_n 2, 1) := by decide +kernel
theorem dX5_alikeTo_33 : decode cX5_alikeTo 33 = .ok (.iinc 3 1, 3) := by decide +kernel
theorem dX5_alikeTo_36 : decode cX5_alikeTo 36 = .ok (.goto (-32), 3) := by decide +kernel
theorem dX5_alikeTo_39 : decode cX5_alikeTo 39 = .ok (.iload_n 2, 1) := by decide +kernel
theorem dX5_alikeTo_40 : decode cX5_alikeTo 40 = .ok (.ireturn, 1) := by decide +kernel
set_option maxRecDepth 100000 in
theorem ggX5_unlike_X5_alikeTo : GoodIn wsX5_unlike wsX5_alikeTo := goodIn_g _ [1, 0, 3, 0, 0, 0, 0, 0, 0, 0, 0, 0, 0, 0, 0, 0, 0, 0, 0, 0, 0, 0, 0, 0, 0, 0, 0, 0] [3, 0, 1, 4, 5, 6, 7, 8, 9, 10, 11, 12, 13, 14, 15, 2, 16, 17, 18, 19, 20, 21, 22, 23, 24, 25, 26, 27] rfl (by decide +kernel)
set_option maxRecDepth 100000 in
theorem gX5_unlike_X5_alikeTo : GoodIn wsX5_unlike (wsV RX5 211 RX5 yX5_alikeTo wsX5_alikeTo) := goodIn_app (goodIn_of _ (by decide +kernel)) ggX5_unlike_X5_alikeTo
theorem dX5_unlike_0 : decode cX5_unlike 0 = .ok (.iconst 0, 1) := by decide +kernel
theorem dX5_unlike_1 : decode cX5_unlike 1 = .ok (.istore_n 1, 1) := by decide +kernel
theorem dX5_unlike_2 : decode cX5_unlike 2 = .ok (.iconst 0, 1) := by decide +kernel
theorem dX5_unlike_3 : decode cX5_unlike 3 = .ok (.istore_n 2, 1) := by decide +kernel
theorem dX5_unlike_4 : decode cX5_unlike 4 = .ok (.iload_n 2, 1) := by decide +kernel
theorem dX5_unlike_5 : decode cX5_unlike 5 = .ok (.aload_n 0, 1) := by decide +kernel
theorem dX5_unlike_6 : decode cX5_unlike 6 = .ok (.getfield 12, 3) := by decide +kernel
theorem dX5_unlike_9 : decode cX5_unlike 9 = .ok (.getfield 76, 3) := by decide +kernel
theorem dX5_unlike_12 : decode cX5_unlike 12 = .ok (.if_icmp .ge 28, 3) := by decide +kernel
theorem dX5_unlike_15 : decode cX5_unlike 15 = .ok (.iconst 1, 1) := by decide +kernel
theorem dX5_unlike_16 : decode cX5_unlike 16 = .ok (.iload_n 2, 1) := by decide +kernel
theorem dX5_unlike_17 : decode cX5_unlike 17 = .ok (.ishl, 1) := by decide +kernel
theorem dX5_unlike_18 : decode cX5_unlike 18 = .ok (.iconst 1, 1) := by decide +kernel
theorem dX5_unlike_19 : decode cX5_unlike 19 = .ok (.isub, 1) := by decide +kernel
theorem dX5_unlike_20 : decode cX5_unlike 20 = .ok (.istore_n 3, 1) := by decide +kernel
theorem dX5_unlike_21 : decode cX5_unlike 21 = .ok (.aload_n 0, 1) := by decide +kernel
theorem dX5_unlike_22 : decode cX5_unlike 22 = .ok (.iload_n 2, 1) := by decide +kernel
theorem dX5_unlike_23 : decode cX5_unlike 23 = .ok (.invokevirtual 211, 3) := by decide +kernel
theorem dX5_unlike_26 : decode cX5_unlike 26 = .ok (.iload_n 3, 1) := by decide +kernel
theorem dX5_unlike_27 : decode cX5_unlike 27 = .ok (.iand, 1) := by decide +kernel
theorem dX5_unlike_28 : decode cX5_unlike 28 = .ok (.ifCond .ne 6, 3) := by decide +kernel
theorem dX5_unlike_31 : decode cX5_unlike 31 = .ok (.iinc 1 1, 3) := by decide +kernel
theorem dX5_unlike_34 : decode cX5_unlike 34 = .ok (.iinc 2 1, 3) := by decide +kernel
theorem dX5_unlike_37 : decode cX5_unlike 37 = .ok (.goto (-33), 3) := by decide +kernel
theorem dX5_unlike_40 : decode cX5_unlike 40 = .ok (.iload_n 1, 1) := by decide +kernel
theorem dX5_unlike_41 : decode cX5_unlike 41 = .ok (.ireturn, 1) := by decide +kernel
set_option maxRecDepth 100000 in
theorem ggX5_slew_X5_sheetOf : GoodIn wsX5_slew wsX5_sheetOf := goodIn_g _ [8, 0, 0, 0, 0, 0, 41, 0, 0, 0, 0, 0, 0, 0, 0] [1, 2, 3, 4, 0, 5, 6, 7, 8, 9, 10, 11, 12, 13, 14] rfl (by decide +kernel)
set_option maxRecDepth 100000 in
theorem gX5_slew_X5_sheetOf : GoodIn wsX5_slew (wsV RX5 223 RX5 yX5_sheetOf wsX5_sheetOf) := goodIn_app (goodIn_of _ (by decide +kernel)) ggX5_slew_X5_sheetOf
set_option maxRecDepth 100000 in
theorem ggX5_slew_X3_isMissing : GoodIn wsX5_slew wsX3_isMissing := goodIn_g _ [18, 0, 52, 0, 0] [0, 1, 2, 3, 4] rfl (by decide +kernel)
set_option maxRecDepth 100000 in
theorem gX5_slew_X3_isMissing : GoodIn wsX5_slew (wsV RX5 227 RX3 yX3_isMissing wsX3_isMissing) := goodIn_app (goodIn_of _ (by decide +kernel)) ggX5_slew_X3_isMissing
set_option maxRecDepth 100000 in
theorem ggX5_slew_X5_within : GoodIn wsX5_slew wsX5_within := goodIn_g _ [13] [0] rfl (by decide +kernel)
set_option maxRecDepth 100000 in
theorem gX5_slew_X5_within : GoodIn wsX5_slew (va_wsS RX5 91 yX5_within wsX5_within) := goodIn_app (goodIn_of _ (by decide +kernel)) ggX5_slew_X5_within
set_option maxRecDepth 100000 in
theorem ggX5_slew_X1_tell : GoodIn wsX5_slew wsX1_tell := goodIn_g _ [8, 8, 5, 0, 0, 0, 0, 0, 0, 0, 0, 0, 0, 0, 0, 0, 0, 0, 0, 0, 0, 0, 0, 0, 0, 0, 0, 0, 0, 0, 13, 0, 0, 0, 0, 0, 0, 0, 0, 0, 0, 0, 0, 0] [3, 4, 5, 6, 7, 8, 9, 10, 11, 12, 13, 14, 1, 15, 16, 17, 18, 0, 19, 20, 21, 22, 23, 24, 2, 25, 26, 27, 28, 29, 41, 42, 43, 38, 39, 40, 30, 31, 32, 33, 34, 35, 36, 37] rfl (by decide +kernel)
set_option maxRecDepth 100000 in
theorem gX5_slew_X1_tell : GoodIn wsX5_slew (wsV RX5 231 RX1 yX1_tell wsX1_tell) := goodIn_app (goodIn_of _ (by decide +kernel)) ggX5_slew_X1_tell
set_option maxRecDepth 100000 in
theorem ggX5_slew_X1_slewAt : GoodIn wsX5_slew wsX1_slewAt := goodIn_g _ [8, 30, 0, 9, 3, 20, 0, 0] [4, 3, 1, 0, 2, 5, 6, 7] rfl (by decide +kernel)
set_option maxRecDepth 100000 in
theorem gX5_slew_X1_slewAt : GoodIn wsX5_slew (wsV RX5 235 RX1 yX1_slewAt wsX1_slewAt) := goodIn_app (goodIn_of _ (by decide +kernel)) ggX5_slew_X1_slewAt
theorem dX5_slew_0 : decode cX5_slew 0 = .ok (.aload_n 0, 1) := by decide +kernel
theorem dX5_slew_1 : decode cX5_slew 1 = .ok (.iload_n 1, 1) := by decide +kernel
theorem dX5_slew_2 : decode cX5_slew 2 = .ok (.invokevirtual 223, 3) := by decide +kernel
theorem dX5_slew_5 : decode cX5_slew 5 = .ok (.astore_n 3, 1) := by decide +kernel
theorem dX5_slew_6 : decode cX5_slew 6 = .ok (.aload_n 3, 1) := by decide +kernel
theorem dX5_slew_7 : decode cX5_slew 7 = .ok (.ifnull 25, 3) := by decide +kernel
theorem dX5_slew_10 : decode cX5_slew 10 = .ok (.aload_n 3, 1) := by decide +kernel
theorem dX5_slew_11 : decode cX5_slew 11 = .ok (.invokevirtual 227, 3) := by decide +kernel
theorem dX5_slew_14 : decode cX5_slew 14 = .ok (.ifCond .ne 18, 3) := by decide +kernel
theorem dX5_slew_17 : decode cX5_slew 17 = .ok (.iload_n 2, 1) := by decide +kernel
theorem dX5_slew_18 : decode cX5_slew 18 = .ok (.iconst 0, 1) := by decide +kernel
theorem dX5_slew_19 : decode cX5_slew 19 = .ok (.aload_n 0, 1) := by decide +kernel
theorem dX5_slew_20 : decode cX5_slew 20 = .ok (.getfield 41, 3) := by decide +kernel
theorem dX5_slew_23 : decode cX5_slew 23 = .ok (.getfield 128, 3) := by decide +kernel
theorem dX5_slew_26 : decode cX5_slew 26 = .ok (.invokestatic 91, 3) := by decide +kernel
theorem dX5_slew_29 : decode cX5_slew 29 = .ok (.ifCond .ne 7, 3) := by decide +kernel
theorem dX5_slew_32 : decode cX5_slew 32 = .ok (.ldc2_w 112, 3) := by decide +kernel
theorem dX5_slew_35 : decode cX5_slew 35 = .ok (.lreturn, 1) := by decide +kernel
theorem dX5_slew_36 : decode cX5_slew 36 = .ok (.aload_n 0, 1) := by decide +kernel
theorem dX5_slew_37 : decode cX5_slew 37 = .ok (.getfield 50, 3) := by decide +kernel
theorem dX5_slew_40 : decode cX5_slew 40 = .ok (.aload_n 3, 1) := by decide +kernel
theorem dX5_slew_41 : decode cX5_slew 41 = .ok (.invokevirtual 231, 3) := by decide +kernel
theorem dX5_slew_44 : decode cX5_slew 44 = .ok (.aload_n 0, 1) := by decide +kernel
theorem dX5_slew_45 : decode cX5_slew 45 = .ok (.getfield 50, 3) := by decide +kernel
theorem dX5_slew_48 : decode cX5_slew 48 = .ok (.iload_n 2, 1) := by decide +kernel
theorem dX5_slew_49 : decode cX5_slew 49 = .ok (.invokevirtual 235, 3) := by decide +kernel
theorem dX5_slew_52 : decode cX5_slew 52 = .ok (.i2l, 1) := by decide +kernel
theorem dX5_slew_53 : decode cX5_slew 53 = .ok (.lreturn, 1) := by decide +kernel
set_option maxRecDepth 100000 in
theorem ggX5_slews_X5_sheetOf : GoodIn wsX5_slews wsX5_sheetOf := goodIn_g _ [8, 0, 0, 0, 0, 0, 57, 0, 0, 0, 0, 0, 0, 0, 0] [1, 2, 3, 4, 0, 5, 6, 7, 8, 9, 10, 11, 12, 13, 14] rfl (by decide +kernel)
set_option maxRecDepth 100000 in
theorem gX5_slews_X5_sheetOf : GoodIn wsX5_slews (wsV RX5 223 RX5 yX5_sheetOf wsX5_sheetOf) := goodIn_app (goodIn_of _ (by decide +kernel)) ggX5_slews_X5_sheetOf
set_option maxRecDepth 100000 in
theorem ggX5_slews_X3_isMissing : GoodIn wsX5_slews wsX3_isMissing := goodIn_g _ [18, 0, 68, 0, 0] [0, 1, 2, 3, 4] rfl (by decide +kernel)
set_option maxRecDepth 100000 in
theorem gX5_slews_X3_isMissing : GoodIn wsX5_slews (wsV RX5 227 RX3 yX3_isMissing wsX3_isMissing) := goodIn_app (goodIn_of _ (by decide +kernel)) ggX5_slews_X3_isMissing
set_option maxRecDepth 100000 in
theorem ggX5_slews_X1_tell : GoodIn wsX5_slews wsX1_tell := goodIn_g _ [8, 8, 5, 0, 0, 0, 0, 0, 0, 0, 0, 0, 0, 0, 0, 0, 0, 0, 0, 0, 0, 0, 0, 0, 0, 0, 0, 0, 0, 0, 29, 0, 0, 0, 0, 0, 0, 0, 0, 0, 0, 0, 0, 0] [3, 4, 5, 6, 7, 8, 9, 10, 11, 12, 13, 14, 1, 15, 16, 17, 18, 0, 19, 20, 21, 22, 23, 24, 2, 25, 26, 27, 28, 29, 41, 42, 43, 38, 39, 40, 30, 31, 32, 33, 34, 35, 36, 37] rfl (by decide +kernel)
set_option maxRecDepth 100000 in
theorem gX5_slews_X1_tell : GoodIn wsX5_slews (wsV RX5 231 RX1 yX1_tell wsX1_tell) := goodIn_app (goodIn_of _ (by decide +kernel)) ggX5_slews_X1_tell
set_option maxRecDepth 100000 in
theorem ggX5_slews_X1_widest : GoodIn wsX5_slews wsX1_widest := goodIn_g _ [8, 14, 4, 1, 0, 0, 6, 0, 6, 0, 1, 3, 0, 0, 0, 0, 0, 0, 0, 0, 0, 0, 0, 14, 0, 0, 0, 0, 0, 0, 0, 3, 0, 0] [11, 8, 9, 12, 13, 2, 14, 15, 16, 17, 1, 18, 3, 4, 5, 19, 20, 21, 22, 10, 6, 0, 7, 31, 32, 33, 23, 24, 25, 26, 27, 28, 29, 30] rfl (by decide +kernel)
set_option maxRecDepth 100000 in
theorem gX5_slews_X1_widest : GoodIn wsX5_slews (wsV RX5 238 RX1 yX1_widest wsX1_widest) := goodIn_app (goodIn_of _ (by decide +kernel)) ggX5_slews_X1_widest
set_option maxRecDepth 100000 in
theorem ggX5_slews_X1_together : GoodIn wsX5_slews wsX1_together := goodIn_g _ [8, 14, 4, 10, 0, 6, 0, 1, 4, 0, 0, 4, 0, 0, 0, 3, 10, 0, 0, 0, 0, 0, 0, 0, 3, 0, 0] [15, 5, 6, 8, 9, 2, 10, 11, 12, 13, 1, 14, 7, 3, 0, 4, 24, 25, 26, 16, 17, 18, 19, 20, 21, 22, 23] rfl (by decide +kernel)
set_option maxRecDepth 100000 in
theorem gX5_slews_X1_together : GoodIn wsX5_slews (wsV RX5 241 RX1 yX1_together wsX1_together) := goodIn_app (goodIn_of _ (by decide +kernel)) ggX5_slews_X1_together
set_option maxRecDepth 100000 in
theorem ggX5_slews_X1_slewAt : GoodIn wsX5_slews wsX1_slewAt := goodIn_g _ [8, 30, 0, 9, 14, 25, 0, 0] [4, 3, 1, 0, 2, 5, 6, 7] rfl (by decide +kernel)
set_option maxRecDepth 100000 in
theorem gX5_slews_X1_slewAt : GoodIn wsX5_slews (wsV RX5 235 RX1 yX1_slewAt wsX1_slewAt) := goodIn_app (goodIn_of _ (by decide +kernel)) ggX5_slews_X1_slewAt
theorem dX5_slews_0 : decode cX5_slews 0 = .ok (.aload_n 0, 1) := by decide +kernel
theorem dX5_slews_1 : decode cX5_slews 1 = .ok (.iload_n 1, 1) := by decide +kernel
theorem dX5_slews_2 : decode cX5_slews 2 = .ok (.invokevirtual 223, 3) := by decide +kernel
theorem dX5_slews_5 : decode cX5_slews 5 = .ok (.astore_n 3, 1) := by decide +kernel
theorem dX5_slews_6 : decode cX5_slews 6 = .ok (.aload_n 3, 1) := by decide +kernel
theorem dX5_slews_7 : decode cX5_slews 7 = .ok (.ifnull 10, 3) := by decide +kernel
theorem dX5_slews_10 : decode cX5_slews 10 = .ok (.aload_n 3, 1) := by decide +kernel
theorem dX5_slews_11 : decode cX5_slews 11 = .ok (.invokevirtual 227, 3) := by decide +kernel
theorem dX5_slews_14 : decode cX5_slews 14 = .ok (.ifCond .eq 7, 3) := by decide +kernel
theorem dX5_slews_17 : decode cX5_slews 17 = .ok (.ldc2_w 112, 3) := by decide +kernel
theorem dX5_slews_20 : decode cX5_slews 20 = .ok (.lreturn, 1) := by decide +kernel
theorem dX5_slews_21 : decode cX5_slews 21 = .ok (.aload_n 0, 1) := by decide +kernel
theorem dX5_slews_22 : decode cX5_slews 22 = .ok (.getfield 50, 3) := by decide +kernel
theorem dX5_slews_25 : decode cX5_slews 25 = .ok (.aload_n 3, 1) := by decide +kernel
theorem dX5_slews_26 : decode cX5_slews 26 = .ok (.invokevirtual 231, 3) := by decide +kernel
theorem dX5_slews_29 : decode cX5_slews 29 = .ok (.iload_n 2, 1) := by decide +kernel
theorem dX5_slews_30 : decode cX5_slews 30 = .ok (.tableswitch 59 0 2 #[26, 35, 43], 26) := by decide +kernel
theorem dX5_slews_56 : decode cX5_slews 56 = .ok (.aload_n 0, 1) := by decide +kernel
theorem dX5_slews_57 : decode cX5_slews 57 = .ok (.getfield 50, 3) := by decide +kernel
theorem dX5_slews_60 : decode cX5_slews 60 = .ok (.invokevirtual 238, 3) := by decide +kernel
theorem dX5_slews_63 : decode cX5_slews 63 = .ok (.i2l, 1) := by decide +kernel
theorem dX5_slews_64 : decode cX5_slews 64 = .ok (.lreturn, 1) := by decide +kernel
theorem dX5_slews_65 : decode cX5_slews 65 = .ok (.aload_n 0, 1) := by decide +kernel
theorem dX5_slews_66 : decode cX5_slews 66 = .ok (.getfield 50, 3) := by decide +kernel
theorem dX5_slews_69 : decode cX5_slews 69 = .ok (.invokevirtual 241, 3) := by decide +kernel
theorem dX5_slews_72 : decode cX5_slews 72 = .ok (.lreturn, 1) := by decide +kernel
theorem dX5_slews_73 : decode cX5_slews 73 = .ok (.aload_n 0, 1) := by decide +kernel
theorem dX5_slews_74 : decode cX5_slews 74 = .ok (.getfield 50, 3) := by decide +kernel
theorem dX5_slews_77 : decode cX5_slews 77 = .ok (.aload_n 0, 1) := by decide +kernel
theorem dX5_slews_78 : decode cX5_slews 78 = .ok (.getfield 41, 3) := by decide +kernel
theorem dX5_slews_81 : decode cX5_slews 81 = .ok (.getfield 128, 3) := by decide +kernel
theorem dX5_slews_84 : decode cX5_slews 84 = .ok (.invokevirtual 235, 3) := by decide +kernel
theorem dX5_slews_87 : decode cX5_slews 87 = .ok (.i2l, 1) := by decide +kernel
theorem dX5_slews_88 : decode cX5_slews 88 = .ok (.lreturn, 1) := by decide +kernel
theorem dX5_slews_89 : decode cX5_slews 89 = .ok (.ldc2_w 112, 3) := by decide +kernel
theorem dX5_slews_92 : decode cX5_slews 92 = .ok (.lreturn, 1) := by decide +kernel
set_option maxRecDepth 100000 in
theorem ggX5_by_X5_sheetOf : GoodIn wsX5_by wsX5_sheetOf := goodIn_g _ [7, 0, 0, 0, 0, 0, 94, 0, 0, 0, 0, 0, 0, 0, 0] [1, 2, 3, 4, 0, 5, 6, 7, 8, 9, 10, 11, 12, 13, 14] rfl (by decide +kernel)
set_option maxRecDepth 100000 in
theorem gX5_by_X5_sheetOf : GoodIn wsX5_by (wsV RX5 223 RX5 yX5_sheetOf wsX5_sheetOf) := goodIn_app (goodIn_of _ (by decide +kernel)) ggX5_by_X5_sheetOf
set_option maxRecDepth 100000 in
theorem ggX5_by_X2_has : GoodIn wsX5_by wsX2_has := goodIn_g _ [17, 0, 97, 0] [0, 1, 2, 3] rfl (by decide +kernel)
set_option maxRecDepth 100000 in
theorem gX5_by_X2_has : GoodIn wsX5_by (wsV RX5 87 RX2 yX2_has wsX2_has) := goodIn_app (goodIn_of _ (by decide +kernel)) ggX5_by_X2_has
set_option maxRecDepth 100000 in
theorem ggX5_by_X3_isMissing : GoodIn wsX5_by wsX3_isMissing := goodIn_g _ [23, 0, 93, 0, 0] [0, 1, 2, 3, 4] rfl (by decide +kernel)
set_option maxRecDepth 100000 in
theorem gX5_by_X3_isMissing : GoodIn wsX5_by (wsV RX5 227 RX3 yX3_isMissing wsX3_isMissing) := goodIn_app (goodIn_of _ (by decide +kernel)) ggX5_by_X3_isMissing
set_option maxRecDepth 100000 in
theorem ggX5_by_X1_tell : GoodIn wsX5_by wsX1_tell := goodIn_g _ [7, 14, 5, 0, 0, 0, 0, 0, 0, 0, 0, 0, 0, 0, 0, 0, 0, 0, 0, 0, 0, 0, 0, 0, 0, 0, 0, 0, 0, 0, 62, 0, 0, 0, 0, 0, 0, 0, 0, 0, 0, 0, 0, 0] [3, 4, 5, 6, 7, 8, 9, 10, 11, 12, 13, 14, 1, 15, 16, 17, 18, 0, 19, 20, 21, 22, 23, 24, 2, 25, 26, 27, 28, 29, 33, 34, 35, 30, 31, 32, 36, 37, 38, 39, 40, 41, 42, 43] rfl (by decide +kernel)
set_option maxRecDepth 100000 in
theorem gX5_by_X1_tell : GoodIn wsX5_by (wsV RX5 231 RX1 yX1_tell wsX1_tell) := goodIn_app (goodIn_of _ (by decide +kernel)) ggX5_by_X1_tell
set_option maxRecDepth 100000 in
theorem ggX5_by_X2_read : GoodIn wsX5_by wsX2_read := goodIn_g _ [7, 10, 25, 0, 13, 0, 55, 0] [4, 1, 5, 2, 0, 3, 6, 7] rfl (by decide +kernel)
set_option maxRecDepth 100000 in
theorem gX5_by_X2_read : GoodIn wsX5_by (wsV RX5 95 RX2 yX2_read wsX2_read) := goodIn_app (goodIn_of _ (by decide +kernel)) ggX5_by_X2_read
set_option maxRecDepth 100000 in
theorem ggX5_by_X0_attempt : GoodIn wsX5_by wsX0_attempt := goodIn_g _ [7, 6, 0, 0, 0, 0, 25, 0, 0, 0, 9, 0, 0, 0, 3, 0, 0, 0, 0, 0, 0, 0, 0, 0, 0, 0, 0, 0, 0, 0, 0, 0, 0, 0, 0, 0, 0, 0, 0, 0, 0, 0, 0, 0, 0, 21, 0, 6, 0, 0, 0, 0, 0, 0, 0] [15, 16, 17, 18, 19, 3, 20, 13, 21, 1, 2, 4, 5, 8, 0, 9, 22, 23, 24, 14, 25, 26, 27, 28, 29, 30, 10, 11, 12, 6, 7, 31, 32, 33, 34, 35, 36, 37, 38, 39, 40, 41, 42, 43, 44, 47, 48, 49, 50, 51, 52, 53, 54, 45, 46] rfl (by decide +kernel)
set_option maxRecDepth 100000 in
theorem gX5_by_X0_attempt : GoodIn wsX5_by (wsV RX5 245 RX0 yX0_attempt wsX0_attempt) := goodIn_app (goodIn_of _ (by decide +kernel)) ggX5_by_X0_attempt
set_option maxRecDepth 100000 in
theorem ggX5_by_X1_sum : GoodIn wsX5_by wsX1_sum := goodIn_g _ [7, 22, 13, 0, 0, 0, 3, 0, 0, 0, 0, 65, 0, 0, 0, 0, 0, 0, 0, 0, 0, 0] [6, 7, 8, 1, 9, 10, 2, 0, 3, 4, 5, 11, 12, 13, 14, 15, 16, 17, 18, 19, 20, 21] rfl (by decide +kernel)
set_option maxRecDepth 100000 in
theorem gX5_by_X1_sum : GoodIn wsX5_by (wsV RX5 248 RX1 yX1_sum wsX1_sum) := goodIn_app (goodIn_of _ (by decide +kernel)) ggX5_by_X1_sum
set_option maxRecDepth 100000 in
theorem ggX5_by_X1_greatest : GoodIn wsX5_by wsX1_greatest := goodIn_g _ [7, 20, 4, 1, 0, 0, 6, 0, 6, 0, 1, 43, 0, 0, 0, 0, 0, 0, 0, 14, 0, 0, 0, 0, 0, 0, 0, 0, 0, 0] [11, 8, 9, 12, 13, 2, 14, 3, 4, 5, 15, 16, 17, 1, 18, 10, 6, 0, 7, 19, 20, 21, 22, 23, 24, 25, 26, 27, 28, 29] rfl (by decide +kernel)
set_option maxRecDepth 100000 in
theorem gX5_by_X1_greatest : GoodIn wsX5_by (wsV RX5 251 RX1 yX1_greatest wsX1_greatest) := goodIn_app (goodIn_of _ (by decide +kernel)) ggX5_by_X1_greatest
theorem dX5_by_0 : decode cX5_by 0 = .ok (.aload_n 0, 1) := by decide +kernel
theorem dX5_by_1 : decode cX5_by 1 = .ok (.iload_n 1, 1) := by decide +kernel
theorem dX5_by_2 : decode cX5_by 2 = .ok (.invokevirtual 223, 3) := by decide +kernel
theorem dX5_by_5 : decode cX5_by 5 = .ok (.astore_n 3, 1) := by decide +kernel
theorem dX5_by_6 : decode cX5_by 6 = .ok (.aload_n 3, 1) := by decide +kernel
theorem dX5_by_7 : decode cX5_by 7 = .ok (.ifnull 14, 3) := by decide +kernel
theorem dX5_by_10 : decode cX5_by 10 = .ok (.aload_n 0, 1) := by decide +kernel
theorem dX5_by_11 : decode cX5_by 11 = .ok (.getfield 12, 3) := by decide +kernel
theorem dX5_by_14 : decode cX5_by 14 = .ok (.iload_n 2, 1) := by decide +kernel
theorem dX5_by_15 : decode cX5_by 15 = .ok (.invokevirtual 87, 3) := by decide +kernel
theorem dX5_by_18 : decode cX5_by 18 = .ok (.ifCond .ne 6, 3) := by decide +kernel
theorem dX5_by_21 : decode cX5_by 21 = .ok (.bipush (-2), 2) := by decide +kernel
theorem dX5_by_23 : decode cX5_by 23 = .ok (.ireturn, 1) := by decide +kernel
theorem dX5_by_24 : decode cX5_by 24 = .ok (.aload_n 3, 1) := by decide +kernel
theorem dX5_by_25 : decode cX5_by 25 = .ok (.invokevirtual 227, 3) := by decide +kernel
theorem dX5_by_28 : decode cX5_by 28 = .ok (.ifCond .eq 6, 3) := by decide +kernel
theorem dX5_by_31 : decode cX5_by 31 = .ok (.bipush (-11), 2) := by decide +kernel
theorem dX5_by_33 : decode cX5_by 33 = .ok (.ireturn, 1) := by decide +kernel
theorem dX5_by_34 : decode cX5_by 34 = .ok (.aload_n 0, 1) := by decide +kernel
theorem dX5_by_35 : decode cX5_by 35 = .ok (.getfield 50, 3) := by decide +kernel
theorem dX5_by_38 : decode cX5_by 38 = .ok (.aload_n 3, 1) := by decide +kernel
theorem dX5_by_39 : decode cX5_by 39 = .ok (.invokevirtual 231, 3) := by decide +kernel
theorem dX5_by_42 : decode cX5_by 42 = .ok (.aload_n 0, 1) := by decide +kernel
theorem dX5_by_43 : decode cX5_by 43 = .ok (.getfield 12, 3) := by decide +kernel
theorem dX5_by_46 : decode cX5_by 46 = .ok (.iload_n 2, 1) := by decide +kernel
theorem dX5_by_47 : decode cX5_by 47 = .ok (.iconst 2, 1) := by decide +kernel
theorem dX5_by_48 : decode cX5_by 48 = .ok (.invokevirtual 95, 3) := by decide +kernel
theorem dX5_by_51 : decode cX5_by 51 = .ok (.istore 4, 2) := by decide +kernel
theorem dX5_by_53 : decode cX5_by 53 = .ok (.bipush (-99), 2) := by decide +kernel
theorem dX5_by_55 : decode cX5_by 55 = .ok (.istore 5, 2) := by decide +kernel
theorem dX5_by_57 : decode cX5_by 57 = .ok (.iconst 0, 1) := by decide +kernel
theorem dX5_by_58 : decode cX5_by 58 = .ok (.istore 6, 2) := by decide +kernel
theorem dX5_by_60 : decode cX5_by 60 = .ok (.bipush (-99), 2) := by decide +kernel
theorem dX5_by_62 : decode cX5_by 62 = .ok (.istore 7, 2) := by decide +kernel
theorem dX5_by_64 : decode cX5_by 64 = .ok (.iload 7, 2) := by decide +kernel
theorem dX5_by_66 : decode cX5_by 66 = .ok (.bipush 99, 2) := by decide +kernel
theorem dX5_by_68 : decode cX5_by 68 = .ok (.if_icmp .gt 58, 3) := by decide +kernel
theorem dX5_by_71 : decode cX5_by 71 = .ok (.aload_n 0, 1) := by decide +kernel
theorem dX5_by_72 : decode cX5_by 72 = .ok (.getfield 41, 3) := by decide +kernel
theorem dX5_by_75 : decode cX5_by 75 = .ok (.iload_n 2, 1) := by decide +kernel
theorem dX5_by_76 : decode cX5_by 76 = .ok (.iconst 2, 1) := by decide +kernel
theorem dX5_by_77 : decode cX5_by 77 = .ok (.iload 7, 2) := by decide +kernel
theorem dX5_by_79 : decode cX5_by 79 = .ok (.invokevirtual 245, 3) := by decide +kernel
theorem dX5_by_82 : decode cX5_by 82 = .ok (.aload_n 0, 1) := by decide +kernel
theorem dX5_by_83 : decode cX5_by 83 = .ok (.getfield 50, 3) := by decide +kernel
theorem dX5_by_86 : decode cX5_by 86 = .ok (.invokevirtual 248, 3) := by decide +kernel
theorem dX5_by_89 : decode cX5_by 89 = .ok (.aload_n 0, 1) := by decide +kernel
theorem dX5_by_90 : decode cX5_by 90 = .ok (.getfield 50, 3) := by decide +kernel
theorem dX5_by_93 : decode cX5_by 93 = .ok (.invokevirtual 251, 3) := by decide +kernel
theorem dX5_by_96 : decode cX5_by 96 = .ok (.istore 8, 2) := by decide +kernel
theorem dX5_by_98 : decode cX5_by 98 = .ok (.iload 7, 2) := by decide +kernel
theorem dX5_by_100 : decode cX5_by 100 = .ok (.bipush (-99), 2) := by decide +kernel
theorem dX5_by_102 : decode cX5_by 102 = .ok (.if_icmp .eq 10, 3) := by decide +kernel
theorem dX5_by_105 : decode cX5_by 105 = .ok (.iload 8, 2) := by decide +kernel
theorem dX5_by_107 : decode cX5_by 107 = .ok (.iload 6, 2) := by decide +kernel
theorem dX5_by_109 : decode cX5_by 109 = .ok (.if_icmp .ge 11, 3) := by decide +kernel
theorem dX5_by_112 : decode cX5_by 112 = .ok (.iload 8, 2) := by decide +kernel
theorem dX5_by_114 : decode cX5_by 114 = .ok (.istore 6, 2) := by decide +kernel
theorem dX5_by_116 : decode cX5_by 116 = .ok (.iload 7, 2) := by decide +kernel
theorem dX5_by_118 : decode cX5_by 118 = .ok (.istore 5, 2) := by decide +kernel
theorem dX5_by_120 : decode cX5_by 120 = .ok (.iinc 7 1, 3) := by decide +kernel
theorem dX5_by_123 : decode cX5_by 123 = .ok (.goto (-59), 3) := by decide +kernel
theorem dX5_by_126 : decode cX5_by 126 = .ok (.aload_n 0, 1) := by decide +kernel
theorem dX5_by_127 : decode cX5_by 127 = .ok (.getfield 41, 3) := by decide +kernel
theorem dX5_by_130 : decode cX5_by 130 = .ok (.iload_n 2, 1) := by decide +kernel
theorem dX5_by_131 : decode cX5_by 131 = .ok (.iconst 2, 1) := by decide +kernel
theorem dX5_by_132 : decode cX5_by 132 = .ok (.iload 4, 2) := by decide +kernel
theorem dX5_by_134 : decode cX5_by 134 = .ok (.invokevirtual 245, 3) := by decide +kernel
theorem dX5_by_137 : decode cX5_by 137 = .ok (.sipush 1000, 3) := by decide +kernel
theorem dX5_by_140 : decode cX5_by 140 = .ok (.iload 5, 2) := by decide +kernel
theorem dX5_by_142 : decode cX5_by 142 = .ok (.iadd, 1) := by decide +kernel
theorem dX5_by_143 : decode cX5_by 143 = .ok (.ireturn, 1) := by decide +kernel
set_option maxRecDepth 100000 in
theorem ggX5_errors_X5_within : GoodIn wsX5_errors wsX5_within := goodIn_g _ [6] [0] rfl (by decide +kernel)
set_option maxRecDepth 100000 in
theorem gX5_errors_X5_within : GoodIn wsX5_errors (va_wsS RX5 91 yX5_within wsX5_within) := goodIn_app (goodIn_of _ (by decide +kernel)) ggX5_errors_X5_within
set_option maxRecDepth 100000 in
theorem ggX5_errors_X1_err : GoodIn wsX5_errors wsX1_err := goodIn_g _ [5, 4, 0, 0, 0, 0, 0, 0, 0, 0, 0, 0, 0, 0, 0, 0, 0, 24, 0, 0, 0, 0, 0, 0, 0, 0, 0, 0] [2, 3, 4, 5, 6, 7, 8, 0, 9, 10, 11, 12, 13, 14, 1, 15, 16, 17, 18, 19, 20, 21, 22, 23, 24, 25, 26, 27] rfl (by decide +kernel)
set_option maxRecDepth 100000 in
theorem gX5_errors_X1_err : GoodIn wsX5_errors (wsV RX5 254 RX1 yX1_err wsX1_err) := goodIn_app (goodIn_of _ (by decide +kernel)) ggX5_errors_X1_err
set_option maxRecDepth 100000 in
theorem ggX5_errors_X1_greatest : GoodIn wsX5_errors wsX1_greatest := goodIn_g _ [5, 4, 1, 0, 3, 0, 6, 3, 0, 0, 0, 0, 0, 0, 0, 0, 0, 0, 0, 9, 0, 0, 0, 0, 0, 0, 0, 0, 0, 0] [7, 2, 3, 8, 9, 10, 11, 12, 13, 14, 15, 16, 17, 1, 18, 6, 4, 0, 5, 19, 20, 21, 22, 23, 24, 25, 26, 27, 28, 29] rfl (by decide +kernel)
set_option maxRecDepth 100000 in
theorem gX5_errors_X1_greatest : GoodIn wsX5_errors (wsV RX5 251 RX1 yX1_greatest wsX1_greatest) := goodIn_app (goodIn_of _ (by decide +kernel)) ggX5_errors_X1_greatest
theorem dX5_errors_0 : decode cX5_errors 0 = .ok (.iload_n 2, 1) := by decide +kernel
theorem dX5_errors_1 : decode cX5_errors 1 = .ok (.iconst 0, 1) := by decide +kernel
theorem dX5_errors_2 : decode cX5_errors 2 = .ok (.bipush 9, 2) := by decide +kernel
theorem dX5_errors_4 : decode cX5_errors 4 = .ok (.invokestatic 91, 3) := by decide +kernel
theorem dX5_errors_7 : decode cX5_errors 7 = .ok (.ifCond .ne 7, 3) := by decide +kernel
theorem dX5_errors_10 : decode cX5_errors 10 = .ok (.ldc2_w 112, 3) := by decide +kernel
theorem dX5_errors_13 : decode cX5_errors 13 = .ok (.lreturn, 1) := by decide +kernel
theorem dX5_errors_14 : decode cX5_errors 14 = .ok (.aload_n 0, 1) := by decide +kernel
theorem dX5_errors_15 : decode cX5_errors 15 = .ok (.getfield 50, 3) := by decide +kernel
theorem dX5_errors_18 : decode cX5_errors 18 = .ok (.iload_n 1, 1) := by decide +kernel
theorem dX5_errors_19 : decode cX5_errors 19 = .ok (.iload_n 2, 1) := by decide +kernel
theorem dX5_errors_20 : decode cX5_errors 20 = .ok (.invokevirtual 254, 3) := by decide +kernel
theorem dX5_errors_23 : decode cX5_errors 23 = .ok (.aload_n 0, 1) := by decide +kernel
theorem dX5_errors_24 : decode cX5_errors 24 = .ok (.getfield 50, 3) := by decide +kernel
theorem dX5_errors_27 : decode cX5_errors 27 = .ok (.invokevirtual 251, 3) := by decide +kernel
theorem dX5_errors_30 : decode cX5_errors 30 = .ok (.i2l, 1) := by decide +kernel
theorem dX5_errors_31 : decode cX5_errors 31 = .ok (.lreturn, 1) := by decide +kernel
set_option maxRecDepth 100000 in
theorem ggX5_chance_X5_within : GoodIn wsX5_chance wsX5_within := goodIn_g _ [5] [0] rfl (by decide +kernel)
set_option maxRecDepth 100000 in
theorem gX5_chance_X5_within : GoodIn wsX5_chance (va_wsS RX5 91 yX5_within wsX5_within) := goodIn_app (goodIn_of _ (by decide +kernel)) ggX5_chance_X5_within
set_option maxRecDepth 100000 in
theorem ggX5_chance_X1_err : GoodIn wsX5_chance wsX1_err := goodIn_g _ [4, 4, 0, 0, 0, 0, 0, 0, 0, 0, 0, 0, 0, 0, 0, 0, 0, 30, 0, 0, 0, 0, 0, 0, 0, 0, 0, 0] [2, 3, 4, 5, 6, 7, 8, 0, 9, 10, 11, 12, 13, 14, 1, 15, 16, 17, 18, 19, 20, 21, 22, 23, 24, 25, 26, 27] rfl (by decide +kernel)
set_option maxRecDepth 100000 in
theorem gX5_chance_X1_err : GoodIn wsX5_chance (wsV RX5 254 RX1 yX1_err wsX1_err) := goodIn_app (goodIn_of _ (by decide +kernel)) ggX5_chance_X1_err
set_option maxRecDepth 100000 in
theorem ggX5_chance_X1_greatest : GoodIn wsX5_chance wsX1_greatest := goodIn_g _ [4, 4, 1, 0, 3, 0, 6, 3, 0, 0, 0, 0, 0, 0, 0, 0, 0, 0, 0, 15, 0, 0, 0, 0, 0, 0, 0, 0, 0, 0] [7, 2, 3, 8, 9, 10, 11, 12, 13, 14, 15, 16, 17, 1, 18, 6, 4, 0, 5, 19, 20, 21, 22, 23, 24, 25, 26, 27, 28, 29] rfl (by decide +kernel)
set_option maxRecDepth 100000 in
theorem gX5_chance_X1_greatest : GoodIn wsX5_chance (wsV RX5 251 RX1 yX1_greatest wsX1_greatest) := goodIn_app (goodIn_of _ (by decide +kernel)) ggX5_chance_X1_greatest
set_option maxRecDepth 100000 in
theorem ggX5_chance_X5_commonDivisor : GoodIn wsX5_chance wsX5_commonDivisor := goodIn_g _ [42] [0] rfl (by decide +kernel)
set_option maxRecDepth 100000 in
theorem gX5_chance_X5_commonDivisor : GoodIn wsX5_chance (va_wsS RX5 258 yX5_commonDivisor wsX5_commonDivisor) := goodIn_app (goodIn_of _ (by decide +kernel)) ggX5_chance_X5_commonDivisor
set_option maxRecDepth 100000 in
theorem ggX5_chance_X5_share : GoodIn wsX5_chance wsX5_share := goodIn_g _ [45] [0] rfl (by decide +kernel)
set_option maxRecDepth 100000 in
theorem gX5_chance_X5_share : GoodIn wsX5_chance (va_wsS RX5 261 yX5_share wsX5_share) := goodIn_app (goodIn_of _ (by decide +kernel)) ggX5_chance_X5_share
theorem dX5_chance_0 : decode cX5_chance 0 = .ok (.iload_n 2, 1) := by decide +kernel
theorem dX5_chance_1 : decode cX5_chance 1 = .ok (.iconst 1, 1) := by decide +kernel
theorem dX5_chance_2 : decode cX5_chance 2 = .ok (.bipush 20, 2) := by decide +kernel
theorem dX5_chance_4 : decode cX5_chance 4 = .ok (.invokestatic 91, 3) := by decide +kernel
theorem dX5_chance_7 : decode cX5_chance 7 = .ok (.ifCond .eq 28, 3) := by decide +kernel
theorem dX5_chance_10 : decode cX5_chance 10 = .ok (.iload_n 3, 1) := by decide +kernel
theorem dX5_chance_11 : decode cX5_chance 11 = .ok (.iconst 0, 1) := by decide +kernel
theorem dX5_chance_12 : decode cX5_chance 12 = .ok (.bipush 9, 2) := by decide +kernel
theorem dX5_chance_14 : decode cX5_chance 14 = .ok (.invokestatic 91, 3) := by decide +kernel
theorem dX5_chance_17 : decode cX5_chance 17 = .ok (.ifCond .eq 18, 3) := by decide +kernel
theorem dX5_chance_20 : decode cX5_chance 20 = .ok (.iload 4, 2) := by decide +kernel
theorem dX5_chance_22 : decode cX5_chance 22 = .ok (.ifCond .lt 13, 3) := by decide +kernel
theorem dX5_chance_25 : decode cX5_chance 25 = .ok (.iload 5, 2) := by decide +kernel
theorem dX5_chance_27 : decode cX5_chance 27 = .ok (.iconst 0, 1) := by decide +kernel
theorem dX5_chance_28 : decode cX5_chance 28 = .ok (.iconst 1, 1) := by decide +kernel
theorem dX5_chance_29 : decode cX5_chance 29 = .ok (.invokestatic 91, 3) := by decide +kernel
theorem dX5_chance_32 : decode cX5_chance 32 = .ok (.ifCond .ne 6, 3) := by decide +kernel
theorem dX5_chance_35 : decode cX5_chance 35 = .ok (.bipush (-2), 2) := by decide +kernel
theorem dX5_chance_37 : decode cX5_chance 37 = .ok (.ireturn, 1) := by decide +kernel
theorem dX5_chance_38 : decode cX5_chance 38 = .ok (.iconst 0, 1) := by decide +kernel
theorem dX5_chance_39 : decode cX5_chance 39 = .ok (.istore 6, 2) := by decide +kernel
theorem dX5_chance_41 : decode cX5_chance 41 = .ok (.iconst 0, 1) := by decide +kernel
theorem dX5_chance_42 : decode cX5_chance 42 = .ok (.istore 7, 2) := by decide +kernel
theorem dX5_chance_44 : decode cX5_chance 44 = .ok (.iload 7, 2) := by decide +kernel
theorem dX5_chance_46 : decode cX5_chance 46 = .ok (.iload_n 2, 1) := by decide +kernel
theorem dX5_chance_47 : decode cX5_chance 47 = .ok (.if_icmp .ge 36, 3) := by decide +kernel
theorem dX5_chance_50 : decode cX5_chance 50 = .ok (.aload_n 0, 1) := by decide +kernel
theorem dX5_chance_51 : decode cX5_chance 51 = .ok (.getfield 50, 3) := by decide +kernel
theorem dX5_chance_54 : decode cX5_chance 54 = .ok (.iload_n 1, 1) := by decide +kernel
theorem dX5_chance_55 : decode cX5_chance 55 = .ok (.iload 7, 2) := by decide +kernel
theorem dX5_chance_57 : decode cX5_chance 57 = .ok (.iadd, 1) := by decide +kernel
theorem dX5_chance_58 : decode cX5_chance 58 = .ok (.iload_n 3, 1) := by decide +kernel
theorem dX5_chance_59 : decode cX5_chance 59 = .ok (.invokevirtual 254, 3) := by decide +kernel
theorem dX5_chance_62 : decode cX5_chance 62 = .ok (.aload_n 0, 1) := by decide +kernel
theorem dX5_chance_63 : decode cX5_chance 63 = .ok (.getfield 50, 3) := by decide +kernel
theorem dX5_chance_66 : decode cX5_chance 66 = .ok (.invokevirtual 251, 3) := by decide +kernel
theorem dX5_chance_69 : decode cX5_chance 69 = .ok (.iload 4, 2) := by decide +kernel
theorem dX5_chance_71 : decode cX5_chance 71 = .ok (.if_icmp .gt 6, 3) := by decide +kernel
theorem dX5_chance_74 : decode cX5_chance 74 = .ok (.iinc 6 1, 3) := by decide +kernel
theorem dX5_chance_77 : decode cX5_chance 77 = .ok (.iinc 7 1, 3) := by decide +kernel
theorem dX5_chance_80 : decode cX5_chance 80 = .ok (.goto (-36), 3) := by decide +kernel
theorem dX5_chance_83 : decode cX5_chance 83 = .ok (.iload 5, 2) := by decide +kernel
theorem dX5_chance_85 : decode cX5_chance 85 = .ok (.ifCond .ne 8, 3) := by decide +kernel
theorem dX5_chance_88 : decode cX5_chance 88 = .ok (.iload 6, 2) := by decide +kernel
theorem dX5_chance_90 : decode cX5_chance 90 = .ok (.goto 4, 3) := by decide +kernel
theorem dX5_chance_93 : decode cX5_chance 93 = .ok (.iload_n 2, 1) := by decide +kernel
theorem dX5_chance_94 : decode cX5_chance 94 = .ok (.iload 6, 2) := by decide +kernel
theorem dX5_chance_96 : decode cX5_chance 96 = .ok (.iload_n 2, 1) := by decide +kernel
theorem dX5_chance_97 : decode cX5_chance 97 = .ok (.invokestatic 258, 3) := by decide +kernel
theorem dX5_chance_100 : decode cX5_chance 100 = .ok (.invokestatic 261, 3) := by decide +kernel
theorem dX5_chance_103 : decode cX5_chance 103 = .ok (.ireturn, 1) := by decide +kernel
set_option maxRecDepth 100000 in
theorem ggX5_tells_X5_sheetOf : GoodIn wsX5_tells wsX5_sheetOf := goodIn_g _ [6, 0, 0, 0, 0, 0, 73, 0, 0, 0, 0, 0, 0, 0, 0] [1, 2, 3, 4, 0, 5, 6, 7, 8, 9, 10, 11, 12, 13, 14] rfl (by decide +kernel)
set_option maxRecDepth 100000 in
theorem gX5_tells_X5_sheetOf : GoodIn wsX5_tells (wsV RX5 223 RX5 yX5_sheetOf wsX5_sheetOf) := goodIn_app (goodIn_of _ (by decide +kernel)) ggX5_tells_X5_sheetOf
set_option maxRecDepth 100000 in
theorem ggX5_tells_X5_within : GoodIn wsX5_tells wsX5_within := goodIn_g _ [11] [0] rfl (by decide +kernel)
set_option maxRecDepth 100000 in
theorem gX5_tells_X5_within : GoodIn wsX5_tells (va_wsS RX5 91 yX5_within wsX5_within) := goodIn_app (goodIn_of _ (by decide +kernel)) ggX5_tells_X5_within
set_option maxRecDepth 100000 in
theorem ggX5_tells_X2_has : GoodIn wsX5_tells wsX2_has := goodIn_g _ [16, 0, 79, 0] [0, 1, 2, 3] rfl (by decide +kernel)
set_option maxRecDepth 100000 in
theorem gX5_tells_X2_has : GoodIn wsX5_tells (wsV RX5 87 RX2 yX2_has wsX2_has) := goodIn_app (goodIn_of _ (by decide +kernel)) ggX5_tells_X2_has
set_option maxRecDepth 100000 in
theorem ggX5_tells_X3_isMissing : GoodIn wsX5_tells wsX3_isMissing := goodIn_g _ [22, 0, 70, 0, 0] [0, 1, 2, 3, 4] rfl (by decide +kernel)
set_option maxRecDepth 100000 in
theorem gX5_tells_X3_isMissing : GoodIn wsX5_tells (wsV RX5 227 RX3 yX3_isMissing wsX3_isMissing) := goodIn_app (goodIn_of _ (by decide +kernel)) ggX5_tells_X3_isMissing
set_option maxRecDepth 100000 in
theorem ggX5_tells_X5_firstOtherwise : GoodIn wsX5_tells wsX5_firstOtherwise := goodIn_g _ [2, 3, 14, 5, 0, 0, 0, 0, 0, 0, 0, 0, 0, 0, 0, 0, 45, 0, 0, 0, 0, 0, 0, 0, 0, 0, 0, 0, 2, 0, 0, 0, 0, 0, 0, 0] [3, 0, 4, 5, 6, 7, 8, 9, 2, 10, 11, 12, 13, 1, 14, 15, 25, 26, 27, 16, 17, 18, 19, 20, 21, 22, 23, 24, 28, 29, 30, 31, 32, 33, 34, 35] rfl (by decide +kernel)
set_option maxRecDepth 100000 in
theorem gX5_tells_X5_firstOtherwise : GoodIn wsX5_tells (wsV RX5 265 RX5 yX5_firstOtherwise wsX5_firstOtherwise) := goodIn_app (goodIn_of _ (by decide +kernel)) ggX5_tells_X5_firstOtherwise
set_option maxRecDepth 100000 in
theorem ggX5_tells_X5_kindsTold : GoodIn wsX5_tells wsX5_kindsTold := goodIn_g _ [1, 0, 3, 6, 0, 0, 0, 0, 3, 2, 0, 0, 0, 0, 0, 0, 0, 0, 0, 0, 0, 0, 0, 0, 0, 3, 0, 0, 0, 0, 0, 0, 0, 0, 0, 0, 0, 0, 0, 0, 0, 0, 0, 0, 0, 0, 0, 0, 0, 0, 0, 0, 0, 0, 0, 0, 0, 0, 0, 0, 0, 0, 0, 0, 0, 0, 0, 0, 0, 0, 0, 0, 0, 0, 0, 0, 0, 0, 0, 0, 0, 0, 0, 0, 0, 0, 0, 0, 0] [25, 0, 13, 26, 27, 28, 5, 29, 7, 30, 22, 2, 23, 31, 32, 33, 34, 35, 36, 37, 38, 39, 40, 41, 3, 4, 6, 42, 43, 44, 45, 46, 47, 48, 49, 50, 51, 52, 53, 54, 55, 56, 57, 58, 59, 60, 61, 62, 63, 64, 65, 66, 9, 10, 11, 12, 1, 14, 15, 16, 17, 18, 8, 19, 20, 21, 24, 67, 68, 69, 70, 71, 72, 73, 74, 75, 79, 80, 81, 82, 83, 84, 85, 86, 87, 88, 76, 77, 78] rfl (by decide +kernel)
set_option maxRecDepth 100000 in
theorem gX5_tells_X5_kindsTold : GoodIn wsX5_tells (wsV RX5 269 RX5 yX5_kindsTold wsX5_kindsTold) := goodIn_app (goodIn_of _ (by decide +kernel)) ggX5_tells_X5_kindsTold
theorem dX5_tells_0 : decode cX5_tells 0 = .ok (.aload_n 0, 1) := by decide +kernel
theorem dX5_tells_1 : decode cX5_tells 1 = .ok (.iload_n 1, 1) := by decide +kernel
theorem dX5_tells_2 : decode cX5_tells 2 = .ok (.invokevirtual 223, 3) := by decide +kernel
theorem dX5_tells_5 : decode cX5_tells 5 = .ok (.astore 4, 2) := by decide +kernel
theorem dX5_tells_7 : decode cX5_tells 7 = .ok (.aload 4, 2) := by decide +kernel
theorem dX5_tells_9 : decode cX5_tells 9 = .ok (.ifnull 30, 3) := by decide +kernel
theorem dX5_tells_12 : decode cX5_tells 12 = .ok (.iload_n 2, 1) := by decide +kernel
theorem dX5_tells_13 : decode cX5_tells 13 = .ok (.iconst 1, 1) := by decide +kernel
theorem dX5_tells_14 : decode cX5_tells 14 = .ok (.sipush 200, 3) := by decide +kernel
theorem dX5_tells_17 : decode cX5_tells 17 = .ok (.invokestatic 91, 3) := by decide +kernel
theorem dX5_tells_20 : decode cX5_tells 20 = .ok (.ifCond .eq 19, 3) := by decide +kernel
theorem dX5_tells_23 : decode cX5_tells 23 = .ok (.iload_n 3, 1) := by decide +kernel
theorem dX5_tells_24 : decode cX5_tells 24 = .ok (.iconst (-1), 1) := by decide +kernel
theorem dX5_tells_25 : decode cX5_tells 25 = .ok (.if_icmp .eq 17, 3) := by decide +kernel
theorem dX5_tells_28 : decode cX5_tells 28 = .ok (.aload_n 0, 1) := by decide +kernel
theorem dX5_tells_29 : decode cX5_tells 29 = .ok (.getfield 12, 3) := by decide +kernel
theorem dX5_tells_32 : decode cX5_tells 32 = .ok (.iload_n 3, 1) := by decide +kernel
theorem dX5_tells_33 : decode cX5_tells 33 = .ok (.invokevirtual 87, 3) := by decide +kernel
theorem dX5_tells_36 : decode cX5_tells 36 = .ok (.ifCond .ne 6, 3) := by decide +kernel
theorem dX5_tells_39 : decode cX5_tells 39 = .ok (.bipush (-2), 2) := by decide +kernel
theorem dX5_tells_41 : decode cX5_tells 41 = .ok (.ireturn, 1) := by decide +kernel
theorem dX5_tells_42 : decode cX5_tells 42 = .ok (.aload 4, 2) := by decide +kernel
theorem dX5_tells_44 : decode cX5_tells 44 = .ok (.invokevirtual 227, 3) := by decide +kernel
theorem dX5_tells_47 : decode cX5_tells 47 = .ok (.ifCond .eq 6, 3) := by decide +kernel
theorem dX5_tells_50 : decode cX5_tells 50 = .ok (.bipush (-11), 2) := by decide +kernel
theorem dX5_tells_52 : decode cX5_tells 52 = .ok (.ireturn, 1) := by decide +kernel
theorem dX5_tells_53 : decode cX5_tells 53 = .ok (.aload 4, 2) := by decide +kernel
theorem dX5_tells_55 : decode cX5_tells 55 = .ok (.getfield 264, 3) := by decide +kernel
theorem dX5_tells_58 : decode cX5_tells 58 = .ok (.bipush 8, 2) := by decide +kernel
theorem dX5_tells_60 : decode cX5_tells 60 = .ok (.if_icmp .le 6, 3) := by decide +kernel
theorem dX5_tells_63 : decode cX5_tells 63 = .ok (.bipush (-2), 2) := by decide +kernel
theorem dX5_tells_65 : decode cX5_tells 65 = .ok (.ireturn, 1) := by decide +kernel
theorem dX5_tells_66 : decode cX5_tells 66 = .ok (.iload_n 3, 1) := by decide +kernel
theorem dX5_tells_67 : decode cX5_tells 67 = .ok (.iconst (-1), 1) := by decide +kernel
theorem dX5_tells_68 : decode cX5_tells 68 = .ok (.if_icmp .ne 13, 3) := by decide +kernel
theorem dX5_tells_71 : decode cX5_tells 71 = .ok (.aload_n 0, 1) := by decide +kernel
theorem dX5_tells_72 : decode cX5_tells 72 = .ok (.aload 4, 2) := by decide +kernel
theorem dX5_tells_74 : decode cX5_tells 74 = .ok (.iload_n 2, 1) := by decide +kernel
theorem dX5_tells_75 : decode cX5_tells 75 = .ok (.invokevirtual 265, 3) := by decide +kernel
theorem dX5_tells_78 : decode cX5_tells 78 = .ok (.goto 11, 3) := by decide +kernel
theorem dX5_tells_81 : decode cX5_tells 81 = .ok (.aload_n 0, 1) := by decide +kernel
theorem dX5_tells_82 : decode cX5_tells 82 = .ok (.aload 4, 2) := by decide +kernel
theorem dX5_tells_84 : decode cX5_tells 84 = .ok (.iload_n 2, 1) := by decide +kernel
theorem dX5_tells_85 : decode cX5_tells 85 = .ok (.iload_n 3, 1) := by decide +kernel
theorem dX5_tells_86 : decode cX5_tells 86 = .ok (.invokevirtual 269, 3) := by decide +kernel
theorem dX5_tells_89 : decode cX5_tells 89 = .ok (.ireturn, 1) := by decide +kernel
set_option maxRecDepth 100000 in
theorem ggX5_film_X5_sheetOf : GoodIn wsX5_film wsX5_sheetOf := goodIn_g _ [7, 0, 0, 0, 0, 0, 21, 0, 0, 0, 0, 0, 0, 0, 0] [1, 2, 3, 4, 0, 5, 6, 7, 8, 9, 10, 11, 12, 13, 14] rfl (by decide +kernel)
set_option maxRecDepth 100000 in
theorem gX5_film_X5_sheetOf : GoodIn wsX5_film (wsV RX5 223 RX5 yX5_sheetOf wsX5_sheetOf) := goodIn_app (goodIn_of _ (by decide +kernel)) ggX5_film_X5_sheetOf
set_option maxRecDepth 100000 in
theorem ggX5_film_X5_within : GoodIn wsX5_film wsX5_within := goodIn_g _ [12] [0] rfl (by decide +kernel)
set_option maxRecDepth 100000 in
theorem gX5_film_X5_within : GoodIn wsX5_film (va_wsS RX5 91 yX5_within wsX5_within) := goodIn_app (goodIn_of _ (by decide +kernel)) ggX5_film_X5_within
set_option maxRecDepth 100000 in
theorem ggX5_film_X3_become : GoodIn wsX5_film wsX3_become := goodIn_g _ [17, 0, 0, 0, 0, 0, 0, 0, 26, 0, 0] [0, 1, 2, 3, 4, 5, 6, 7, 8, 9, 10] rfl (by decide +kernel)
set_option maxRecDepth 100000 in
theorem gX5_film_X3_become : GoodIn wsX5_film (wsV RX5 273 RX3 yX3_become wsX3_become) := goodIn_app (goodIn_of _ (by decide +kernel)) ggX5_film_X3_become
set_option maxRecDepth 100000 in
theorem ggX5_film_X5_cell : GoodIn wsX5_film wsX5_cell := goodIn_g _ [27] [0] rfl (by decide +kernel)
set_option maxRecDepth 100000 in
theorem gX5_film_X5_cell : GoodIn wsX5_film (va_wsS RX5 117 yX5_cell wsX5_cell) := goodIn_app (goodIn_of _ (by decide +kernel)) ggX5_film_X5_cell
set_option maxRecDepth 100000 in
theorem ggX5_film_X3_write : GoodIn wsX5_film wsX3_write := goodIn_g _ [7, 10, 0, 4, 6, 0, 0, 17, 0, 0] [4, 3, 1, 2, 5, 0, 6, 7, 8, 9] rfl (by decide +kernel)
set_option maxRecDepth 100000 in
theorem gX5_film_X3_write : GoodIn wsX5_film (wsV RX5 276 RX3 yX3_write wsX3_write) := goodIn_app (goodIn_of _ (by decide +kernel)) ggX5_film_X3_write
theorem dX5_film_0 : decode cX5_film 0 = .ok (.aload_n 0, 1) := by decide +kernel
theorem dX5_film_1 : decode cX5_film 1 = .ok (.iload_n 1, 1) := by decide +kernel
theorem dX5_film_2 : decode cX5_film 2 = .ok (.invokevirtual 223, 3) := by decide +kernel
theorem dX5_film_5 : decode cX5_film 5 = .ok (.astore 4, 2) := by decide +kernel
theorem dX5_film_7 : decode cX5_film 7 = .ok (.aload 4, 2) := by decide +kernel
theorem dX5_film_9 : decode cX5_film 9 = .ok (.ifnull 24, 3) := by decide +kernel
theorem dX5_film_12 : decode cX5_film 12 = .ok (.iload_n 2, 1) := by decide +kernel
theorem dX5_film_13 : decode cX5_film 13 = .ok (.iconst 1, 1) := by decide +kernel
theorem dX5_film_14 : decode cX5_film 14 = .ok (.sipush 200, 3) := by decide +kernel
theorem dX5_film_17 : decode cX5_film 17 = .ok (.invokestatic 91, 3) := by decide +kernel
theorem dX5_film_20 : decode cX5_film 20 = .ok (.ifCond .eq 13, 3) := by decide +kernel
theorem dX5_film_23 : decode cX5_film 23 = .ok (.iload_n 3, 1) := by decide +kernel
theorem dX5_film_24 : decode cX5_film 24 = .ok (.iconst 0, 1) := by decide +kernel
theorem dX5_film_25 : decode cX5_film 25 = .ok (.bipush 40, 2) := by decide +kernel
theorem dX5_film_27 : decode cX5_film 27 = .ok (.invokestatic 91, 3) := by decide +kernel
theorem dX5_film_30 : decode cX5_film 30 = .ok (.ifCond .ne 6, 3) := by decide +kernel
theorem dX5_film_33 : decode cX5_film 33 = .ok (.bipush (-2), 2) := by decide +kernel
theorem dX5_film_35 : decode cX5_film 35 = .ok (.ireturn, 1) := by decide +kernel
theorem dX5_film_36 : decode cX5_film 36 = .ok (.aload 4, 2) := by decide +kernel
theorem dX5_film_38 : decode cX5_film 38 = .ok (.iconst 0, 1) := by decide +kernel
theorem dX5_film_39 : decode cX5_film 39 = .ok (.iload_n 3, 1) := by decide +kernel
theorem dX5_film_40 : decode cX5_film 40 = .ok (.invokevirtual 273, 3) := by decide +kernel
theorem dX5_film_43 : decode cX5_film 43 = .ok (.iconst 0, 1) := by decide +kernel
theorem dX5_film_44 : decode cX5_film 44 = .ok (.istore 5, 2) := by decide +kernel
theorem dX5_film_46 : decode cX5_film 46 = .ok (.iload 5, 2) := by decide +kernel
theorem dX5_film_48 : decode cX5_film 48 = .ok (.iload_n 3, 1) := by decide +kernel
theorem dX5_film_49 : decode cX5_film 49 = .ok (.if_icmp .ge 44, 3) := by decide +kernel
theorem dX5_film_52 : decode cX5_film 52 = .ok (.iload_n 2, 1) := by decide +kernel
theorem dX5_film_53 : decode cX5_film 53 = .ok (.iload 5, 2) := by decide +kernel
theorem dX5_film_55 : decode cX5_film 55 = .ok (.iadd, 1) := by decide +kernel
theorem dX5_film_56 : decode cX5_film 56 = .ok (.aload_n 0, 1) := by decide +kernel
theorem dX5_film_57 : decode cX5_film 57 = .ok (.getfield 41, 3) := by decide +kernel
theorem dX5_film_60 : decode cX5_film 60 = .ok (.getfield 128, 3) := by decide +kernel
theorem dX5_film_63 : decode cX5_film 63 = .ok (.if_icmp .gt 24, 3) := by decide +kernel
theorem dX5_film_66 : decode cX5_film 66 = .ok (.aload 4, 2) := by decide +kernel
theorem dX5_film_68 : decode cX5_film 68 = .ok (.iload 5, 2) := by decide +kernel
theorem dX5_film_70 : decode cX5_film 70 = .ok (.aload_n 0, 1) := by decide +kernel
theorem dX5_film_71 : decode cX5_film 71 = .ok (.getfield 41, 3) := by decide +kernel
theorem dX5_film_74 : decode cX5_film 74 = .ok (.getfield 131, 3) := by decide +kernel
theorem dX5_film_77 : decode cX5_film 77 = .ok (.iload_n 2, 1) := by decide +kernel
theorem dX5_film_78 : decode cX5_film 78 = .ok (.iload 5, 2) := by decide +kernel
theorem dX5_film_80 : decode cX5_film 80 = .ok (.iadd, 1) := by decide +kernel
theorem dX5_film_81 : decode cX5_film 81 = .ok (.invokestatic 117, 3) := by decide +kernel
theorem dX5_film_84 : decode cX5_film 84 = .ok (.invokevirtual 276, 3) := by decide +kernel
theorem dX5_film_87 : decode cX5_film 87 = .ok (.iinc 5 1, 3) := by decide +kernel
theorem dX5_film_90 : decode cX5_film 90 = .ok (.goto (-44), 3) := by decide +kernel
theorem dX5_film_93 : decode cX5_film 93 = .ok (.iload_n 3, 1) := by decide +kernel
theorem dX5_film_94 : decode cX5_film 94 = .ok (.ireturn, 1) := by decide +kernel
set_option maxRecDepth 100000 in
theorem ggX5_feed_X5_within : GoodIn wsX5_feed wsX5_within := goodIn_g _ [6] [0] rfl (by decide +kernel)
set_option maxRecDepth 100000 in
theorem gX5_feed_X5_within : GoodIn wsX5_feed (va_wsS RX5 91 yX5_within wsX5_within) := goodIn_app (goodIn_of _ (by decide +kernel)) ggX5_feed_X5_within
set_option maxRecDepth 100000 in
theorem ggX5_feed_X5_isByte : GoodIn wsX5_feed wsX5_isByte := goodIn_g _ [3, 0, 0, 0, 2] [4, 0, 1, 2, 3] rfl (by decide +kernel)
set_option maxRecDepth 100000 in
theorem gX5_feed_X5_isByte : GoodIn wsX5_feed (va_wsS RX5 278 yX5_isByte wsX5_isByte) := goodIn_app (goodIn_of _ (by decide +kernel)) ggX5_feed_X5_isByte
set_option maxRecDepth 100000 in
theorem ggX5_feed_X4_append : GoodIn wsX5_feed wsX4_append := goodIn_g _ [5, 8, 0, 0, 0, 0, 9, 0, 0, 0, 0, 0, 0, 0, 0] [1, 2, 3, 4, 0, 5, 6, 7, 8, 9, 10, 11, 12, 13, 14] rfl (by decide +kernel)
set_option maxRecDepth 100000 in
theorem gX5_feed_X4_append : GoodIn wsX5_feed (wsV RX5 282 RX4 yX4_append wsX4_append) := goodIn_app (goodIn_of _ (by decide +kernel)) ggX5_feed_X4_append
theorem dX5_feed_0 : decode cX5_feed 0 = .ok (.iload_n 1, 1) := by decide +kernel
theorem dX5_feed_1 : decode cX5_feed 1 = .ok (.iconst 1, 1) := by decide +kernel
theorem dX5_feed_2 : decode cX5_feed 2 = .ok (.iconst 5, 1) := by decide +kernel
theorem dX5_feed_3 : decode cX5_feed 3 = .ok (.invokestatic 91, 3) := by decide +kernel
theorem dX5_feed_6 : decode cX5_feed 6 = .ok (.ifCond .eq 41, 3) := by decide +kernel
theorem dX5_feed_9 : decode cX5_feed 9 = .ok (.iload_n 2, 1) := by decide +kernel
theorem dX5_feed_10 : decode cX5_feed 10 = .ok (.invokestatic 278, 3) := by decide +kernel
theorem dX5_feed_13 : decode cX5_feed 13 = .ok (.ifCond .eq 34, 3) := by decide +kernel
theorem dX5_feed_16 : decode cX5_feed 16 = .ok (.iload_n 3, 1) := by decide +kernel
theorem dX5_feed_17 : decode cX5_feed 17 = .ok (.invokestatic 278, 3) := by decide +kernel
theorem dX5_feed_20 : decode cX5_feed 20 = .ok (.ifCond .eq 27, 3) := by decide +kernel
theorem dX5_feed_23 : decode cX5_feed 23 = .ok (.iload 4, 2) := by decide +kernel
theorem dX5_feed_25 : decode cX5_feed 25 = .ok (.invokestatic 278, 3) := by decide +kernel
theorem dX5_feed_28 : decode cX5_feed 28 = .ok (.ifCond .eq 19, 3) := by decide +kernel
theorem dX5_feed_31 : decode cX5_feed 31 = .ok (.iload 5, 2) := by decide +kernel
theorem dX5_feed_33 : decode cX5_feed 33 = .ok (.invokestatic 278, 3) := by decide +kernel
theorem dX5_feed_36 : decode cX5_feed 36 = .ok (.ifCond .eq 11, 3) := by decide +kernel
theorem dX5_feed_39 : decode cX5_feed 39 = .ok (.iload 6, 2) := by decide +kernel
theorem dX5_feed_41 : decode cX5_feed 41 = .ok (.invokestatic 278, 3) := by decide +kernel
theorem dX5_feed_44 : decode cX5_feed 44 = .ok (.ifCond .ne 6, 3) := by decide +kernel
theorem dX5_feed_47 : decode cX5_feed 47 = .ok (.bipush (-2), 2) := by decide +kernel
theorem dX5_feed_49 : decode cX5_feed 49 = .ok (.ireturn, 1) := by decide +kernel
theorem dX5_feed_50 : decode cX5_feed 50 = .ok (.aload_n 0, 1) := by decide +kernel
theorem dX5_feed_51 : decode cX5_feed 51 = .ok (.getfield 64, 3) := by decide +kernel
theorem dX5_feed_54 : decode cX5_feed 54 = .ok (.getfield 281, 3) := by decide +kernel
theorem dX5_feed_57 : decode cX5_feed 57 = .ok (.iload_n 1, 1) := by decide +kernel
theorem dX5_feed_58 : decode cX5_feed 58 = .ok (.iadd, 1) := by decide +kernel
theorem dX5_feed_59 : decode cX5_feed 59 = .ok (.bipush 60, 2) := by decide +kernel
theorem dX5_feed_61 : decode cX5_feed 61 = .ok (.if_icmp .le 6, 3) := by decide +kernel
theorem dX5_feed_64 : decode cX5_feed 64 = .ok (.bipush (-4), 2) := by decide +kernel
theorem dX5_feed_66 : decode cX5_feed 66 = .ok (.ireturn, 1) := by decide +kernel
theorem dX5_feed_67 : decode cX5_feed 67 = .ok (.iconst 0, 1) := by decide +kernel
theorem dX5_feed_68 : decode cX5_feed 68 = .ok (.istore 7, 2) := by decide +kernel
theorem dX5_feed_70 : decode cX5_feed 70 = .ok (.iload 7, 2) := by decide +kernel
theorem dX5_feed_72 : decode cX5_feed 72 = .ok (.iload_n 1, 1) := by decide +kernel
theorem dX5_feed_73 : decode cX5_feed 73 = .ok (.if_icmp .ge 59, 3) := by decide +kernel
theorem dX5_feed_76 : decode cX5_feed 76 = .ok (.aload_n 0, 1) := by decide +kernel
theorem dX5_feed_77 : decode cX5_feed 77 = .ok (.getfield 64, 3) := by decide +kernel
theorem dX5_feed_80 : decode cX5_feed 80 = .ok (.iload 7, 2) := by decide +kernel
theorem dX5_feed_82 : decode cX5_feed 82 = .ok (.ifCond .ne 7, 3) := by decide +kernel
theorem dX5_feed_85 : decode cX5_feed 85 = .ok (.iload_n 2, 1) := by decide +kernel
theorem dX5_feed_86 : decode cX5_feed 86 = .ok (.goto 37, 3) := by decide +kernel
theorem dX5_feed_89 : decode cX5_feed 89 = .ok (.iload 7, 2) := by decide +kernel
theorem dX5_feed_91 : decode cX5_feed 91 = .ok (.iconst 1, 1) := by decide +kernel
theorem dX5_feed_92 : decode cX5_feed 92 = .ok (.if_icmp .ne 7, 3) := by decide +kernel
theorem dX5_feed_95 : decode cX5_feed 95 = .ok (.iload_n 3, 1) := by decide +kernel
theorem dX5_feed_96 : decode cX5_feed 96 = .ok (.goto 27, 3) := by decide +kernel
theorem dX5_feed_99 : decode cX5_feed 99 = .ok (.iload 7, 2) := by decide +kernel
theorem dX5_feed_101 : decode cX5_feed 101 = .ok (.iconst 2, 1) := by decide +kernel
theorem dX5_feed_102 : decode cX5_feed 102 = .ok (.if_icmp .ne 8, 3) := by decide +kernel
theorem dX5_feed_105 : decode cX5_feed 105 = .ok (.iload 4, 2) := by decide +kernel
theorem dX5_feed_107 : decode cX5_feed 107 = .ok (.goto 16, 3) := by decide +kernel
theorem dX5_feed_110 : decode cX5_feed 110 = .ok (.iload 7, 2) := by decide +kernel
theorem dX5_feed_112 : decode cX5_feed 112 = .ok (.iconst 3, 1) := by decide +kernel
theorem dX5_feed_113 : decode cX5_feed 113 = .ok (.if_icmp .ne 8, 3) := by decide +kernel
theorem dX5_feed_116 : decode cX5_feed 116 = .ok (.iload 5, 2) := by decide +kernel
theorem dX5_feed_118 : decode cX5_feed 118 = .ok (.goto 5, 3) := by decide +kernel
theorem dX5_feed_121 : decode cX5_feed 121 = .ok (.iload 6, 2) := by decide +kernel
theorem dX5_feed_123 : decode cX5_feed 123 = .ok (.invokevirtual 282, 3) := by decide +kernel
theorem dX5_feed_126 : decode cX5_feed 126 = .ok (.iinc 7 1, 3) := by decide +kernel
theorem dX5_feed_129 : decode cX5_feed 129 = .ok (.goto (-59), 3) := by decide +kernel
theorem dX5_feed_132 : decode cX5_feed 132 = .ok (.aload_n 0, 1) := by decide +kernel
theorem dX5_feed_133 : decode cX5_feed 133 = .ok (.getfield 64, 3) := by decide +kernel
theorem dX5_feed_136 : decode cX5_feed 136 = .ok (.getfield 281, 3) := by decide +kernel
theorem dX5_feed_139 : decode cX5_feed 139 = .ok (.ireturn, 1) := by decide +kernel
set_option maxRecDepth 100000 in
theorem ggX5_text_X4_faultOf : GoodIn wsX5_text wsX4_faultOf := goodIn_g _ [7, 0, 0, 0, 0, 0, 0, 0, 0, 0, 0, 0, 0, 0, 0, 0, 0, 0, 0, 0, 0, 0, 0, 0, 0, 0, 0, 0, 0, 0, 0, 0, 0, 0, 0, 0, 0, 0, 0, 0, 0, 0, 0, 0, 0, 0, 0, 0, 0, 0, 0, 0, 0, 0, 0, 0, 0, 0, 0, 0, 0, 0, 0, 0, 0, 0, 0, 0, 0, 0, 0, 0, 0, 0, 0, 0, 0, 0, 0, 0, 0, 0, 0, 0, 0, 0, 0, 0, 0, 0, 0, 0, 0, 0, 0, 0, 0, 0, 0, 101, 0, 0, 0, 0, 0, 0, 0, 0] [1, 2, 3, 4, 5, 6, 7, 8, 0, 9, 10, 11, 12, 13, 14, 15, 16, 17, 18, 19, 20, 21, 22, 23, 24, 25, 26, 27, 28, 29, 30, 31, 32, 33, 34, 35, 36, 37, 38, 39, 40, 41, 42, 43, 44, 45, 46, 47, 48, 49, 50, 51, 52, 53, 54, 55, 56, 57, 58, 59, 60, 61, 62, 63, 64, 65, 66, 67, 68, 69, 70, 71, 72, 73, 74, 75, 76, 77, 78, 79, 80, 81, 82, 83, 84, 85, 86, 87, 88, 89, 90, 91, 92, 93, 94, 95, 96, 97, 98, 99, 100, 101, 102, 103, 104, 105, 106, 107] rfl (by decide +kernel)
set_option maxRecDepth 100000 in
theorem gX5_text_X4_faultOf : GoodIn wsX5_text (wsV RX5 285 RX4 yX4_faultOf wsX4_faultOf) := goodIn_app (goodIn_of _ (by decide +kernel)) ggX5_text_X4_faultOf
set_option maxRecDepth 100000 in
theorem ggX5_text_X5_carryOut : GoodIn wsX5_text wsX5_carryOut := goodIn_g _ [1, 5, 10, 0, 6, 0, 0, 6, 0, 67, 0, 3, 0, 0, 0, 0, 0, 0, 0, 0, 0, 0, 0, 0, 0, 0, 0, 0, 0, 0, 0, 0, 0, 0, 0, 0, 0, 0, 0, 0, 0, 0, 0, 0, 0, 0, 0, 0, 0, 0, 0, 0, 0, 0, 0, 0, 0, 0, 0, 0, 0, 0, 0, 0, 0, 0, 0, 0, 0, 0, 0, 0, 0, 0, 0, 0, 0, 0, 0, 0, 0, 0, 0, 0, 0, 0, 0, 0, 0, 0, 0, 0, 0, 0, 0, 0, 0, 0, 0, 0, 0, 0, 0, 0, 0, 0, 0, 0, 0, 0, 0, 0, 0, 0, 0, 0, 0, 0, 0, 0, 0, 0, 0, 0, 0, 0, 0, 0] [11, 0, 12, 13, 14, 15, 1, 16, 3, 4, 5, 6, 17, 18, 19, 20, 2, 21, 22, 23, 24, 25, 26, 27, 28, 29, 30, 31, 32, 33, 34, 7, 8, 35, 36, 37, 38, 39, 40, 41, 42, 43, 44, 45, 9, 10, 46, 47, 48, 49, 50, 51, 52, 53, 54, 55, 56, 57, 58, 59, 60, 61, 62, 63, 64, 65, 66, 67, 68, 69, 70, 71, 72, 73, 74, 75, 76, 77, 78, 79, 80, 81, 82, 83, 84, 85, 86, 87, 88, 89, 90, 91, 92, 93, 94, 95, 96, 97, 98, 99, 100, 101, 102, 103, 104, 105, 106, 107, 108, 109, 110, 111, 112, 113, 114, 115, 116, 117, 118, 119, 120, 121, 122, 123, 124, 125, 126, 127] rfl (by decide +kernel)
set_option maxRecDepth 100000 in
theorem gX5_text_X5_carryOut : GoodIn wsX5_text (wsV RX5 291 RX5 yX5_carryOut wsX5_carryOut) := goodIn_app (goodIn_of _ (by decide +kernel)) ggX5_text_X5_carryOut
theorem dX5_text_0 : decode cX5_text 0 = .ok (.aload_n 0, 1) := by decide +kernel
theorem dX5_text_1 : decode cX5_text 1 = .ok (.getfield 64, 3) := by decide +kernel
theorem dX5_text_4 : decode cX5_text 4 = .ok (.invokevirtual 285, 3) := by decide +kernel
theorem dX5_text_7 : decode cX5_text 7 = .ok (.istore_n 1, 1) := by decide +kernel
theorem dX5_text_8 : decode cX5_text 8 = .ok (.aload_n 0, 1) := by decide +kernel
theorem dX5_text_9 : decode cX5_text 9 = .ok (.getfield 64, 3) := by decide +kernel
theorem dX5_text_12 : decode cX5_text 12 = .ok (.iconst 0, 1) := by decide +kernel
theorem dX5_text_13 : decode cX5_text 13 = .ok (.putfield 281, 3) := by decide +kernel
theorem dX5_text_16 : decode cX5_text 16 = .ok (.iload_n 1, 1) := by decide +kernel
theorem dX5_text_17 : decode cX5_text 17 = .ok (.iconst (-1), 1) := by decide +kernel
theorem dX5_text_18 : decode cX5_text 18 = .ok (.if_icmp .eq 8, 3) := by decide +kernel
theorem dX5_text_21 : decode cX5_text 21 = .ok (.bipush (-100), 2) := by decide +kernel
theorem dX5_text_23 : decode cX5_text 23 = .ok (.iload_n 1, 1) := by decide +kernel
theorem dX5_text_24 : decode cX5_text 24 = .ok (.isub, 1) := by decide +kernel
theorem dX5_text_25 : decode cX5_text 25 = .ok (.ireturn, 1) := by decide +kernel
theorem dX5_text_26 : decode cX5_text 26 = .ok (.iconst 0, 1) := by decide +kernel
theorem dX5_text_27 : decode cX5_text 27 = .ok (.istore_n 2, 1) := by decide +kernel
theorem dX5_text_28 : decode cX5_text 28 = .ok (.iconst 0, 1) := by decide +kernel
theorem dX5_text_29 : decode cX5_text 29 = .ok (.istore_n 3, 1) := by decide +kernel
theorem dX5_text_30 : decode cX5_text 30 = .ok (.iload_n 3, 1) := by decide +kernel
theorem dX5_text_31 : decode cX5_text 31 = .ok (.aload_n 0, 1) := by decide +kernel
theorem dX5_text_32 : decode cX5_text 32 = .ok (.getfield 64, 3) := by decide +kernel
theorem dX5_text_35 : decode cX5_text 35 = .ok (.getfield 288, 3) := by decide +kernel
theorem dX5_text_38 : decode cX5_text 38 = .ok (.if_icmp .ge 20, 3) := by decide +kernel
theorem dX5_text_41 : decode cX5_text 41 = .ok (.aload_n 0, 1) := by decide +kernel
theorem dX5_text_42 : decode cX5_text 42 = .ok (.iload_n 3, 1) := by decide +kernel
theorem dX5_text_43 : decode cX5_text 43 = .ok (.invokevirtual 291, 3) := by decide +kernel
theorem dX5_text_46 : decode cX5_text 46 = .ok (.ifCond .eq 6, 3) := by decide +kernel
theorem dX5_text_49 : decode cX5_text 49 = .ok (.iinc 2 1, 3) := by decide +kernel
theorem dX5_text_52 : decode cX5_text 52 = .ok (.iinc 3 1, 3) := by decide +kernel
theorem dX5_text_55 : decode cX5_text 55 = .ok (.goto (-25), 3) := by decide +kernel
theorem dX5_text_58 : decode cX5_text 58 = .ok (.iload_n 2, 1) := by decide +kernel
theorem dX5_text_59 : decode cX5_text 59 = .ok (.ireturn, 1) := by decide +kernel
set_option maxRecDepth 100000 in
theorem ggX5_firstOtherwise_X3_read : GoodIn wsX5_firstOtherwise wsX3_read := goodIn_g _ [9, 0, 0, 0, 0, 0, 1, 0, 0] [0, 1, 2, 3, 4, 5, 6, 7, 8] rfl (by decide +kernel)
set_option maxRecDepth 100000 in
theorem gX5_firstOtherwise_X3_read : GoodIn wsX5_firstOtherwise (wsV RX5 294 RX3 yX3_read wsX3_read) := goodIn_app (goodIn_of _ (by decide +kernel)) ggX5_firstOtherwise_X3_read
set_option maxRecDepth 100000 in
theorem ggX5_firstOtherwise_X5_cell : GoodIn wsX5_firstOtherwise wsX5_cell := goodIn_g _ [14] [0] rfl (by decide +kernel)
set_option maxRecDepth 100000 in
theorem gX5_firstOtherwise_X5_cell : GoodIn wsX5_firstOtherwise (va_wsS RX5 117 yX5_cell wsX5_cell) := goodIn_app (goodIn_of _ (by decide +kernel)) ggX5_firstOtherwise_X5_cell
theorem dX5_firstOtherwise_0 : decode cX5_firstOtherwise 0 = .ok (.iconst 0, 1) := by decide +kernel
theorem dX5_firstOtherwise_1 : decode cX5_firstOtherwise 1 = .ok (.istore_n 3, 1) := by decide +kernel
theorem dX5_firstOtherwise_2 : decode cX5_firstOtherwise 2 = .ok (.iload_n 3, 1) := by decide +kernel
theorem dX5_firstOtherwise_3 : decode cX5_firstOtherwise 3 = .ok (.aload_n 1, 1) := by decide +kernel
theorem dX5_firstOtherwise_4 : decode cX5_firstOtherwise 4 = .ok (.getfield 264, 3) := by decide +kernel
theorem dX5_firstOtherwise_7 : decode cX5_firstOtherwise 7 = .ok (.if_icmp .ge 45, 3) := by decide +kernel
theorem dX5_firstOtherwise_10 : decode cX5_firstOtherwise 10 = .ok (.iload_n 2, 1) := by decide +kernel
theorem dX5_firstOtherwise_11 : decode cX5_firstOtherwise 11 = .ok (.iload_n 3, 1) := by decide +kernel
theorem dX5_firstOtherwise_12 : decode cX5_firstOtherwise 12 = .ok (.iadd, 1) := by decide +kernel
theorem dX5_firstOtherwise_13 : decode cX5_firstOtherwise 13 = .ok (.aload_n 0, 1) := by decide +kernel
theorem dX5_firstOtherwise_14 : decode cX5_firstOtherwise 14 = .ok (.getfield 41, 3) := by decide +kernel
theorem dX5_firstOtherwise_17 : decode cX5_firstOtherwise 17 = .ok (.getfield 128, 3) := by decide +kernel
theorem dX5_firstOtherwise_20 : decode cX5_firstOtherwise 20 = .ok (.if_icmp .gt 24, 3) := by decide +kernel
theorem dX5_firstOtherwise_23 : decode cX5_firstOtherwise 23 = .ok (.aload_n 1, 1) := by decide +kernel
theorem dX5_firstOtherwise_24 : decode cX5_firstOtherwise 24 = .ok (.iload_n 3, 1) := by decide +kernel
theorem dX5_firstOtherwise_25 : decode cX5_firstOtherwise 25 = .ok (.invokevirtual 294, 3) := by decide +kernel
theorem dX5_firstOtherwise_28 : decode cX5_firstOtherwise 28 = .ok (.aload_n 0, 1) := by decide +kernel
theorem dX5_firstOtherwise_29 : decode cX5_firstOtherwise 29 = .ok (.getfield 41, 3) := by decide +kernel
theorem dX5_firstOtherwise_32 : decode cX5_firstOtherwise 32 = .ok (.getfield 131, 3) := by decide +kernel
theorem dX5_firstOtherwise_35 : decode cX5_firstOtherwise 35 = .ok (.iload_n 2, 1) := by decide +kernel
theorem dX5_firstOtherwise_36 : decode cX5_firstOtherwise 36 = .ok (.iload_n 3, 1) := by decide +kernel
theorem dX5_firstOtherwise_37 : decode cX5_firstOtherwise 37 = .ok (.iadd, 1) := by decide +kernel
theorem dX5_firstOtherwise_38 : decode cX5_firstOtherwise 38 = .ok (.invokestatic 117, 3) := by decide +kernel
theorem dX5_firstOtherwise_41 : decode cX5_firstOtherwise 41 = .ok (.if_icmp .eq 5, 3) := by decide +kernel
theorem dX5_firstOtherwise_44 : decode cX5_firstOtherwise 44 = .ok (.iload_n 3, 1) := by decide +kernel
theorem dX5_firstOtherwise_45 : decode cX5_firstOtherwise 45 = .ok (.ireturn, 1) := by decide +kernel
theorem dX5_firstOtherwise_46 : decode cX5_firstOtherwise 46 = .ok (.iinc 3 1, 3) := by decide +kernel
theorem dX5_firstOtherwise_49 : decode cX5_firstOtherwise 49 = .ok (.goto (-47), 3) := by decide +kernel
theorem dX5_firstOtherwise_52 : decode cX5_firstOtherwise 52 = .ok (.iconst (-1), 1) := by decide +kernel
theorem dX5_firstOtherwise_53 : decode cX5_firstOtherwise 53 = .ok (.ireturn, 1) := by decide +kernel
set_option maxRecDepth 100000 in
theorem ggX5_kindsTold_X2_read : GoodIn wsX5_kindsTold wsX2_read := goodIn_g _ [7, 0, 0, 0, 0, 0, 63, 0] [0, 1, 2, 3, 4, 5, 6, 7] rfl (by decide +kernel)
set_option maxRecDepth 100000 in
theorem gX5_kindsTold_X2_read : GoodIn wsX5_kindsTold (wsV RX5 95 RX2 yX2_read wsX2_read) := goodIn_app (goodIn_of _ (by decide +kernel)) ggX5_kindsTold_X2_read
set_option maxRecDepth 100000 in
theorem ggX5_kindsTold_X0_attempt : GoodIn wsX5_kindsTold wsX0_attempt := goodIn_g _ [4, 0, 0, 0, 0, 0, 0, 0, 0, 3, 0, 0, 0, 0, 0, 0, 0, 0, 0, 0, 0, 0, 0, 0, 0, 0, 0, 0, 0, 0, 0, 0, 0, 0, 0, 0, 0, 0, 0, 0, 0, 0, 0, 0, 0, 24, 0, 0, 0, 0, 0, 0, 0, 0, 0] [10, 11, 12, 13, 14, 2, 15, 5, 16, 17, 18, 19, 4, 20, 7, 21, 22, 23, 24, 9, 25, 26, 27, 28, 29, 30, 0, 1, 3, 6, 8, 31, 32, 33, 34, 35, 36, 37, 38, 39, 40, 41, 42, 43, 44, 47, 48, 49, 50, 51, 52, 53, 54, 45, 46] rfl (by decide +kernel)
set_option maxRecDepth 100000 in
theorem gX5_kindsTold_X0_attempt : GoodIn wsX5_kindsTold (wsV RX5 245 RX0 yX0_attempt wsX0_attempt) := goodIn_app (goodIn_of _ (by decide +kernel)) ggX5_kindsTold_X0_attempt
set_option maxRecDepth 100000 in
theorem ggX5_kindsTold_X5_firstOtherwise : GoodIn wsX5_kindsTold wsX5_firstOtherwise := goodIn_g _ [2, 7, 0, 0, 42, 0, 0, 0, 0, 0, 0, 0, 0, 0, 0, 0, 0, 0, 0, 0, 0, 0, 0, 0, 0, 2, 0, 0, 0, 0, 0, 0, 0, 0, 0, 0] [4, 5, 0, 6, 7, 8, 9, 10, 11, 12, 13, 14, 1, 2, 3, 15, 33, 34, 35, 16, 17, 18, 19, 20, 21, 22, 23, 24, 25, 26, 27, 28, 29, 30, 31, 32] rfl (by decide +kernel)
set_option maxRecDepth 100000 in
theorem gX5_kindsTold_X5_firstOtherwise : GoodIn wsX5_kindsTold (wsV RX5 265 RX5 yX5_firstOtherwise wsX5_firstOtherwise) := goodIn_app (goodIn_of _ (by decide +kernel)) ggX5_kindsTold_X5_firstOtherwise
theorem dX5_kindsTold_0 : decode cX5_kindsTold 0 = .ok (.aload_n 0, 1) := by decide +kernel
theorem dX5_kindsTold_1 : decode cX5_kindsTold 1 = .ok (.getfield 12, 3) := by decide +kernel
theorem dX5_kindsTold_4 : decode cX5_kindsTold 4 = .ok (.iload_n 3, 1) := by decide +kernel
theorem dX5_kindsTold_5 : decode cX5_kindsTold 5 = .ok (.iconst 0, 1) := by decide +kernel
theorem dX5_kindsTold_6 : decode cX5_kindsTold 6 = .ok (.invokevirtual 95, 3) := by decide +kernel
theorem dX5_kindsTold_9 : decode cX5_kindsTold 9 = .ok (.istore 4, 2) := by decide +kernel
theorem dX5_kindsTold_11 : decode cX5_kindsTold 11 = .ok (.iconst 0, 1) := by decide +kernel
theorem dX5_kindsTold_12 : decode cX5_kindsTold 12 = .ok (.istore 5, 2) := by decide +kernel
theorem dX5_kindsTold_14 : decode cX5_kindsTold 14 = .ok (.iconst 0, 1) := by decide +kernel
theorem dX5_kindsTold_15 : decode cX5_kindsTold 15 = .ok (.istore 6, 2) := by decide +kernel
theorem dX5_kindsTold_17 : decode cX5_kindsTold 17 = .ok (.iload 6, 2) := by decide +kernel
theorem dX5_kindsTold_19 : decode cX5_kindsTold 19 = .ok (.iconst 5, 1) := by decide +kernel
theorem dX5_kindsTold_20 : decode cX5_kindsTold 20 = .ok (.if_icmp .gt 39, 3) := by decide +kernel
theorem dX5_kindsTold_23 : decode cX5_kindsTold 23 = .ok (.aload_n 0, 1) := by decide +kernel
theorem dX5_kindsTold_24 : decode cX5_kindsTold 24 = .ok (.getfield 41, 3) := by decide +kernel
theorem dX5_kindsTold_27 : decode cX5_kindsTold 27 = .ok (.iload_n 3, 1) := by decide +kernel
theorem dX5_kindsTold_28 : decode cX5_kindsTold 28 = .ok (.iconst 0, 1) := by decide +kernel
theorem dX5_kindsTold_29 : decode cX5_kindsTold 29 = .ok (.iload 6, 2) := by decide +kernel
theorem dX5_kindsTold_31 : decode cX5_kindsTold 31 = .ok (.invokevirtual 245, 3) := by decide +kernel
theorem dX5_kindsTold_34 : decode cX5_kindsTold 34 = .ok (.aload_n 0, 1) := by decide +kernel
theorem dX5_kindsTold_35 : decode cX5_kindsTold 35 = .ok (.aload_n 1, 1) := by decide +kernel
theorem dX5_kindsTold_36 : decode cX5_kindsTold 36 = .ok (.iload_n 2, 1) := by decide +kernel
theorem dX5_kindsTold_37 : decode cX5_kindsTold 37 = .ok (.invokevirtual 265, 3) := by decide +kernel
theorem dX5_kindsTold_40 : decode cX5_kindsTold 40 = .ok (.iconst (-1), 1) := by decide +kernel
theorem dX5_kindsTold_41 : decode cX5_kindsTold 41 = .ok (.if_icmp .ne 12, 3) := by decide +kernel
theorem dX5_kindsTold_44 : decode cX5_kindsTold 44 = .ok (.iload 5, 2) := by decide +kernel
theorem dX5_kindsTold_46 : decode cX5_kindsTold 46 = .ok (.iconst 1, 1) := by decide +kernel
theorem dX5_kindsTold_47 : decode cX5_kindsTold 47 = .ok (.iload 6, 2) := by decide +kernel
theorem dX5_kindsTold_49 : decode cX5_kindsTold 49 = .ok (.ishl, 1) := by decide +kernel
theorem dX5_kindsTold_50 : decode cX5_kindsTold 50 = .ok (.ior, 1) := by decide +kernel
theorem dX5_kindsTold_51 : decode cX5_kindsTold 51 = .ok (.istore 5, 2) := by decide +kernel
theorem dX5_kindsTold_53 : decode cX5_kindsTold 53 = .ok (.iinc 6 1, 3) := by decide +kernel
theorem dX5_kindsTold_56 : decode cX5_kindsTold 56 = .ok (.goto (-39), 3) := by decide +kernel
theorem dX5_kindsTold_59 : decode cX5_kindsTold 59 = .ok (.aload_n 0, 1) := by decide +kernel
theorem dX5_kindsTold_60 : decode cX5_kindsTold 60 = .ok (.getfield 41, 3) := by decide +kernel
theorem dX5_kindsTold_63 : decode cX5_kindsTold 63 = .ok (.iload_n 3, 1) := by decide +kernel
theorem dX5_kindsTold_64 : decode cX5_kindsTold 64 = .ok (.iconst 0, 1) := by decide +kernel
theorem dX5_kindsTold_65 : decode cX5_kindsTold 65 = .ok (.iload 4, 2) := by decide +kernel
theorem dX5_kindsTold_67 : decode cX5_kindsTold 67 = .ok (.invokevirtual 245, 3) := by decide +kernel
theorem dX5_kindsTold_70 : decode cX5_kindsTold 70 = .ok (.iload 5, 2) := by decide +kernel
theorem dX5_kindsTold_72 : decode cX5_kindsTold 72 = .ok (.ireturn, 1) := by decide +kernel
set_option maxRecDepth 100000 in
theorem ggX5_carryOut_X4_numberOf : GoodIn wsX5_carryOut wsX4_numberOf := goodIn_g _ [7, 0, 0, 0, 0, 97, 0, 0, 0, 0, 0, 0, 0, 0] [0, 1, 2, 3, 4, 5, 6, 7, 8, 9, 10, 11, 12, 13] rfl (by decide +kernel)
set_option maxRecDepth 100000 in
theorem gX5_carryOut_X4_numberOf : GoodIn wsX5_carryOut (wsV RX5 296 RX4 yX4_numberOf wsX4_numberOf) := goodIn_app (goodIn_of _ (by decide +kernel)) ggX5_carryOut_X4_numberOf
set_option maxRecDepth 100000 in
theorem ggX5_carryOut_X4_wordOf : GoodIn wsX5_carryOut wsX4_wordOf := goodIn_g _ [9, 0, 0, 3, 0, 92, 0, 0, 0, 0, 0, 0, 0, 0] [3, 4, 0, 1, 2, 5, 6, 7, 8, 9, 10, 11, 12, 13] rfl (by decide +kernel)
set_option maxRecDepth 100000 in
theorem gX5_carryOut_X4_wordOf : GoodIn wsX5_carryOut (wsV RX5 299 RX4 yX4_wordOf wsX4_wordOf) := goodIn_app (goodIn_of _ (by decide +kernel)) ggX5_carryOut_X4_wordOf
set_option maxRecDepth 100000 in
theorem ggX5_carryOut_X5_piece : GoodIn wsX5_carryOut wsX5_piece := goodIn_g _ [9, 0, 0, 8, 0, 0, 0, 0, 0, 0, 0, 0, 0, 0, 0, 0, 0, 0, 0, 0, 0, 0, 0, 0, 0, 0, 0, 0, 0, 0, 0, 0, 0, 0, 0, 0, 0, 0, 0, 0, 0, 0, 0, 0, 0, 0, 0, 0, 0, 0, 0, 0, 0, 0, 0, 0, 0, 0, 0, 0, 0, 0, 0, 0, 0, 18, 0, 0, 0, 0, 0, 0, 0, 0, 9, 0, 0, 0, 0, 0, 0, 0, 0, 0] [3, 4, 5, 6, 7, 8, 1, 9, 10, 11, 12, 0, 2, 13, 14, 15, 16, 17, 18, 19, 20, 21, 22, 23, 24, 25, 26, 27, 28, 29, 30, 31, 32, 33, 34, 35, 36, 37, 38, 39, 40, 41, 42, 43, 44, 45, 46, 47, 48, 49, 50, 51, 52, 53, 54, 55, 56, 57, 58, 59, 60, 61, 62, 63, 64, 65, 66, 67, 68, 69, 70, 71, 72, 73, 74, 75, 76, 77, 78, 79, 80, 81, 82, 83] rfl (by decide +kernel)
set_option maxRecDepth 100000 in
theorem gX5_carryOut_X5_piece : GoodIn wsX5_carryOut (wsV RX5 302 RX5 yX5_piece wsX5_piece) := goodIn_app (goodIn_of _ (by decide +kernel)) ggX5_carryOut_X5_piece
set_option maxRecDepth 100000 in
theorem ggX5_carryOut_X5_set : GoodIn wsX5_carryOut wsX5_set := goodIn_g _ [9, 0, 0, 9, 1, 0, 0, 0, 0, 0, 0, 0, 0, 0, 0, 0, 0, 0, 0, 0, 0, 0, 0, 0, 0, 0, 0, 0, 0, 0, 0, 0, 0, 0, 0, 0, 0, 0, 0, 0, 0, 0, 0, 0, 0, 0, 0, 0, 0, 0, 0, 0, 0, 0, 0, 0, 0, 0, 0, 0, 0, 0, 0, 3, 0, 0, 12, 0, 0, 0, 0, 0, 0, 0, 0, 9, 0, 0, 0, 0, 0, 0, 0, 0, 0] [63, 3, 4, 64, 21, 22, 17, 23, 24, 11, 12, 1, 13, 5, 6, 7, 8, 9, 10, 0, 2, 65, 47, 48, 49, 19, 14, 15, 16, 18, 20, 25, 26, 27, 28, 29, 30, 31, 32, 33, 34, 35, 36, 37, 38, 39, 40, 41, 42, 43, 44, 45, 46, 50, 51, 52, 53, 54, 55, 56, 57, 58, 59, 60, 61, 62, 66, 67, 68, 69, 70, 71, 72, 73, 74, 75, 76, 77, 78, 79, 80, 81, 82, 83, 84] rfl (by decide +kernel)
set_option maxRecDepth 100000 in
theorem gX5_carryOut_X5_set : GoodIn wsX5_carryOut (wsV RX5 306 RX5 yX5_set wsX5_set) := goodIn_app (goodIn_of _ (by decide +kernel)) ggX5_carryOut_X5_set
set_option maxRecDepth 100000 in
theorem ggX5_carryOut_X5_rule : GoodIn wsX5_carryOut wsX5_rule := goodIn_g _ [2, 6, 0, 0, 17, 0, 0, 0, 11, 0, 45, 0, 0, 0, 0, 4, 0, 0, 0, 0, 0, 0, 0, 0] [10, 11, 0, 12, 13, 5, 6, 2, 7, 4, 1, 3, 14, 8, 9, 15, 16, 17, 18, 19, 20, 21, 22, 23] rfl (by decide +kernel)
set_option maxRecDepth 100000 in
theorem gX5_carryOut_X5_rule : GoodIn wsX5_carryOut (wsV RX5 310 RX5 yX5_rule wsX5_rule) := goodIn_app (goodIn_of _ (by decide +kernel)) ggX5_carryOut_X5_rule
set_option maxRecDepth 100000 in
theorem ggX5_carryOut_X5_drop : GoodIn wsX5_carryOut wsX5_drop := goodIn_g _ [9, 0, 0, 9, 0, 0, 12, 1, 1, 0, 0, 0, 0, 0, 0, 0, 0, 0, 0, 0, 0, 0, 0, 0, 0, 0, 0, 0, 0, 0, 0, 0, 0, 0, 0, 0, 0, 0, 0, 0, 0, 0, 0, 0, 0, 0, 0, 0, 0, 0, 17, 0, 0, 0, 0, 0, 0, 0, 0, 0, 9, 0, 0, 0, 0, 0, 0, 0, 0, 0] [50, 3, 4, 5, 14, 15, 16, 17, 18, 19, 20, 21, 22, 23, 24, 25, 12, 1, 13, 26, 27, 28, 29, 30, 31, 32, 8, 9, 6, 10, 11, 33, 34, 35, 36, 7, 0, 2, 37, 38, 39, 40, 41, 42, 43, 44, 45, 46, 47, 48, 49, 51, 52, 53, 54, 55, 56, 57, 58, 59, 60, 61, 62, 63, 64, 65, 66, 67, 68, 69] rfl (by decide +kernel)
set_option maxRecDepth 100000 in
theorem gX5_carryOut_X5_drop : GoodIn wsX5_carryOut (wsV RX5 314 RX5 yX5_drop wsX5_drop) := goodIn_app (goodIn_of _ (by decide +kernel)) ggX5_carryOut_X5_drop
theorem dX5_carryOut_0 : decode cX5_carryOut 0 = .ok (.aload_n 0, 1) := by decide +kernel
theorem dX5_carryOut_1 : decode cX5_carryOut 1 = .ok (.getfield 64, 3) := by decide +kernel
theorem dX5_carryOut_4 : decode cX5_carryOut 4 = .ok (.iload_n 1, 1) := by decide +kernel
theorem dX5_carryOut_5 : decode cX5_carryOut 5 = .ok (.iconst 0, 1) := by decide +kernel
theorem dX5_carryOut_6 : decode cX5_carryOut 6 = .ok (.invokevirtual 296, 3) := by decide +kernel
theorem dX5_carryOut_9 : decode cX5_carryOut 9 = .ok (.istore_n 2, 1) := by decide +kernel
theorem dX5_carryOut_10 : decode cX5_carryOut 10 = .ok (.aload_n 0, 1) := by decide +kernel
theorem dX5_carryOut_11 : decode cX5_carryOut 11 = .ok (.getfield 64, 3) := by decide +kernel
theorem dX5_carryOut_14 : decode cX5_carryOut 14 = .ok (.iload_n 1, 1) := by decide +kernel
theorem dX5_carryOut_15 : decode cX5_carryOut 15 = .ok (.iconst 1, 1) := by decide +kernel
theorem dX5_carryOut_16 : decode cX5_carryOut 16 = .ok (.invokevirtual 296, 3) := by decide +kernel
theorem dX5_carryOut_19 : decode cX5_carryOut 19 = .ok (.istore_n 3, 1) := by decide +kernel
theorem dX5_carryOut_20 : decode cX5_carryOut 20 = .ok (.aload_n 0, 1) := by decide +kernel
theorem dX5_carryOut_21 : decode cX5_carryOut 21 = .ok (.getfield 64, 3) := by decide +kernel
theorem dX5_carryOut_24 : decode cX5_carryOut 24 = .ok (.iload_n 1, 1) := by decide +kernel
theorem dX5_carryOut_25 : decode cX5_carryOut 25 = .ok (.invokevirtual 299, 3) := by decide +kernel
theorem dX5_carryOut_28 : decode cX5_carryOut 28 = .ok (.tableswitch 122 0 3 #[32, 65, 84, 103], 32) := by decide +kernel
theorem dX5_carryOut_60 : decode cX5_carryOut 60 = .ok (.aload_n 0, 1) := by decide +kernel
theorem dX5_carryOut_61 : decode cX5_carryOut 61 = .ok (.iload_n 2, 1) := by decide +kernel
theorem dX5_carryOut_62 : decode cX5_carryOut 62 = .ok (.iload_n 3, 1) := by decide +kernel
theorem dX5_carryOut_63 : decode cX5_carryOut 63 = .ok (.aload_n 0, 1) := by decide +kernel
theorem dX5_carryOut_64 : decode cX5_carryOut 64 = .ok (.getfield 64, 3) := by decide +kernel
theorem dX5_carryOut_67 : decode cX5_carryOut 67 = .ok (.iload_n 1, 1) := by decide +kernel
theorem dX5_carryOut_68 : decode cX5_carryOut 68 = .ok (.iconst 2, 1) := by decide +kernel
theorem dX5_carryOut_69 : decode cX5_carryOut 69 = .ok (.invokevirtual 296, 3) := by decide +kernel
theorem dX5_carryOut_72 : decode cX5_carryOut 72 = .ok (.aload_n 0, 1) := by decide +kernel
theorem dX5_carryOut_73 : decode cX5_carryOut 73 = .ok (.getfield 64, 3) := by decide +kernel
theorem dX5_carryOut_76 : decode cX5_carryOut 76 = .ok (.iload_n 1, 1) := by decide +kernel
theorem dX5_carryOut_77 : decode cX5_carryOut 77 = .ok (.iconst 3, 1) := by decide +kernel
theorem dX5_carryOut_78 : decode cX5_carryOut 78 = .ok (.invokevirtual 296, 3) := by decide +kernel
theorem dX5_carryOut_81 : decode cX5_carryOut 81 = .ok (.invokevirtual 302, 3) := by decide +kernel
theorem dX5_carryOut_84 : decode cX5_carryOut 84 = .ok (.ifCond .lt 7, 3) := by decide +kernel
theorem dX5_carryOut_87 : decode cX5_carryOut 87 = .ok (.iconst 1, 1) := by decide +kernel
theorem dX5_carryOut_88 : decode cX5_carryOut 88 = .ok (.goto 4, 3) := by decide +kernel
theorem dX5_carryOut_91 : decode cX5_carryOut 91 = .ok (.iconst 0, 1) := by decide +kernel
theorem dX5_carryOut_92 : decode cX5_carryOut 92 = .ok (.ireturn, 1) := by decide +kernel
theorem dX5_carryOut_93 : decode cX5_carryOut 93 = .ok (.aload_n 0, 1) := by decide +kernel
theorem dX5_carryOut_94 : decode cX5_carryOut 94 = .ok (.iload_n 2, 1) := by decide +kernel
theorem dX5_carryOut_95 : decode cX5_carryOut 95 = .ok (.iconst 1, 1) := by decide +kernel
theorem dX5_carryOut_96 : decode cX5_carryOut 96 = .ok (.iload_n 3, 1) := by decide +kernel
theorem dX5_carryOut_97 : decode cX5_carryOut 97 = .ok (.invokevirtual 306, 3) := by decide +kernel
theorem dX5_carryOut_100 : decode cX5_carryOut 100 = .ok (.sipush (-1000), 3) := by decide +kernel
theorem dX5_carryOut_103 : decode cX5_carryOut 103 = .ok (.if_icmp .eq 7, 3) := by decide +kernel
theorem dX5_carryOut_106 : decode cX5_carryOut 106 = .ok (.iconst 1, 1) := by decide +kernel
theorem dX5_carryOut_107 : decode cX5_carryOut 107 = .ok (.goto 4, 3) := by decide +kernel
theorem dX5_carryOut_110 : decode cX5_carryOut 110 = .ok (.iconst 0, 1) := by decide +kernel
theorem dX5_carryOut_111 : decode cX5_carryOut 111 = .ok (.ireturn, 1) := by decide +kernel
theorem dX5_carryOut_112 : decode cX5_carryOut 112 = .ok (.aload_n 0, 1) := by decide +kernel
theorem dX5_carryOut_113 : decode cX5_carryOut 113 = .ok (.iload_n 2, 1) := by decide +kernel
theorem dX5_carryOut_114 : decode cX5_carryOut 114 = .ok (.iconst 2, 1) := by decide +kernel
theorem dX5_carryOut_115 : decode cX5_carryOut 115 = .ok (.iload_n 3, 1) := by decide +kernel
theorem dX5_carryOut_116 : decode cX5_carryOut 116 = .ok (.invokevirtual 306, 3) := by decide +kernel
theorem dX5_carryOut_119 : decode cX5_carryOut 119 = .ok (.sipush (-1000), 3) := by decide +kernel
theorem dX5_carryOut_122 : decode cX5_carryOut 122 = .ok (.if_icmp .eq 7, 3) := by decide +kernel
theorem dX5_carryOut_125 : decode cX5_carryOut 125 = .ok (.iconst 1, 1) := by decide +kernel
theorem dX5_carryOut_126 : decode cX5_carryOut 126 = .ok (.goto 4, 3) := by decide +kernel
theorem dX5_carryOut_129 : decode cX5_carryOut 129 = .ok (.iconst 0, 1) := by decide +kernel
theorem dX5_carryOut_130 : decode cX5_carryOut 130 = .ok (.ireturn, 1) := by decide +kernel
theorem dX5_carryOut_131 : decode cX5_carryOut 131 = .ok (.aload_n 0, 1) := by decide +kernel
theorem dX5_carryOut_132 : decode cX5_carryOut 132 = .ok (.iconst 5, 1) := by decide +kernel
theorem dX5_carryOut_133 : decode cX5_carryOut 133 = .ok (.iload_n 2, 1) := by decide +kernel
theorem dX5_carryOut_134 : decode cX5_carryOut 134 = .ok (.invokevirtual 310, 3) := by decide +kernel
theorem dX5_carryOut_137 : decode cX5_carryOut 137 = .ok (.ldc2_w 112, 3) := by decide +kernel
theorem dX5_carryOut_140 : decode cX5_carryOut 140 = .ok (.lcmp, 1) := by decide +kernel
theorem dX5_carryOut_141 : decode cX5_carryOut 141 = .ok (.ifCond .eq 7, 3) := by decide +kernel
theorem dX5_carryOut_144 : decode cX5_carryOut 144 = .ok (.iconst 1, 1) := by decide +kernel
theorem dX5_carryOut_145 : decode cX5_carryOut 145 = .ok (.goto 4, 3) := by decide +kernel
theorem dX5_carryOut_148 : decode cX5_carryOut 148 = .ok (.iconst 0, 1) := by decide +kernel
theorem dX5_carryOut_149 : decode cX5_carryOut 149 = .ok (.ireturn, 1) := by decide +kernel
theorem dX5_carryOut_150 : decode cX5_carryOut 150 = .ok (.aload_n 0, 1) := by decide +kernel
theorem dX5_carryOut_151 : decode cX5_carryOut 151 = .ok (.invokevirtual 314, 3) := by decide +kernel
theorem dX5_carryOut_154 : decode cX5_carryOut 154 = .ok (.bipush (-3), 2) := by decide +kernel
theorem dX5_carryOut_156 : decode cX5_carryOut 156 = .ok (.if_icmp .eq 7, 3) := by decide +kernel
theorem dX5_carryOut_159 : decode cX5_carryOut 159 = .ok (.iconst 1, 1) := by decide +kernel
theorem dX5_carryOut_160 : decode cX5_carryOut 160 = .ok (.goto 4, 3) := by decide +kernel
theorem dX5_carryOut_163 : decode cX5_carryOut 163 = .ok (.iconst 0, 1) := by decide +kernel
theorem dX5_carryOut_164 : decode cX5_carryOut 164 = .ok (.ireturn, 1) := by decide +kernel
set_option maxRecDepth 100000 in
theorem ggX5_image_X2_takeFrom : GoodIn wsX5_image wsX2_takeFrom := goodIn_g _ [6, 0, 0, 1, 0, 0, 6, 0, 0, 0, 0, 9, 0] [6, 7, 8, 0, 1, 2, 9, 3, 4, 5, 10, 11, 12] rfl (by decide +kernel)
set_option maxRecDepth 100000 in
theorem gX5_image_X2_takeFrom : GoodIn wsX5_image (wsV RX5 317 RX2 yX2_takeFrom wsX2_takeFrom) := goodIn_app (goodIn_of _ (by decide +kernel)) ggX5_image_X2_takeFrom
theorem dX5_image_0 : decode cX5_image 0 = .ok (.aload_n 0, 1) := by decide +kernel
theorem dX5_image_1 : decode cX5_image 1 = .ok (.getfield 18, 3) := by decide +kernel
theorem dX5_image_4 : decode cX5_image 4 = .ok (.aload_n 0, 1) := by decide +kernel
theorem dX5_image_5 : decode cX5_image 5 = .ok (.getfield 12, 3) := by decide +kernel
theorem dX5_image_8 : decode cX5_image 8 = .ok (.invokevirtual 317, 3) := by decide +kernel
theorem dX5_image_11 : decode cX5_image 11 = .ok (.aload_n 0, 1) := by decide +kernel
theorem dX5_image_12 : decode cX5_image 12 = .ok (.getfield 30, 3) := by decide +kernel
theorem dX5_image_15 : decode cX5_image 15 = .ok (.iconst 0, 1) := by decide +kernel
theorem dX5_image_16 : decode cX5_image 16 = .ok (.aload_n 0, 1) := by decide +kernel
theorem dX5_image_17 : decode cX5_image 17 = .ok (.getfield 33, 3) := by decide +kernel
theorem dX5_image_20 : decode cX5_image 20 = .ok (.iconst 0, 1) := by decide +kernel
theorem dX5_image_21 : decode cX5_image 21 = .ok (.aload_n 0, 1) := by decide +kernel
theorem dX5_image_22 : decode cX5_image 22 = .ok (.getfield 30, 3) := by decide +kernel
theorem dX5_image_25 : decode cX5_image 25 = .ok (.arraylength, 1) := by decide +kernel
theorem dX5_image_26 : decode cX5_image 26 = .ok (.aload_n 0, 1) := by decide +kernel
theorem dX5_image_27 : decode cX5_image 27 = .ok (.getfield 33, 3) := by decide +kernel
theorem dX5_image_30 : decode cX5_image 30 = .ok (.arraylength, 1) := by decide +kernel
theorem dX5_image_31 : decode cX5_image 31 = .ok (.invokestatic 320, 3) := by decide +kernel
theorem dX5_image_34 : decode cX5_image 34 = .ok (.invokestatic 323, 3) := by decide +kernel
theorem dX5_image_37 : decode cX5_image 37 = .ok (.aload_n 0, 1) := by decide +kernel
theorem dX5_image_38 : decode cX5_image 38 = .ok (.iconst 1, 1) := by decide +kernel
theorem dX5_image_39 : decode cX5_image 39 = .ok (.putfield 68, 3) := by decide +kernel
theorem dX5_image_42 : decode cX5_image 42 = .ok (.aload_n 0, 1) := by decide +kernel
theorem dX5_image_43 : decode cX5_image 43 = .ok (.getfield 12, 3) := by decide +kernel
theorem dX5_image_46 : decode cX5_image 46 = .ok (.getfield 76, 3) := by decide +kernel
theorem dX5_image_49 : decode cX5_image 49 = .ok (.ireturn, 1) := by decide +kernel
set_option maxRecDepth 100000 in
theorem ggX5_back_X2_takeFrom : GoodIn wsX5_back wsX2_takeFrom := goodIn_g _ [7, 0, 0, 1, 0, 0, 6, 0, 0, 0, 0, 53, 0] [6, 7, 8, 0, 1, 2, 9, 3, 4, 5, 10, 11, 12] rfl (by decide +kernel)
set_option maxRecDepth 100000 in
theorem gX5_back_X2_takeFrom : GoodIn wsX5_back (wsV RX5 317 RX2 yX2_takeFrom wsX2_takeFrom) := goodIn_app (goodIn_of _ (by decide +kernel)) ggX5_back_X2_takeFrom
set_option maxRecDepth 100000 in
theorem ggX5_back_X0_lay : GoodIn wsX5_back wsX0_lay := goodIn_g _ [19, 1, 2, 3, 0, 0, 0, 0, 0, 0, 0, 0, 0, 0, 0, 0, 0, 0, 0, 0, 0, 0, 0, 0, 0, 0, 0, 0, 0, 0, 0, 0, 0, 0, 0, 0, 0, 0, 0, 0, 0, 0, 0, 0, 9, 0, 0, 0, 0, 0, 0, 0, 0, 0] [4, 5, 6, 7, 8, 9, 10, 11, 12, 13, 14, 15, 16, 17, 3, 18, 19, 20, 21, 22, 23, 0, 24, 2, 25, 26, 27, 28, 1, 29, 30, 31, 32, 33, 34, 35, 36, 37, 38, 39, 40, 41, 42, 43, 46, 47, 48, 49, 50, 51, 52, 53, 44, 45] rfl (by decide +kernel)
set_option maxRecDepth 100000 in
theorem gX5_back_X0_lay : GoodIn wsX5_back (wsV RX5 84 RX0 yX0_lay wsX0_lay) := goodIn_app (goodIn_of _ (by decide +kernel)) ggX5_back_X0_lay
theorem dX5_back_0 : decode cX5_back 0 = .ok (.aload_n 0, 1) := by decide +kernel
theorem dX5_back_1 : decode cX5_back 1 = .ok (.getfield 68, 3) := by decide +kernel
theorem dX5_back_4 : decode cX5_back 4 = .ok (.ifCond .ne 6, 3) := by decide +kernel
theorem dX5_back_7 : decode cX5_back 7 = .ok (.bipush (-3), 2) := by decide +kernel
theorem dX5_back_9 : decode cX5_back 9 = .ok (.ireturn, 1) := by decide +kernel
theorem dX5_back_10 : decode cX5_back 10 = .ok (.aload_n 0, 1) := by decide +kernel
theorem dX5_back_11 : decode cX5_back 11 = .ok (.getfield 12, 3) := by decide +kernel
theorem dX5_back_14 : decode cX5_back 14 = .ok (.aload_n 0, 1) := by decide +kernel
theorem dX5_back_15 : decode cX5_back 15 = .ok (.getfield 18, 3) := by decide +kernel
theorem dX5_back_18 : decode cX5_back 18 = .ok (.invokevirtual 317, 3) := by decide +kernel
theorem dX5_back_21 : decode cX5_back 21 = .ok (.aload_n 0, 1) := by decide +kernel
theorem dX5_back_22 : decode cX5_back 22 = .ok (.getfield 33, 3) := by decide +kernel
theorem dX5_back_25 : decode cX5_back 25 = .ok (.iconst 0, 1) := by decide +kernel
theorem dX5_back_26 : decode cX5_back 26 = .ok (.aload_n 0, 1) := by decide +kernel
theorem dX5_back_27 : decode cX5_back 27 = .ok (.getfield 30, 3) := by decide +kernel
theorem dX5_back_30 : decode cX5_back 30 = .ok (.iconst 0, 1) := by decide +kernel
theorem dX5_back_31 : decode cX5_back 31 = .ok (.aload_n 0, 1) := by decide +kernel
theorem dX5_back_32 : decode cX5_back 32 = .ok (.getfield 30, 3) := by decide +kernel
theorem dX5_back_35 : decode cX5_back 35 = .ok (.arraylength, 1) := by decide +kernel
theorem dX5_back_36 : decode cX5_back 36 = .ok (.aload_n 0, 1) := by decide +kernel
theorem dX5_back_37 : decode cX5_back 37 = .ok (.getfield 33, 3) := by decide +kernel
theorem dX5_back_40 : decode cX5_back 40 = .ok (.arraylength, 1) := by decide +kernel
theorem dX5_back_41 : decode cX5_back 41 = .ok (.invokestatic 320, 3) := by decide +kernel
theorem dX5_back_44 : decode cX5_back 44 = .ok (.invokestatic 323, 3) := by decide +kernel
theorem dX5_back_47 : decode cX5_back 47 = .ok (.aload_n 0, 1) := by decide +kernel
theorem dX5_back_48 : decode cX5_back 48 = .ok (.getfield 41, 3) := by decide +kernel
theorem dX5_back_51 : decode cX5_back 51 = .ok (.invokevirtual 84, 3) := by decide +kernel
theorem dX5_back_54 : decode cX5_back 54 = .ok (.aload_n 0, 1) := by decide +kernel
theorem dX5_back_55 : decode cX5_back 55 = .ok (.getfield 12, 3) := by decide +kernel
theorem dX5_back_58 : decode cX5_back 58 = .ok (.getfield 76, 3) := by decide +kernel
theorem dX5_back_61 : decode cX5_back 61 = .ok (.ireturn, 1) := by decide +kernel
set_option maxRecDepth 100000 in
theorem ggX5_load_X5_sheetOf : GoodIn wsX5_load wsX5_sheetOf := goodIn_g _ [7, 0, 0, 0, 0, 0, 79, 0, 0, 0, 0, 0, 0, 0, 0] [1, 2, 3, 4, 0, 5, 6, 7, 8, 9, 10, 11, 12, 13, 14] rfl (by decide +kernel)
set_option maxRecDepth 100000 in
theorem gX5_load_X5_sheetOf : GoodIn wsX5_load (wsV RX5 223 RX5 yX5_sheetOf wsX5_sheetOf) := goodIn_app (goodIn_of _ (by decide +kernel)) ggX5_load_X5_sheetOf
set_option maxRecDepth 100000 in
theorem ggX5_load_X5_within : GoodIn wsX5_load wsX5_within := goodIn_g _ [12] [0] rfl (by decide +kernel)
set_option maxRecDepth 100000 in
theorem gX5_load_X5_within : GoodIn wsX5_load (va_wsS RX5 91 yX5_within wsX5_within) := goodIn_app (goodIn_of _ (by decide +kernel)) ggX5_load_X5_within
set_option maxRecDepth 100000 in
theorem ggX5_load_X3_isMissing : GoodIn wsX5_load wsX3_isMissing := goodIn_g _ [17, 0, 70, 0, 0] [0, 1, 2, 3, 4] rfl (by decide +kernel)
set_option maxRecDepth 100000 in
theorem gX5_load_X3_isMissing : GoodIn wsX5_load (wsV RX5 227 RX3 yX3_isMissing wsX3_isMissing) := goodIn_app (goodIn_of _ (by decide +kernel)) ggX5_load_X3_isMissing
set_option maxRecDepth 100000 in
theorem ggX5_load_X3_read : GoodIn wsX5_load wsX3_read := goodIn_g _ [7, 14, 0, 0, 0, 0, 62, 0, 0] [1, 2, 3, 4, 0, 5, 6, 7, 8] rfl (by decide +kernel)
set_option maxRecDepth 100000 in
theorem gX5_load_X3_read : GoodIn wsX5_load (wsV RX5 294 RX3 yX3_read wsX3_read) := goodIn_app (goodIn_of _ (by decide +kernel)) ggX5_load_X3_read
set_option maxRecDepth 100000 in
theorem ggX5_load_X5_piece : GoodIn wsX5_load wsX5_piece := goodIn_g _ [7, 2, 0, 0, 12, 0, 3, 0, 0, 0, 0, 0, 0, 0, 0, 0, 0, 0, 0, 0, 0, 0, 0, 0, 0, 0, 0, 0, 0, 0, 0, 0, 0, 0, 0, 0, 0, 0, 0, 0, 0, 0, 0, 0, 0, 0, 0, 0, 0, 0, 0, 0, 0, 0, 0, 0, 0, 0, 0, 0, 0, 0, 0, 0, 0, 3, 0, 0, 0, 0, 0, 0, 0, 0, 0, 0, 0, 0, 0, 0, 0, 0, 0, 0] [6, 7, 8, 9, 10, 11, 0, 12, 13, 14, 15, 4, 5, 1, 2, 3, 16, 17, 18, 19, 20, 21, 22, 23, 24, 25, 26, 27, 28, 29, 30, 31, 32, 33, 34, 35, 36, 37, 38, 39, 40, 41, 42, 43, 44, 45, 46, 47, 48, 49, 50, 51, 52, 53, 54, 55, 56, 57, 58, 59, 60, 61, 62, 63, 64, 65, 66, 67, 68, 69, 70, 71, 72, 73, 74, 75, 76, 77, 78, 79, 80, 81, 82, 83] rfl (by decide +kernel)
set_option maxRecDepth 100000 in
theorem gX5_load_X5_piece : GoodIn wsX5_load (wsV RX5 302 RX5 yX5_piece wsX5_piece) := goodIn_app (goodIn_of _ (by decide +kernel)) ggX5_load_X5_piece
theorem dX5_load_0 : decode cX5_load 0 = .ok (.aload_n 0, 1) := by decide +kernel
theorem dX5_load_1 : decode cX5_load 1 = .ok (.iload_n 1, 1) := by decide +kernel
theorem dX5_load_2 : decode cX5_load 2 = .ok (.invokevirtual 223, 3) := by decide +kernel
theorem dX5_load_5 : decode cX5_load 5 = .ok (.astore 5, 2) := by decide +kernel
theorem dX5_load_7 : decode cX5_load 7 = .ok (.aload 5, 2) := by decide +kernel
theorem dX5_load_9 : decode cX5_load 9 = .ok (.ifnull 23, 3) := by decide +kernel
theorem dX5_load_12 : decode cX5_load 12 = .ok (.iload_n 2, 1) := by decide +kernel
theorem dX5_load_13 : decode cX5_load 13 = .ok (.iconst 0, 1) := by decide +kernel
theorem dX5_load_14 : decode cX5_load 14 = .ok (.iconst 1, 1) := by decide +kernel
theorem dX5_load_15 : decode cX5_load 15 = .ok (.invokestatic 91, 3) := by decide +kernel
theorem dX5_load_18 : decode cX5_load 18 = .ok (.ifCond .eq 14, 3) := by decide +kernel
theorem dX5_load_21 : decode cX5_load 21 = .ok (.iload 4, 2) := by decide +kernel
theorem dX5_load_23 : decode cX5_load 23 = .ok (.iconst 0, 1) := by decide +kernel
theorem dX5_load_24 : decode cX5_load 24 = .ok (.bipush 10, 2) := by decide +kernel
theorem dX5_load_26 : decode cX5_load 26 = .ok (.invokestatic 91, 3) := by decide +kernel
theorem dX5_load_29 : decode cX5_load 29 = .ok (.ifCond .ne 6, 3) := by decide +kernel
theorem dX5_load_32 : decode cX5_load 32 = .ok (.bipush (-2), 2) := by decide +kernel
theorem dX5_load_34 : decode cX5_load 34 = .ok (.ireturn, 1) := by decide +kernel
theorem dX5_load_35 : decode cX5_load 35 = .ok (.aload 5, 2) := by decide +kernel
theorem dX5_load_37 : decode cX5_load 37 = .ok (.invokevirtual 227, 3) := by decide +kernel
theorem dX5_load_40 : decode cX5_load 40 = .ok (.ifCond .eq 6, 3) := by decide +kernel
theorem dX5_load_43 : decode cX5_load 43 = .ok (.bipush (-11), 2) := by decide +kernel
theorem dX5_load_45 : decode cX5_load 45 = .ok (.ireturn, 1) := by decide +kernel
theorem dX5_load_46 : decode cX5_load 46 = .ok (.aload 5, 2) := by decide +kernel
theorem dX5_load_48 : decode cX5_load 48 = .ok (.getfield 329, 3) := by decide +kernel
theorem dX5_load_51 : decode cX5_load 51 = .ok (.iload_n 2, 1) := by decide +kernel
theorem dX5_load_52 : decode cX5_load 52 = .ok (.if_icmp .eq 6, 3) := by decide +kernel
theorem dX5_load_55 : decode cX5_load 55 = .ok (.bipush (-13), 2) := by decide +kernel
theorem dX5_load_57 : decode cX5_load 57 = .ok (.ireturn, 1) := by decide +kernel
theorem dX5_load_58 : decode cX5_load 58 = .ok (.iconst 0, 1) := by decide +kernel
theorem dX5_load_59 : decode cX5_load 59 = .ok (.istore 6, 2) := by decide +kernel
theorem dX5_load_61 : decode cX5_load 61 = .ok (.iconst 0, 1) := by decide +kernel
theorem dX5_load_62 : decode cX5_load 62 = .ok (.istore 7, 2) := by decide +kernel
theorem dX5_load_64 : decode cX5_load 64 = .ok (.iload 7, 2) := by decide +kernel
theorem dX5_load_66 : decode cX5_load 66 = .ok (.iload 4, 2) := by decide +kernel
theorem dX5_load_68 : decode cX5_load 68 = .ok (.if_icmp .ge 96, 3) := by decide +kernel
theorem dX5_load_71 : decode cX5_load 71 = .ok (.iload_n 3, 1) := by decide +kernel
theorem dX5_load_72 : decode cX5_load 72 = .ok (.i2l, 1) := by decide +kernel
theorem dX5_load_73 : decode cX5_load 73 = .ok (.ldc2_w 332, 3) := by decide +kernel
theorem dX5_load_76 : decode cX5_load 76 = .ok (.iload 7, 2) := by decide +kernel
theorem dX5_load_78 : decode cX5_load 78 = .ok (.i2l, 1) := by decide +kernel
theorem dX5_load_79 : decode cX5_load 79 = .ok (.lmul, 1) := by decide +kernel
theorem dX5_load_80 : decode cX5_load 80 = .ok (.ladd, 1) := by decide +kernel
theorem dX5_load_81 : decode cX5_load 81 = .ok (.lstore 8, 2) := by decide +kernel
theorem dX5_load_83 : decode cX5_load 83 = .ok (.lload 8, 2) := by decide +kernel
theorem dX5_load_85 : decode cX5_load 85 = .ok (.lconst 0, 1) := by decide +kernel
theorem dX5_load_86 : decode cX5_load 86 = .ok (.lcmp, 1) := by decide +kernel
theorem dX5_load_87 : decode cX5_load 87 = .ok (.ifCond .lt 19, 3) := by decide +kernel
theorem dX5_load_90 : decode cX5_load 90 = .ok (.lload 8, 2) := by decide +kernel
theorem dX5_load_92 : decode cX5_load 92 = .ok (.ldc2_w 332, 3) := by decide +kernel
theorem dX5_load_95 : decode cX5_load 95 = .ok (.ladd, 1) := by decide +kernel
theorem dX5_load_96 : decode cX5_load 96 = .ok (.aload 5, 2) := by decide +kernel
theorem dX5_load_98 : decode cX5_load 98 = .ok (.getfield 264, 3) := by decide +kernel
theorem dX5_load_101 : decode cX5_load 101 = .ok (.i2l, 1) := by decide +kernel
theorem dX5_load_102 : decode cX5_load 102 = .ok (.lcmp, 1) := by decide +kernel
theorem dX5_load_103 : decode cX5_load 103 = .ok (.ifCond .le 6, 3) := by decide +kernel
theorem dX5_load_106 : decode cX5_load 106 = .ok (.bipush (-12), 2) := by decide +kernel
theorem dX5_load_108 : decode cX5_load 108 = .ok (.ireturn, 1) := by decide +kernel
theorem dX5_load_109 : decode cX5_load 109 = .ok (.lload 8, 2) := by decide +kernel
theorem dX5_load_111 : decode cX5_load 111 = .ok (.l2i, 1) := by decide +kernel
theorem dX5_load_112 : decode cX5_load 112 = .ok (.istore 10, 2) := by decide +kernel
theorem dX5_load_114 : decode cX5_load 114 = .ok (.aload_n 0, 1) := by decide +kernel
theorem dX5_load_115 : decode cX5_load 115 = .ok (.aload 5, 2) := by decide +kernel
theorem dX5_load_117 : decode cX5_load 117 = .ok (.iload 10, 2) := by decide +kernel
theorem dX5_load_119 : decode cX5_load 119 = .ok (.invokevirtual 294, 3) := by decide +kernel
theorem dX5_load_122 : decode cX5_load 122 = .ok (.aload 5, 2) := by decide +kernel
theorem dX5_load_124 : decode cX5_load 124 = .ok (.iload 10, 2) := by decide +kernel
theorem dX5_load_126 : decode cX5_load 126 = .ok (.iconst 1, 1) := by decide +kernel
theorem dX5_load_127 : decode cX5_load 127 = .ok (.iadd, 1) := by decide +kernel
theorem dX5_load_128 : decode cX5_load 128 = .ok (.invokevirtual 294, 3) := by decide +kernel
theorem dX5_load_131 : decode cX5_load 131 = .ok (.aload 5, 2) := by decide +kernel
theorem dX5_load_133 : decode cX5_load 133 = .ok (.iload 10, 2) := by decide +kernel
theorem dX5_load_135 : decode cX5_load 135 = .ok (.iconst 2, 1) := by decide +kernel
theorem dX5_load_136 : decode cX5_load 136 = .ok (.iadd, 1) := by decide +kernel
theorem dX5_load_137 : decode cX5_load 137 = .ok (.invokevirtual 294, 3) := by decide +kernel
theorem dX5_load_140 : decode cX5_load 140 = .ok (.aload 5, 2) := by decide +kernel
theorem dX5_load_142 : decode cX5_load 142 = .ok (.iload 10, 2) := by decide +kernel
theorem dX5_load_144 : decode cX5_load 144 = .ok (.iconst 3, 1) := by decide +kernel
theorem dX5_load_145 : decode cX5_load 145 = .ok (.iadd, 1) := by decide +kernel
theorem dX5_load_146 : decode cX5_load 146 = .ok (.invokevirtual 294, 3) := by decide +kernel
theorem dX5_load_149 : decode cX5_load 149 = .ok (.invokevirtual 302, 3) := by decide +kernel
theorem dX5_load_152 : decode cX5_load 152 = .ok (.ifCond .lt 6, 3) := by decide +kernel
theorem dX5_load_155 : decode cX5_load 155 = .ok (.iinc 6 1, 3) := by decide +kernel
theorem dX5_load_158 : decode cX5_load 158 = .ok (.iinc 7 1, 3) := by decide +kernel
theorem dX5_load_161 : decode cX5_load 161 = .ok (.goto (-97), 3) := by decide +kernel
theorem dX5_load_164 : decode cX5_load 164 = .ok (.iload 6, 2) := by decide +kernel
theorem dX5_load_166 : decode cX5_load 166 = .ok (.ireturn, 1) := by decide +kernel
set_option maxRecDepth 100000 in
theorem ggX5_count_X5_reversed : GoodIn wsX5_count wsX5_reversed := goodIn_g _ [1, 0, 7, 0, 0, 0, 0, 0, 0, 0, 0, 0, 0, 6, 0, 0, 0, 0, 0, 0, 0, 0, 0, 0] [3, 0, 1, 4, 5, 6, 7, 8, 9, 10, 11, 2, 12, 13, 14, 15, 16, 17, 18, 19, 20, 21, 22, 23] rfl (by decide +kernel)
set_option maxRecDepth 100000 in
theorem gX5_count_X5_reversed : GoodIn wsX5_count (wsV RX5 334 RX5 yX5_reversed wsX5_reversed) := goodIn_app (goodIn_of _ (by decide +kernel)) ggX5_count_X5_reversed
set_option maxRecDepth 100000 in
theorem ggX5_count_X5_raised : GoodIn wsX5_count wsX5_raised := goodIn_g _ [3, 0, 5, 8, 0, 3, 0, 0, 0, 0, 0, 0, 0, 0, 0, 0, 0, 2, 0, 0, 0, 0, 0, 0, 0] [5, 0, 1, 6, 7, 3, 2, 4, 8, 9, 10, 11, 12, 13, 14, 15, 16, 17, 18, 19, 20, 21, 22, 23, 24] rfl (by decide +kernel)
set_option maxRecDepth 100000 in
theorem gX5_count_X5_raised : GoodIn wsX5_count (wsV RX5 337 RX5 yX5_raised wsX5_raised) := goodIn_app (goodIn_of _ (by decide +kernel)) ggX5_count_X5_raised
theorem dX5_count_0 : decode cX5_count 0 = .ok (.iload_n 1, 1) := by decide +kernel
theorem dX5_count_1 : decode cX5_count 1 = .ok (.tableswitch 69 0 4 #[35, 43, 51, 59, 64], 35) := by decide +kernel
theorem dX5_count_36 : decode cX5_count 36 = .ok (.aload_n 0, 1) := by decide +kernel
theorem dX5_count_37 : decode cX5_count 37 = .ok (.getfield 12, 3) := by decide +kernel
theorem dX5_count_40 : decode cX5_count 40 = .ok (.getfield 76, 3) := by decide +kernel
theorem dX5_count_43 : decode cX5_count 43 = .ok (.ireturn, 1) := by decide +kernel
theorem dX5_count_44 : decode cX5_count 44 = .ok (.aload_n 0, 1) := by decide +kernel
theorem dX5_count_45 : decode cX5_count 45 = .ok (.getfield 41, 3) := by decide +kernel
theorem dX5_count_48 : decode cX5_count 48 = .ok (.getfield 128, 3) := by decide +kernel
theorem dX5_count_51 : decode cX5_count 51 = .ok (.ireturn, 1) := by decide +kernel
theorem dX5_count_52 : decode cX5_count 52 = .ok (.aload_n 0, 1) := by decide +kernel
theorem dX5_count_53 : decode cX5_count 53 = .ok (.getfield 64, 3) := by decide +kernel
theorem dX5_count_56 : decode cX5_count 56 = .ok (.getfield 281, 3) := by decide +kernel
theorem dX5_count_59 : decode cX5_count 59 = .ok (.ireturn, 1) := by decide +kernel
theorem dX5_count_60 : decode cX5_count 60 = .ok (.aload_n 0, 1) := by decide +kernel
theorem dX5_count_61 : decode cX5_count 61 = .ok (.invokevirtual 334, 3) := by decide +kernel
theorem dX5_count_64 : decode cX5_count 64 = .ok (.ireturn, 1) := by decide +kernel
theorem dX5_count_65 : decode cX5_count 65 = .ok (.aload_n 0, 1) := by decide +kernel
theorem dX5_count_66 : decode cX5_count 66 = .ok (.invokevirtual 337, 3) := by decide +kernel
theorem dX5_count_69 : decode cX5_count 69 = .ok (.ireturn, 1) := by decide +kernel
theorem dX5_count_70 : decode cX5_count 70 = .ok (.bipush (-2), 2) := by decide +kernel
theorem dX5_count_72 : decode cX5_count 72 = .ok (.ireturn, 1) := by decide +kernel
set_option maxRecDepth 100000 in
theorem ggX5_sheet_X5_sheetOf : GoodIn wsX5_sheet wsX5_sheetOf := goodIn_g _ [4, 0, 0, 0, 0, 0, 12, 0, 0, 0, 0, 0, 0, 0, 0] [1, 2, 3, 4, 0, 5, 6, 7, 8, 9, 10, 11, 12, 13, 14] rfl (by decide +kernel)
set_option maxRecDepth 100000 in
theorem gX5_sheet_X5_sheetOf : GoodIn wsX5_sheet (wsV RX5 223 RX5 yX5_sheetOf wsX5_sheetOf) := goodIn_app (goodIn_of _ (by decide +kernel)) ggX5_sheet_X5_sheetOf
set_option maxRecDepth 100000 in
theorem ggX5_sheet_X5_within : GoodIn wsX5_sheet wsX5_within := goodIn_g _ [9] [0] rfl (by decide +kernel)
set_option maxRecDepth 100000 in
theorem gX5_sheet_X5_within : GoodIn wsX5_sheet (va_wsS RX5 91 yX5_within wsX5_within) := goodIn_app (goodIn_of _ (by decide +kernel)) ggX5_sheet_X5_within
set_option maxRecDepth 100000 in
theorem ggX5_sheet_X3_become : GoodIn wsX5_sheet wsX3_become := goodIn_g _ [14, 0, 0, 0, 0, 0, 0, 0, 9, 0, 0] [0, 1, 2, 3, 4, 5, 6, 7, 8, 9, 10] rfl (by decide +kernel)
set_option maxRecDepth 100000 in
theorem gX5_sheet_X3_become : GoodIn wsX5_sheet (wsV RX5 273 RX3 yX3_become wsX3_become) := goodIn_app (goodIn_of _ (by decide +kernel)) ggX5_sheet_X3_become
theorem dX5_sheet_0 : decode cX5_sheet 0 = .ok (.aload_n 0, 1) := by decide +kernel
theorem dX5_sheet_1 : decode cX5_sheet 1 = .ok (.iload_n 1, 1) := by decide +kernel
theorem dX5_sheet_2 : decode cX5_sheet 2 = .ok (.invokevirtual 223, 3) := by decide +kernel
theorem dX5_sheet_5 : decode cX5_sheet 5 = .ok (.astore 4, 2) := by decide +kernel
theorem dX5_sheet_7 : decode cX5_sheet 7 = .ok (.aload 4, 2) := by decide +kernel
theorem dX5_sheet_9 : decode cX5_sheet 9 = .ok (.ifnull 12, 3) := by decide +kernel
theorem dX5_sheet_12 : decode cX5_sheet 12 = .ok (.iload_n 2, 1) := by decide +kernel
theorem dX5_sheet_13 : decode cX5_sheet 13 = .ok (.iconst (-1), 1) := by decide +kernel
theorem dX5_sheet_14 : decode cX5_sheet 14 = .ok (.iconst 1, 1) := by decide +kernel
theorem dX5_sheet_15 : decode cX5_sheet 15 = .ok (.invokestatic 91, 3) := by decide +kernel
theorem dX5_sheet_18 : decode cX5_sheet 18 = .ok (.ifCond .ne 6, 3) := by decide +kernel
theorem dX5_sheet_21 : decode cX5_sheet 21 = .ok (.bipush (-2), 2) := by decide +kernel
theorem dX5_sheet_23 : decode cX5_sheet 23 = .ok (.ireturn, 1) := by decide +kernel
theorem dX5_sheet_24 : decode cX5_sheet 24 = .ok (.iload_n 2, 1) := by decide +kernel
theorem dX5_sheet_25 : decode cX5_sheet 25 = .ok (.iconst (-1), 1) := by decide +kernel
theorem dX5_sheet_26 : decode cX5_sheet 26 = .ok (.if_icmp .ne 12, 3) := by decide +kernel
theorem dX5_sheet_29 : decode cX5_sheet 29 = .ok (.aload 4, 2) := by decide +kernel
theorem dX5_sheet_31 : decode cX5_sheet 31 = .ok (.iconst (-1), 1) := by decide +kernel
theorem dX5_sheet_32 : decode cX5_sheet 32 = .ok (.iconst 0, 1) := by decide +kernel
theorem dX5_sheet_33 : decode cX5_sheet 33 = .ok (.invokevirtual 273, 3) := by decide +kernel
theorem dX5_sheet_36 : decode cX5_sheet 36 = .ok (.iconst 1, 1) := by decide +kernel
theorem dX5_sheet_37 : decode cX5_sheet 37 = .ok (.ireturn, 1) := by decide +kernel
theorem dX5_sheet_38 : decode cX5_sheet 38 = .ok (.iload_n 3, 1) := by decide +kernel
theorem dX5_sheet_39 : decode cX5_sheet 39 = .ok (.bipush 40, 2) := by decide +kernel
theorem dX5_sheet_41 : decode cX5_sheet 41 = .ok (.if_icmp .le 6, 3) := by decide +kernel
theorem dX5_sheet_44 : decode cX5_sheet 44 = .ok (.bipush (-2), 2) := by decide +kernel
theorem dX5_sheet_46 : decode cX5_sheet 46 = .ok (.ireturn, 1) := by decide +kernel
theorem dX5_sheet_47 : decode cX5_sheet 47 = .ok (.iload_n 3, 1) := by decide +kernel
theorem dX5_sheet_48 : decode cX5_sheet 48 = .ok (.ifCond .ge 6, 3) := by decide +kernel
theorem dX5_sheet_51 : decode cX5_sheet 51 = .ok (.bipush (-14), 2) := by decide +kernel
theorem dX5_sheet_53 : decode cX5_sheet 53 = .ok (.ireturn, 1) := by decide +kernel
theorem dX5_sheet_54 : decode cX5_sheet 54 = .ok (.aload 4, 2) := by decide +kernel
theorem dX5_sheet_56 : decode cX5_sheet 56 = .ok (.iload_n 2, 1) := by decide +kernel
theorem dX5_sheet_57 : decode cX5_sheet 57 = .ok (.iload_n 3, 1) := by decide +kernel
theorem dX5_sheet_58 : decode cX5_sheet 58 = .ok (.invokevirtual 273, 3) := by decide +kernel
theorem dX5_sheet_61 : decode cX5_sheet 61 = .ok (.iconst 1, 1) := by decide +kernel
theorem dX5_sheet_62 : decode cX5_sheet 62 = .ok (.ireturn, 1) := by decide +kernel
set_option maxRecDepth 100000 in
theorem ggX5_put_X5_sheetOf : GoodIn wsX5_put wsX5_sheetOf := goodIn_g _ [5, 0, 0, 0, 0, 0, 17, 0, 0, 0, 0, 0, 0, 0, 0] [1, 2, 3, 4, 0, 5, 6, 7, 8, 9, 10, 11, 12, 13, 14] rfl (by decide +kernel)
set_option maxRecDepth 100000 in
theorem gX5_put_X5_sheetOf : GoodIn wsX5_put (wsV RX5 223 RX5 yX5_sheetOf wsX5_sheetOf) := goodIn_app (goodIn_of _ (by decide +kernel)) ggX5_put_X5_sheetOf
set_option maxRecDepth 100000 in
theorem ggX5_put_X3_isMissing : GoodIn wsX5_put wsX3_isMissing := goodIn_g _ [15, 0, 8, 0, 0] [0, 1, 2, 3, 4] rfl (by decide +kernel)
set_option maxRecDepth 100000 in
theorem gX5_put_X3_isMissing : GoodIn wsX5_put (wsV RX5 227 RX3 yX3_isMissing wsX3_isMissing) := goodIn_app (goodIn_of _ (by decide +kernel)) ggX5_put_X3_isMissing
set_option maxRecDepth 100000 in
theorem ggX5_put_X5_within : GoodIn wsX5_put wsX5_within := goodIn_g _ [10] [0] rfl (by decide +kernel)
set_option maxRecDepth 100000 in
theorem gX5_put_X5_within : GoodIn wsX5_put (va_wsS RX5 91 yX5_within wsX5_within) := goodIn_app (goodIn_of _ (by decide +kernel)) ggX5_put_X5_within
set_option maxRecDepth 100000 in
theorem ggX5_put_X3_write : GoodIn wsX5_put wsX3_write := goodIn_g _ [5, 10, 3, 0, 0, 0, 0, 0, 0, 0] [2, 3, 4, 1, 5, 0, 6, 7, 8, 9] rfl (by decide +kernel)
set_option maxRecDepth 100000 in
theorem gX5_put_X3_write : GoodIn wsX5_put (wsV RX5 276 RX3 yX3_write wsX3_write) := goodIn_app (goodIn_of _ (by decide +kernel)) ggX5_put_X3_write
theorem dX5_put_0 : decode cX5_put 0 = .ok (.aload_n 0, 1) := by decide +kernel
theorem dX5_put_1 : decode cX5_put 1 = .ok (.iload_n 1, 1) := by decide +kernel
theorem dX5_put_2 : decode cX5_put 2 = .ok (.invokevirtual 223, 3) := by decide +kernel
theorem dX5_put_5 : decode cX5_put 5 = .ok (.astore 4, 2) := by decide +kernel
theorem dX5_put_7 : decode cX5_put 7 = .ok (.aload 4, 2) := by decide +kernel
theorem dX5_put_9 : decode cX5_put 9 = .ok (.ifnonnull 6, 3) := by decide +kernel
theorem dX5_put_12 : decode cX5_put 12 = .ok (.bipush (-2), 2) := by decide +kernel
theorem dX5_put_14 : decode cX5_put 14 = .ok (.ireturn, 1) := by decide +kernel
theorem dX5_put_15 : decode cX5_put 15 = .ok (.aload 4, 2) := by decide +kernel
theorem dX5_put_17 : decode cX5_put 17 = .ok (.invokevirtual 227, 3) := by decide +kernel
theorem dX5_put_20 : decode cX5_put 20 = .ok (.ifCond .eq 6, 3) := by decide +kernel
theorem dX5_put_23 : decode cX5_put 23 = .ok (.bipush (-11), 2) := by decide +kernel
theorem dX5_put_25 : decode cX5_put 25 = .ok (.ireturn, 1) := by decide +kernel
theorem dX5_put_26 : decode cX5_put 26 = .ok (.iload_n 2, 1) := by decide +kernel
theorem dX5_put_27 : decode cX5_put 27 = .ok (.iconst 0, 1) := by decide +kernel
theorem dX5_put_28 : decode cX5_put 28 = .ok (.aload 4, 2) := by decide +kernel
theorem dX5_put_30 : decode cX5_put 30 = .ok (.getfield 264, 3) := by decide +kernel
theorem dX5_put_33 : decode cX5_put 33 = .ok (.iconst 1, 1) := by decide +kernel
theorem dX5_put_34 : decode cX5_put 34 = .ok (.isub, 1) := by decide +kernel
theorem dX5_put_35 : decode cX5_put 35 = .ok (.invokestatic 91, 3) := by decide +kernel
theorem dX5_put_38 : decode cX5_put 38 = .ok (.ifCond .ne 6, 3) := by decide +kernel
theorem dX5_put_41 : decode cX5_put 41 = .ok (.bipush (-12), 2) := by decide +kernel
theorem dX5_put_43 : decode cX5_put 43 = .ok (.ireturn, 1) := by decide +kernel
theorem dX5_put_44 : decode cX5_put 44 = .ok (.aload 4, 2) := by decide +kernel
theorem dX5_put_46 : decode cX5_put 46 = .ok (.iload_n 2, 1) := by decide +kernel
theorem dX5_put_47 : decode cX5_put 47 = .ok (.iload_n 3, 1) := by decide +kernel
theorem dX5_put_48 : decode cX5_put 48 = .ok (.invokevirtual 276, 3) := by decide +kernel
theorem dX5_put_51 : decode cX5_put 51 = .ok (.iconst 1, 1) := by decide +kernel
theorem dX5_put_52 : decode cX5_put 52 = .ok (.ireturn, 1) := by decide +kernel
set_option maxRecDepth 100000 in
theorem ggX5_copy_X5_sheetOf : GoodIn wsX5_copy wsX5_sheetOf := goodIn_g _ [11, 0, 0, 0, 0, 0, 9, 0, 0, 0, 0, 0, 0, 0, 0] [1, 2, 3, 4, 0, 5, 6, 7, 8, 9, 10, 11, 12, 13, 14] rfl (by decide +kernel)
set_option maxRecDepth 100000 in
theorem gX5_copy_X5_sheetOf : GoodIn wsX5_copy (wsV RX5 223 RX5 yX5_sheetOf wsX5_sheetOf) := goodIn_app (goodIn_of _ (by decide +kernel)) ggX5_copy_X5_sheetOf
set_option maxRecDepth 100000 in
theorem ggX5_copy_X3_isMissing : GoodIn wsX5_copy wsX3_isMissing := goodIn_g _ [21, 0, 0, 0, 0] [0, 1, 2, 3, 4] rfl (by decide +kernel)
set_option maxRecDepth 100000 in
theorem gX5_copy_X3_isMissing : GoodIn wsX5_copy (wsV RX5 227 RX3 yX3_isMissing wsX3_isMissing) := goodIn_app (goodIn_of _ (by decide +kernel)) ggX5_copy_X3_isMissing
set_option maxRecDepth 100000 in
theorem ggX5_copy_X5_within : GoodIn wsX5_copy wsX5_within := goodIn_g _ [16] [0] rfl (by decide +kernel)
set_option maxRecDepth 100000 in
theorem gX5_copy_X5_within : GoodIn wsX5_copy (va_wsS RX5 91 yX5_within wsX5_within) := goodIn_app (goodIn_of _ (by decide +kernel)) ggX5_copy_X5_within
theorem dX5_copy_0 : decode cX5_copy 0 = .ok (.aload_n 0, 1) := by decide +kernel
theorem dX5_copy_1 : decode cX5_copy 1 = .ok (.iload_n 1, 1) := by decide +kernel
theorem dX5_copy_2 : decode cX5_copy 2 = .ok (.invokevirtual 223, 3) := by decide +kernel
theorem dX5_copy_5 : decode cX5_copy 5 = .ok (.astore 6, 2) := by decide +kernel
theorem dX5_copy_7 : decode cX5_copy 7 = .ok (.aload_n 0, 1) := by decide +kernel
theorem dX5_copy_8 : decode cX5_copy 8 = .ok (.iload_n 3, 1) := by decide +kernel
theorem dX5_copy_9 : decode cX5_copy 9 = .ok (.invokevirtual 223, 3) := by decide +kernel
theorem dX5_copy_12 : decode cX5_copy 12 = .ok (.astore 7, 2) := by decide +kernel
theorem dX5_copy_14 : decode cX5_copy 14 = .ok (.aload 6, 2) := by decide +kernel
theorem dX5_copy_16 : decode cX5_copy 16 = .ok (.ifnull 8, 3) := by decide +kernel
theorem dX5_copy_19 : decode cX5_copy 19 = .ok (.aload 7, 2) := by decide +kernel
theorem dX5_copy_21 : decode cX5_copy 21 = .ok (.ifnonnull 6, 3) := by decide +kernel
theorem dX5_copy_24 : decode cX5_copy 24 = .ok (.bipush (-2), 2) := by decide +kernel
theorem dX5_copy_26 : decode cX5_copy 26 = .ok (.ireturn, 1) := by decide +kernel
theorem dX5_copy_27 : decode cX5_copy 27 = .ok (.aload 6, 2) := by decide +kernel
theorem dX5_copy_29 : decode cX5_copy 29 = .ok (.invokevirtual 227, 3) := by decide +kernel
theorem dX5_copy_32 : decode cX5_copy 32 = .ok (.ifCond .ne 11, 3) := by decide +kernel
theorem dX5_copy_35 : decode cX5_copy 35 = .ok (.aload 7, 2) := by decide +kernel
theorem dX5_copy_37 : decode cX5_copy 37 = .ok (.invokevirtual 227, 3) := by decide +kernel
theorem dX5_copy_40 : decode cX5_copy 40 = .ok (.ifCond .eq 6, 3) := by decide +kernel
theorem dX5_copy_43 : decode cX5_copy 43 = .ok (.bipush (-11), 2) := by decide +kernel
theorem dX5_copy_45 : decode cX5_copy 45 = .ok (.ireturn, 1) := by decide +kernel
theorem dX5_copy_46 : decode cX5_copy 46 = .ok (.aload 6, 2) := by decide +kernel
theorem dX5_copy_48 : decode cX5_copy 48 = .ok (.getfield 329, 3) := by decide +kernel
theorem dX5_copy_51 : decode cX5_copy 51 = .ok (.aload 7, 2) := by decide +kernel
theorem dX5_copy_53 : decode cX5_copy 53 = .ok (.getfield 329, 3) := by decide +kernel
theorem dX5_copy_56 : decode cX5_copy 56 = .ok (.if_icmp .eq 6, 3) := by decide +kernel
theorem dX5_copy_59 : decode cX5_copy 59 = .ok (.bipush (-13), 2) := by decide +kernel
theorem dX5_copy_61 : decode cX5_copy 61 = .ok (.ireturn, 1) := by decide +kernel
theorem dX5_copy_62 : decode cX5_copy 62 = .ok (.iload 5, 2) := by decide +kernel
theorem dX5_copy_64 : decode cX5_copy 64 = .ok (.ifCond .lt 36, 3) := by decide +kernel
theorem dX5_copy_67 : decode cX5_copy 67 = .ok (.iload_n 2, 1) := by decide +kernel
theorem dX5_copy_68 : decode cX5_copy 68 = .ok (.iconst 0, 1) := by decide +kernel
theorem dX5_copy_69 : decode cX5_copy 69 = .ok (.aload 6, 2) := by decide +kernel
theorem dX5_copy_71 : decode cX5_copy 71 = .ok (.getfield 264, 3) := by decide +kernel
theorem dX5_copy_74 : decode cX5_copy 74 = .ok (.iload 5, 2) := by decide +kernel
theorem dX5_copy_76 : decode cX5_copy 76 = .ok (.isub, 1) := by decide +kernel
theorem dX5_copy_77 : decode cX5_copy 77 = .ok (.invokestatic 91, 3) := by decide +kernel
theorem dX5_copy_80 : decode cX5_copy 80 = .ok (.ifCond .eq 20, 3) := by decide +kernel
theorem dX5_copy_83 : decode cX5_copy 83 = .ok (.iload 4, 2) := by decide +kernel
theorem dX5_copy_85 : decode cX5_copy 85 = .ok (.iconst 0, 1) := by decide +kernel
theorem dX5_copy_86 : decode cX5_copy 86 = .ok (.aload 7, 2) := by decide +kernel
theorem dX5_copy_88 : decode cX5_copy 88 = .ok (.getfield 264, 3) := by decide +kernel
theorem dX5_copy_91 : decode cX5_copy 91 = .ok (.iload 5, 2) := by decide +kernel
theorem dX5_copy_93 : decode cX5_copy 93 = .ok (.isub, 1) := by decide +kernel
theorem dX5_copy_94 : decode cX5_copy 94 = .ok (.invokestatic 91, 3) := by decide +kernel
theorem dX5_copy_97 : decode cX5_copy 97 = .ok (.ifCond .ne 6, 3) := by decide +kernel
theorem dX5_copy_100 : decode cX5_copy 100 = .ok (.bipush (-12), 2) := by decide +kernel
theorem dX5_copy_102 : decode cX5_copy 102 = .ok (.ireturn, 1) := by decide +kernel
theorem dX5_copy_103 : decode cX5_copy 103 = .ok (.aload 6, 2) := by decide +kernel
theorem dX5_copy_105 : decode cX5_copy 105 = .ok (.getfield 340, 3) := by decide +kernel
theorem dX5_copy_108 : decode cX5_copy 108 = .ok (.iload_n 2, 1) := by decide +kernel
theorem dX5_copy_109 : decode cX5_copy 109 = .ok (.aload 7, 2) := by decide +kernel
theorem dX5_copy_111 : decode cX5_copy 111 = .ok (.getfield 340, 3) := by decide +kernel
theorem dX5_copy_114 : decode cX5_copy 114 = .ok (.iload 4, 2) := by decide +kernel
theorem dX5_copy_116 : decode cX5_copy 116 = .ok (.iload 5, 2) := by decide +kernel
theorem dX5_copy_118 : decode cX5_copy 118 = .ok (.invokestatic 323, 3) := by decide +kernel
theorem dX5_copy_121 : decode cX5_copy 121 = .ok (.iload 5, 2) := by decide +kernel
theorem dX5_copy_123 : decode cX5_copy 123 = .ok (.ireturn, 1) := by decide +kernel
set_option maxRecDepth 100000 in
theorem ggX5_reversed_X2_read : GoodIn wsX5_reversed wsX2_read := goodIn_g _ [7, 0, 0, 0, 0, 0, 9, 0] [0, 1, 2, 3, 4, 5, 6, 7] rfl (by decide +kernel)
set_option maxRecDepth 100000 in
theorem gX5_reversed_X2_read : GoodIn wsX5_reversed (wsV RX5 95 RX2 yX2_read wsX2_read) := goodIn_app (goodIn_of _ (by decide +kernel)) ggX5_reversed_X2_read
theorem dX5_reversed_0 : decode cX5_reversed 0 = .ok (.iconst 0, 1) := by decide +kernel
theorem dX5_reversed_1 : decode cX5_reversed 1 = .ok (.istore_n 1, 1) := by decide +kernel
theorem dX5_reversed_2 : decode cX5_reversed 2 = .ok (.iconst 0, 1) := by decide +kernel
theorem dX5_reversed_3 : decode cX5_reversed 3 = .ok (.istore_n 2, 1) := by decide +kernel
theorem dX5_reversed_4 : decode cX5_reversed 4 = .ok (.iload_n 2, 1) := by decide +kernel
theorem dX5_reversed_5 : decode cX5_reversed 5 = .ok (.aload_n 0, 1) := by decide +kernel
theorem dX5_reversed_6 : decode cX5_reversed 6 = .ok (.getfield 12, 3) := by decide +kernel
theorem dX5_reversed_9 : decode cX5_reversed 9 = .ok (.getfield 76, 3) := by decide +kernel
theorem dX5_reversed_12 : decode cX5_reversed 12 = .ok (.if_icmp .ge 34, 3) := by decide +kernel
theorem dX5_reversed_15 : decode cX5_reversed 15 = .ok (.aload_n 0, 1) := by decide +kernel
theorem dX5_reversed_16 : decode cX5_reversed 16 = .ok (.getfield 12, 3) := by decide +kernel
theorem dX5_reversed_19 : decode cX5_reversed 19 = .ok (.iload_n 2, 1) := by decide +kernel
theorem dX5_reversed_20 : decode cX5_reversed 20 = .ok (.iconst 0, 1) := by decide +kernel
theorem dX5_reversed_21 : decode cX5_reversed 21 = .ok (.invokevirtual 95, 3) := by decide +kernel
theorem dX5_reversed_24 : decode cX5_reversed 24 = .ok (.iconst 3, 1) := by decide +kernel
theorem dX5_reversed_25 : decode cX5_reversed 25 = .ok (.if_icmp .ne 15, 3) := by decide +kernel
theorem dX5_reversed_28 : decode cX5_reversed 28 = .ok (.iload_n 1, 1) := by decide +kernel
theorem dX5_reversed_29 : decode cX5_reversed 29 = .ok (.aload_n 0, 1) := by decide +kernel
theorem dX5_reversed_30 : decode cX5_reversed 30 = .ok (.getfield 12, 3) := by decide +kernel
theorem dX5_reversed_33 : decode cX5_reversed 33 = .ok (.iload_n 2, 1) := by decide +kernel
theorem dX5_reversed_34 : decode cX5_reversed 34 = .ok (.iconst 1, 1) := by decide +kernel
theorem dX5_reversed_35 : decode cX5_reversed 35 = .ok (.invokevirtual 95, 3) := by decide +kernel
theorem dX5_reversed_38 : decode cX5_reversed 38 = .ok (.iadd, 1) := by decide +kernel
theorem dX5_reversed_39 : decode cX5_reversed 39 = .ok (.istore_n 1, 1) := by decide +kernel
theorem dX5_reversed_40 : decode cX5_reversed 40 = .ok (.iinc 2 1, 3) := by decide +kernel
theorem dX5_reversed_43 : decode cX5_reversed 43 = .ok (.goto (-39), 3) := by decide +kernel
theorem dX5_reversed_46 : decode cX5_reversed 46 = .ok (.iload_n 1, 1) := by decide +kernel
theorem dX5_reversed_47 : decode cX5_reversed 47 = .ok (.ireturn, 1) := by decide +kernel
set_option maxRecDepth 100000 in
theorem ggX5_raised_X5_cell : GoodIn wsX5_raised wsX5_cell := goodIn_g _ [7] [0] rfl (by decide +kernel)
set_option maxRecDepth 100000 in
theorem gX5_raised_X5_cell : GoodIn wsX5_raised (va_wsS RX5 117 yX5_cell wsX5_cell) := goodIn_app (goodIn_of _ (by decide +kernel)) ggX5_raised_X5_cell
theorem dX5_raised_0 : decode cX5_raised 0 = .ok (.iconst 0, 1) := by decide +kernel
theorem dX5_raised_1 : decode cX5_raised 1 = .ok (.istore_n 1, 1) := by decide +kernel
theorem dX5_raised_2 : decode cX5_raised 2 = .ok (.iconst 1, 1) := by decide +kernel
theorem dX5_raised_3 : decode cX5_raised 3 = .ok (.istore_n 2, 1) := by decide +kernel
theorem dX5_raised_4 : decode cX5_raised 4 = .ok (.iload_n 2, 1) := by decide +kernel
theorem dX5_raised_5 : decode cX5_raised 5 = .ok (.aload_n 0, 1) := by decide +kernel
theorem dX5_raised_6 : decode cX5_raised 6 = .ok (.getfield 41, 3) := by decide +kernel
theorem dX5_raised_9 : decode cX5_raised 9 = .ok (.getfield 128, 3) := by decide +kernel
theorem dX5_raised_12 : decode cX5_raised 12 = .ok (.if_icmp .gt 26, 3) := by decide +kernel
theorem dX5_raised_15 : decode cX5_raised 15 = .ok (.aload_n 0, 1) := by decide +kernel
theorem dX5_raised_16 : decode cX5_raised 16 = .ok (.getfield 41, 3) := by decide +kernel
theorem dX5_raised_19 : decode cX5_raised 19 = .ok (.getfield 134, 3) := by decide +kernel
theorem dX5_raised_22 : decode cX5_raised 22 = .ok (.iload_n 2, 1) := by decide +kernel
theorem dX5_raised_23 : decode cX5_raised 23 = .ok (.invokestatic 117, 3) := by decide +kernel
theorem dX5_raised_26 : decode cX5_raised 26 = .ok (.ifCond .le 6, 3) := by decide +kernel
theorem dX5_raised_29 : decode cX5_raised 29 = .ok (.iinc 1 1, 3) := by decide +kernel
theorem dX5_raised_32 : decode cX5_raised 32 = .ok (.iinc 2 1, 3) := by decide +kernel
theorem dX5_raised_35 : decode cX5_raised 35 = .ok (.goto (-31), 3) := by decide +kernel
theorem dX5_raised_38 : decode cX5_raised 38 = .ok (.iload_n 1, 1) := by decide +kernel
theorem dX5_raised_39 : decode cX5_raised 39 = .ok (.ireturn, 1) := by decide +kernel
set_option maxRecDepth 100000 in
theorem ggX5_sheetOf_X5_within : GoodIn wsX5_sheetOf wsX5_within := goodIn_g _ [5] [0] rfl (by decide +kernel)
set_option maxRecDepth 100000 in
theorem gX5_sheetOf_X5_within : GoodIn wsX5_sheetOf (va_wsS RX5 91 yX5_within wsX5_within) := goodIn_app (goodIn_of _ (by decide +kernel)) ggX5_sheetOf_X5_within
theorem dX5_sheetOf_0 : decode cX5_sheetOf 0 = .ok (.iload_n 1, 1) := by decide +kernel
theorem dX5_sheetOf_1 : decode cX5_sheetOf 1 = .ok (.iconst 0, 1) := by decide +kernel
theorem dX5_sheetOf_2 : decode cX5_sheetOf 2 = .ok (.aload_n 0, 1) := by decide +kernel
theorem dX5_sheetOf_3 : decode cX5_sheetOf 3 = .ok (.getfield 56, 3) := by decide +kernel
theorem dX5_sheetOf_6 : decode cX5_sheetOf 6 = .ok (.arraylength, 1) := by decide +kernel
theorem dX5_sheetOf_7 : decode cX5_sheetOf 7 = .ok (.iconst 1, 1) := by decide +kernel
theorem dX5_sheetOf_8 : decode cX5_sheetOf 8 = .ok (.isub, 1) := by decide +kernel
theorem dX5_sheetOf_9 : decode cX5_sheetOf 9 = .ok (.invokestatic 91, 3) := by decide +kernel
theorem dX5_sheetOf_12 : decode cX5_sheetOf 12 = .ok (.ifCond .eq 12, 3) := by decide +kernel
theorem dX5_sheetOf_15 : decode cX5_sheetOf 15 = .ok (.aload_n 0, 1) := by decide +kernel
theorem dX5_sheetOf_16 : decode cX5_sheetOf 16 = .ok (.getfield 56, 3) := by decide +kernel
theorem dX5_sheetOf_19 : decode cX5_sheetOf 19 = .ok (.iload_n 1, 1) := by decide +kernel
theorem dX5_sheetOf_20 : decode cX5_sheetOf 20 = .ok (.aaload, 1) := by decide +kernel
theorem dX5_sheetOf_21 : decode cX5_sheetOf 21 = .ok (.goto 4, 3) := by decide +kernel
theorem dX5_sheetOf_24 : decode cX5_sheetOf 24 = .ok (.aconst_null, 1) := by decide +kernel
theorem dX5_sheetOf_25 : decode cX5_sheetOf 25 = .ok (.areturn, 1) := by decide +kernel
theorem dX5_cell_0 : decode cX5_cell 0 = .ok (.iload_n 1, 1) := by decide +kernel
theorem dX5_cell_1 : decode cX5_cell 1 = .ok (.ifCond .lt 15, 3) := by decide +kernel
theorem dX5_cell_4 : decode cX5_cell 4 = .ok (.iload_n 1, 1) := by decide +kernel
theorem dX5_cell_5 : decode cX5_cell 5 = .ok (.aload_n 0, 1) := by decide +kernel
theorem dX5_cell_6 : decode cX5_cell 6 = .ok (.arraylength, 1) := by decide +kernel
theorem dX5_cell_7 : decode cX5_cell 7 = .ok (.if_icmp .ge 9, 3) := by decide +kernel
theorem dX5_cell_10 : decode cX5_cell 10 = .ok (.aload_n 0, 1) := by decide +kernel
theorem dX5_cell_11 : decode cX5_cell 11 = .ok (.iload_n 1, 1) := by decide +kernel
theorem dX5_cell_12 : decode cX5_cell 12 = .ok (.iaload, 1) := by decide +kernel
theorem dX5_cell_13 : decode cX5_cell 13 = .ok (.goto 4, 3) := by decide +kernel
theorem dX5_cell_16 : decode cX5_cell 16 = .ok (.iconst 0, 1) := by decide +kernel
theorem dX5_cell_17 : decode cX5_cell 17 = .ok (.ireturn, 1) := by decide +kernel
theorem dX5_mark_0 : decode cX5_mark 0 = .ok (.iload_n 1, 1) := by decide +kernel
theorem dX5_mark_1 : decode cX5_mark 1 = .ok (.ifCond .lt 13, 3) := by decide +kernel
theorem dX5_mark_4 : decode cX5_mark 4 = .ok (.iload_n 1, 1) := by decide +kernel
theorem dX5_mark_5 : decode cX5_mark 5 = .ok (.aload_n 0, 1) := by decide +kernel
theorem dX5_mark_6 : decode cX5_mark 6 = .ok (.arraylength, 1) := by decide +kernel
theorem dX5_mark_7 : decode cX5_mark 7 = .ok (.if_icmp .ge 7, 3) := by decide +kernel
theorem dX5_mark_10 : decode cX5_mark 10 = .ok (.aload_n 0, 1) := by decide +kernel
theorem dX5_mark_11 : decode cX5_mark 11 = .ok (.iload_n 1, 1) := by decide +kernel
theorem dX5_mark_12 : decode cX5_mark 12 = .ok (.iload_n 2, 1) := by decide +kernel
theorem dX5_mark_13 : decode cX5_mark 13 = .ok (.iastore, 1) := by decide +kernel
theorem dX5_mark_14 : decode cX5_mark 14 = .ok (.return_, 1) := by decide +kernel
theorem dX5_within_0 : decode cX5_within 0 = .ok (.iload_n 0, 1) := by decide +kernel
theorem dX5_within_1 : decode cX5_within 1 = .ok (.iload_n 1, 1) := by decide +kernel
theorem dX5_within_2 : decode cX5_within 2 = .ok (.if_icmp .lt 12, 3) := by decide +kernel
theorem dX5_within_5 : decode cX5_within 5 = .ok (.iload_n 0, 1) := by decide +kernel
theorem dX5_within_6 : decode cX5_within 6 = .ok (.iload_n 2, 1) := by decide +kernel
theorem dX5_within_7 : decode cX5_within 7 = .ok (.if_icmp .gt 7, 3) := by decide +kernel
theorem dX5_within_10 : decode cX5_within 10 = .ok (.iconst 1, 1) := by decide +kernel
theorem dX5_within_11 : decode cX5_within 11 = .ok (.goto 4, 3) := by decide +kernel
theorem dX5_within_14 : decode cX5_within 14 = .ok (.iconst 0, 1) := by decide +kernel
theorem dX5_within_15 : decode cX5_within 15 = .ok (.ireturn, 1) := by decide +kernel
set_option maxRecDepth 100000 in
theorem ggX5_isByte_X5_within : GoodIn wsX5_isByte wsX5_within := goodIn_g _ [4] [0] rfl (by decide +kernel)
set_option maxRecDepth 100000 in
theorem gX5_isByte_X5_within : GoodIn wsX5_isByte (va_wsS RX5 91 yX5_within wsX5_within) := goodIn_app (goodIn_of _ (by decide +kernel)) ggX5_isByte_X5_within
theorem dX5_isByte_0 : decode cX5_isByte 0 = .ok (.iload_n 0, 1) := by decide +kernel
theorem dX5_isByte_1 : decode cX5_isByte 1 = .ok (.iconst 0, 1) := by decide +kernel
theorem dX5_isByte_2 : decode cX5_isByte 2 = .ok (.sipush 255, 3) := by decide +kernel
theorem dX5_isByte_5 : decode cX5_isByte 5 = .ok (.invokestatic 91, 3) := by decide +kernel
theorem dX5_isByte_8 : decode cX5_isByte 8 = .ok (.ireturn, 1) := by decide +kernel
set_option maxRecDepth 100000 in
theorem ggX5_fits_X5_cell : GoodIn wsX5_fits wsX5_cell := goodIn_g _ [6] [0] rfl (by decide +kernel)
set_option maxRecDepth 100000 in
theorem gX5_fits_X5_cell : GoodIn wsX5_fits (va_wsS RX5 117 yX5_cell wsX5_cell) := goodIn_app (goodIn_of _ (by decide +kernel)) ggX5_fits_X5_cell
set_option maxRecDepth 100000 in
theorem ggX5_fits_X5_within : GoodIn wsX5_fits wsX5_within := goodIn_g _ [9] [0] rfl (by decide +kernel)
set_option maxRecDepth 100000 in
theorem gX5_fits_X5_within : GoodIn wsX5_fits (va_wsS RX5 91 yX5_within wsX5_within) := goodIn_app (goodIn_of _ (by decide +kernel)) ggX5_fits_X5_within
theorem dX5_fits_0 : decode cX5_fits 0 = .ok (.iload_n 1, 1) := by decide +kernel
theorem dX5_fits_1 : decode cX5_fits 1 = .ok (.getstatic 343, 3) := by decide +kernel
theorem dX5_fits_4 : decode cX5_fits 4 = .ok (.iload_n 0, 1) := by decide +kernel
theorem dX5_fits_5 : decode cX5_fits 5 = .ok (.invokestatic 117, 3) := by decide +kernel
theorem dX5_fits_8 : decode cX5_fits 8 = .ok (.getstatic 346, 3) := by decide +kernel
theorem dX5_fits_11 : decode cX5_fits 11 = .ok (.iload_n 0, 1) := by decide +kernel
theorem dX5_fits_12 : decode cX5_fits 12 = .ok (.invokestatic 117, 3) := by decide +kernel
theorem dX5_fits_15 : decode cX5_fits 15 = .ok (.invokestatic 91, 3) := by decide +kernel
theorem dX5_fits_18 : decode cX5_fits 18 = .ok (.ireturn, 1) := by decide +kernel
theorem dX5_share_0 : decode cX5_share 0 = .ok (.iload_n 1, 1) := by decide +kernel
theorem dX5_share_1 : decode cX5_share 1 = .ok (.ifCond .ne 7, 3) := by decide +kernel
theorem dX5_share_4 : decode cX5_share 4 = .ok (.iconst 0, 1) := by decide +kernel
theorem dX5_share_5 : decode cX5_share 5 = .ok (.goto 6, 3) := by decide +kernel
theorem dX5_share_8 : decode cX5_share 8 = .ok (.iload_n 0, 1) := by decide +kernel
theorem dX5_share_9 : decode cX5_share 9 = .ok (.iload_n 1, 1) := by decide +kernel
theorem dX5_share_10 : decode cX5_share 10 = .ok (.idiv, 1) := by decide +kernel
theorem dX5_share_11 : decode cX5_share 11 = .ok (.ireturn, 1) := by decide +kernel
theorem dX5_commonDivisor_0 : decode cX5_commonDivisor 0 = .ok (.iload_n 0, 1) := by decide +kernel
theorem dX5_commonDivisor_1 : decode cX5_commonDivisor 1 = .ok (.istore_n 2, 1) := by decide +kernel
theorem dX5_commonDivisor_2 : decode cX5_commonDivisor 2 = .ok (.iload_n 1, 1) := by decide +kernel
theorem dX5_commonDivisor_3 : decode cX5_commonDivisor 3 = .ok (.istore_n 3, 1) := by decide +kernel
theorem dX5_commonDivisor_4 : decode cX5_commonDivisor 4 = .ok (.iconst 0, 1) := by decide +kernel
theorem dX5_commonDivisor_5 : decode cX5_commonDivisor 5 = .ok (.istore 4, 2) := by decide +kernel
theorem dX5_commonDivisor_7 : decode cX5_commonDivisor 7 = .ok (.iload 4, 2) := by decide +kernel
theorem dX5_commonDivisor_9 : decode cX5_commonDivisor 9 = .ok (.bipush 100, 2) := by decide +kernel
theorem dX5_commonDivisor_11 : decode cX5_commonDivisor 11 = .ok (.if_icmp .ge 23, 3) := by decide +kernel
theorem dX5_commonDivisor_14 : decode cX5_commonDivisor 14 = .ok (.iload_n 3, 1) := by decide +kernel
theorem dX5_commonDivisor_15 : decode cX5_commonDivisor 15 = .ok (.ifCond .eq 19, 3) := by decide +kernel
theorem dX5_commonDivisor_18 : decode cX5_commonDivisor 18 = .ok (.iload_n 2, 1) := by decide +kernel
theorem dX5_commonDivisor_19 : decode cX5_commonDivisor 19 = .ok (.iload_n 3, 1) := by decide +kernel
theorem dX5_commonDivisor_20 : decode cX5_commonDivisor 20 = .ok (.irem, 1) := by decide +kernel
theorem dX5_commonDivisor_21 : decode cX5_commonDivisor 21 = .ok (.istore 5, 2) := by decide +kernel
theorem dX5_commonDivisor_23 : decode cX5_commonDivisor 23 = .ok (.iload_n 3, 1) := by decide +kernel
theorem dX5_commonDivisor_24 : decode cX5_commonDivisor 24 = .ok (.istore_n 2, 1) := by decide +kernel
theorem dX5_commonDivisor_25 : decode cX5_commonDivisor 25 = .ok (.iload 5, 2) := by decide +kernel
theorem dX5_commonDivisor_27 : decode cX5_commonDivisor 27 = .ok (.istore_n 3, 1) := by decide +kernel
theorem dX5_commonDivisor_28 : decode cX5_commonDivisor 28 = .ok (.iinc 4 1, 3) := by decide +kernel
theorem dX5_commonDivisor_31 : decode cX5_commonDivisor 31 = .ok (.goto (-24), 3) := by decide +kernel
theorem dX5_commonDivisor_34 : decode cX5_commonDivisor 34 = .ok (.iload_n 2, 1) := by decide +kernel
theorem dX5_commonDivisor_35 : decode cX5_commonDivisor 35 = .ok (.ireturn, 1) := by decide +kernel
set_option maxRecDepth 100000 in
theorem ggX5_isUnder_X5_cell : GoodIn wsX5_isUnder wsX5_cell := goodIn_g _ [5] [0] rfl (by decide +kernel)
set_option maxRecDepth 100000 in
theorem gX5_isUnder_X5_cell : GoodIn wsX5_isUnder (va_wsS RX5 117 yX5_cell wsX5_cell) := goodIn_app (goodIn_of _ (by decide +kernel)) ggX5_isUnder_X5_cell
theorem dX5_isUnder_0 : decode cX5_isUnder 0 = .ok (.iload_n 0, 1) := by decide +kernel
theorem dX5_isUnder_1 : decode cX5_isUnder 1 = .ok (.istore_n 2, 1) := by decide +kernel
theorem dX5_isUnder_2 : decode cX5_isUnder 2 = .ok (.iconst 0, 1) := by decide +kernel
theorem dX5_isUnder_3 : decode cX5_isUnder 3 = .ok (.istore_n 3, 1) := by decide +kernel
theorem dX5_isUnder_4 : decode cX5_isUnder 4 = .ok (.iload_n 3, 1) := by decide +kernel
theorem dX5_isUnder_5 : decode cX5_isUnder 5 = .ok (.getstatic 349, 3) := by decide +kernel
theorem dX5_isUnder_8 : decode cX5_isUnder 8 = .ok (.arraylength, 1) := by decide +kernel
theorem dX5_isUnder_9 : decode cX5_isUnder 9 = .ok (.if_icmp .ge 29, 3) := by decide +kernel
theorem dX5_isUnder_12 : decode cX5_isUnder 12 = .ok (.iload_n 2, 1) := by decide +kernel
theorem dX5_isUnder_13 : decode cX5_isUnder 13 = .ok (.iconst (-1), 1) := by decide +kernel
theorem dX5_isUnder_14 : decode cX5_isUnder 14 = .ok (.if_icmp .eq 24, 3) := by decide +kernel
theorem dX5_isUnder_17 : decode cX5_isUnder 17 = .ok (.iload_n 2, 1) := by decide +kernel
theorem dX5_isUnder_18 : decode cX5_isUnder 18 = .ok (.iload_n 1, 1) := by decide +kernel
theorem dX5_isUnder_19 : decode cX5_isUnder 19 = .ok (.if_icmp .ne 5, 3) := by decide +kernel
theorem dX5_isUnder_22 : decode cX5_isUnder 22 = .ok (.iconst 1, 1) := by decide +kernel
theorem dX5_isUnder_23 : decode cX5_isUnder 23 = .ok (.ireturn, 1) := by decide +kernel
theorem dX5_isUnder_24 : decode cX5_isUnder 24 = .ok (.getstatic 349, 3) := by decide +kernel
theorem dX5_isUnder_27 : decode cX5_isUnder 27 = .ok (.iload_n 2, 1) := by decide +kernel
theorem dX5_isUnder_28 : decode cX5_isUnder 28 = .ok (.invokestatic 117, 3) := by decide +kernel
theorem dX5_isUnder_31 : decode cX5_isUnder 31 = .ok (.istore_n 2, 1) := by decide +kernel
theorem dX5_isUnder_32 : decode cX5_isUnder 32 = .ok (.iinc 3 1, 3) := by decide +kernel
theorem dX5_isUnder_35 : decode cX5_isUnder 35 = .ok (.goto (-31), 3) := by decide +kernel
theorem dX5_isUnder_38 : decode cX5_isUnder 38 = .ok (.iconst 0, 1) := by decide +kernel
theorem dX5_isUnder_39 : decode cX5_isUnder 39 = .ok (.ireturn, 1) := by decide +kernel
set_option maxRecDepth 100000 in
theorem ggX5_along_X5_share : GoodIn wsX5_along wsX5_share := goodIn_g _ [4] [0] rfl (by decide +kernel)
set_option maxRecDepth 100000 in
theorem gX5_along_X5_share : GoodIn wsX5_along (va_wsS RX5 261 yX5_share wsX5_share) := goodIn_app (goodIn_of _ (by decide +kernel)) ggX5_along_X5_share
theorem dX5_along_0 : decode cX5_along 0 = .ok (.iload_n 0, 1) := by decide +kernel
theorem dX5_along_1 : decode cX5_along 1 = .ok (.lookupswitch 58 #[(2, 27), (4, 40)], 27) := by decide +kernel
theorem dX5_along_28 : decode cX5_along 28 = .ok (.iload_n 1, 1) := by decide +kernel
theorem dX5_along_29 : decode cX5_along 29 = .ok (.iload_n 2, 1) := by decide +kernel
theorem dX5_along_30 : decode cX5_along 30 = .ok (.iload_n 1, 1) := by decide +kernel
theorem dX5_along_31 : decode cX5_along 31 = .ok (.isub, 1) := by decide +kernel
theorem dX5_along_32 : decode cX5_along 32 = .ok (.iload_n 3, 1) := by decide +kernel
theorem dX5_along_33 : decode cX5_along 33 = .ok (.imul, 1) := by decide +kernel
theorem dX5_along_34 : decode cX5_along 34 = .ok (.iload 4, 2) := by decide +kernel
theorem dX5_along_36 : decode cX5_along 36 = .ok (.invokestatic 261, 3) := by decide +kernel
theorem dX5_along_39 : decode cX5_along 39 = .ok (.iadd, 1) := by decide +kernel
theorem dX5_along_40 : decode cX5_along 40 = .ok (.ireturn, 1) := by decide +kernel
theorem dX5_along_41 : decode cX5_along 41 = .ok (.iload_n 1, 1) := by decide +kernel
theorem dX5_along_42 : decode cX5_along 42 = .ok (.iload_n 2, 1) := by decide +kernel
theorem dX5_along_43 : decode cX5_along 43 = .ok (.iload_n 1, 1) := by decide +kernel
theorem dX5_along_44 : decode cX5_along 44 = .ok (.isub, 1) := by decide +kernel
theorem dX5_along_45 : decode cX5_along 45 = .ok (.iload_n 3, 1) := by decide +kernel
theorem dX5_along_46 : decode cX5_along 46 = .ok (.imul, 1) := by decide +kernel
theorem dX5_along_47 : decode cX5_along 47 = .ok (.iload_n 3, 1) := by decide +kernel
theorem dX5_along_48 : decode cX5_along 48 = .ok (.imul, 1) := by decide +kernel
theorem dX5_along_49 : decode cX5_along 49 = .ok (.iload 4, 2) := by decide +kernel
theorem dX5_along_51 : decode cX5_along 51 = .ok (.iload 4, 2) := by decide +kernel
theorem dX5_along_53 : decode cX5_along 53 = .ok (.imul, 1) := by decide +kernel
theorem dX5_along_54 : decode cX5_along 54 = .ok (.invokestatic 261, 3) := by decide +kernel
theorem dX5_along_57 : decode cX5_along 57 = .ok (.iadd, 1) := by decide +kernel
theorem dX5_along_58 : decode cX5_along 58 = .ok (.ireturn, 1) := by decide +kernel
theorem dX5_along_59 : decode cX5_along 59 = .ok (.iload_n 2, 1) := by decide +kernel
theorem dX5_along_60 : decode cX5_along 60 = .ok (.ireturn, 1) := by decide +kernel
set_option maxRecDepth 100000 in
theorem ggX5_made_X5_isUnder : GoodIn wsX5_made wsX5_isUnder := goodIn_g _ [3, 0, 0, 0, 0, 0] [1, 2, 3, 4, 0, 5] rfl (by decide +kernel)
set_option maxRecDepth 100000 in
theorem gX5_made_X5_isUnder : GoodIn wsX5_made (va_wsS RX5 109 yX5_isUnder wsX5_isUnder) := goodIn_app (goodIn_of _ (by decide +kernel)) ggX5_made_X5_isUnder
theorem dX5_made_0 : decode cX5_made 0 = .ok (.iload_n 1, 1) := by decide +kernel
theorem dX5_made_1 : decode cX5_made 1 = .ok (.iconst 1, 1) := by decide +kernel
theorem dX5_made_2 : decode cX5_made 2 = .ok (.if_icmp .ne 8, 3) := by decide +kernel
theorem dX5_made_5 : decode cX5_made 5 = .ok (.bipush 123, 2) := by decide +kernel
theorem dX5_made_7 : decode cX5_made 7 = .ok (.goto 5, 3) := by decide +kernel
theorem dX5_made_10 : decode cX5_made 10 = .ok (.bipush 13, 2) := by decide +kernel
theorem dX5_made_12 : decode cX5_made 12 = .ok (.istore_n 2, 1) := by decide +kernel
theorem dX5_made_13 : decode cX5_made 13 = .ok (.iconst 1, 1) := by decide +kernel
theorem dX5_made_14 : decode cX5_made 14 = .ok (.istore_n 3, 1) := by decide +kernel
theorem dX5_made_15 : decode cX5_made 15 = .ok (.iload_n 3, 1) := by decide +kernel
theorem dX5_made_16 : decode cX5_made 16 = .ok (.iconst 5, 1) := by decide +kernel
theorem dX5_made_17 : decode cX5_made 17 = .ok (.if_icmp .gt 26, 3) := by decide +kernel
theorem dX5_made_20 : decode cX5_made 20 = .ok (.iload_n 0, 1) := by decide +kernel
theorem dX5_made_21 : decode cX5_made 21 = .ok (.iload_n 3, 1) := by decide +kernel
theorem dX5_made_22 : decode cX5_made 22 = .ok (.invokestatic 109, 3) := by decide +kernel
theorem dX5_made_25 : decode cX5_made 25 = .ok (.ifCond .eq 12, 3) := by decide +kernel
theorem dX5_made_28 : decode cX5_made 28 = .ok (.iload_n 2, 1) := by decide +kernel
theorem dX5_made_29 : decode cX5_made 29 = .ok (.bipush 10, 2) := by decide +kernel
theorem dX5_made_31 : decode cX5_made 31 = .ok (.imul, 1) := by decide +kernel
theorem dX5_made_32 : decode cX5_made 32 = .ok (.iconst 3, 1) := by decide +kernel
theorem dX5_made_33 : decode cX5_made 33 = .ok (.iadd, 1) := by decide +kernel
theorem dX5_made_34 : decode cX5_made 34 = .ok (.iload_n 3, 1) := by decide +kernel
theorem dX5_made_35 : decode cX5_made 35 = .ok (.iadd, 1) := by decide +kernel
theorem dX5_made_36 : decode cX5_made 36 = .ok (.istore_n 2, 1) := by decide +kernel
theorem dX5_made_37 : decode cX5_made 37 = .ok (.iinc 3 1, 3) := by decide +kernel
theorem dX5_made_40 : decode cX5_made 40 = .ok (.goto (-25), 3) := by decide +kernel
theorem dX5_made_43 : decode cX5_made 43 = .ok (.iload_n 2, 1) := by decide +kernel
theorem dX5_made_44 : decode cX5_made 44 = .ok (.ireturn, 1) := by decide +kernel
