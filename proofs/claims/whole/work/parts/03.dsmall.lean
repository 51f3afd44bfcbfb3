theorem dX0_init_0 : decode cX0_init 0 = .ok (.aload_n 0, 1) := by decide +kernel
theorem dX0_init_1 : decode cX0_init 1 = .ok (.invokespecial 3, 3) := by decide +kernel
theorem dX0_init_4 : decode cX0_init 4 = .ok (.aload_n 0, 1) := by decide +kernel
theorem dX0_init_5 : decode cX0_init 5 = .ok (.aload_n 1, 1) := by decide +kernel
theorem dX0_init_6 : decode cX0_init 6 = .ok (.putfield 9, 3) := by decide +kernel
theorem dX0_init_9 : decode cX0_init 9 = .ok (.aload_n 0, 1) := by decide +kernel
theorem dX0_init_10 : decode cX0_init 10 = .ok (.bipush 10, 2) := by decide +kernel
theorem dX0_init_12 : decode cX0_init 12 = .ok (.newarray .int, 2) := by decide +kernel
theorem dX0_init_14 : decode cX0_init 14 = .ok (.putfield 15, 3) := by decide +kernel
theorem dX0_init_17 : decode cX0_init 17 = .ok (.aload_n 0, 1) := by decide +kernel
theorem dX0_init_18 : decode cX0_init 18 = .ok (.sipush 201, 3) := by decide +kernel
theorem dX0_init_21 : decode cX0_init 21 = .ok (.newarray .int, 2) := by decide +kernel
theorem dX0_init_23 : decode cX0_init 23 = .ok (.putfield 19, 3) := by decide +kernel
theorem dX0_init_26 : decode cX0_init 26 = .ok (.aload_n 0, 1) := by decide +kernel
theorem dX0_init_27 : decode cX0_init 27 = .ok (.sipush 201, 3) := by decide +kernel
theorem dX0_init_30 : decode cX0_init 30 = .ok (.newarray .int, 2) := by decide +kernel
theorem dX0_init_32 : decode cX0_init 32 = .ok (.putfield 22, 3) := by decide +kernel
theorem dX0_init_35 : decode cX0_init 35 = .ok (.aload_n 0, 1) := by decide +kernel
theorem dX0_init_36 : decode cX0_init 36 = .ok (.sipush 201, 3) := by decide +kernel
theorem dX0_init_39 : decode cX0_init 39 = .ok (.newarray .int, 2) := by decide +kernel
theorem dX0_init_41 : decode cX0_init 41 = .ok (.putfield 25, 3) := by decide +kernel
theorem dX0_init_44 : decode cX0_init 44 = .ok (.aload_n 0, 1) := by decide +kernel
theorem dX0_init_45 : decode cX0_init 45 = .ok (.sipush 201, 3) := by decide +kernel
theorem dX0_init_48 : decode cX0_init 48 = .ok (.newarray .int, 2) := by decide +kernel
theorem dX0_init_50 : decode cX0_init 50 = .ok (.putfield 28, 3) := by decide +kernel
theorem dX0_init_53 : decode cX0_init 53 = .ok (.aload_n 0, 1) := by decide +kernel
theorem dX0_init_54 : decode cX0_init 54 = .ok (.sipush 201, 3) := by decide +kernel
theorem dX0_init_57 : decode cX0_init 57 = .ok (.newarray .int, 2) := by decide +kernel
theorem dX0_init_59 : decode cX0_init 59 = .ok (.putfield 31, 3) := by decide +kernel
theorem dX0_init_62 : decode cX0_init 62 = .ok (.aload_n 0, 1) := by decide +kernel
theorem dX0_init_63 : decode cX0_init 63 = .ok (.iconst 0, 1) := by decide +kernel
theorem dX0_init_64 : decode cX0_init 64 = .ok (.putfield 34, 3) := by decide +kernel
theorem dX0_init_67 : decode cX0_init 67 = .ok (.return_, 1) := by decide +kernel
set_option maxRecDepth 100000 in
theorem ggX0_lay_X5_mark : GoodIn wsX0_lay wsX5_mark := goodIn_g _ [10] [0] rfl (by decide +kernel)
set_option maxRecDepth 100000 in
theorem gX0_lay_X5_mark_n43 : GoodIn wsX0_lay (wsX5_mark) := ggX0_lay_X5_mark
set_option maxRecDepth 100000 in
theorem ggX0_lay_X0_fill : GoodIn wsX0_lay wsX0_fill := goodIn_g _ [1, 1, 2, 1, 0, 0, 3, 0, 0, 0, 0, 0, 0, 0, 0, 0, 0, 0, 0, 0, 0, 0, 0, 0, 0, 0, 0, 0, 0, 0, 0, 0, 0, 0, 0, 0, 0, 0, 0, 0, 0, 0, 0, 0, 0, 0] [7, 0, 8, 2, 9, 10, 11, 12, 13, 14, 15, 16, 17, 18, 19, 20, 21, 4, 22, 23, 24, 25, 6, 26, 27, 28, 29, 30, 1, 3, 5, 31, 32, 33, 34, 35, 36, 37, 38, 39, 40, 41, 42, 43, 44, 45] rfl (by decide +kernel)
set_option maxRecDepth 100000 in
theorem gX0_lay_X0_fill : GoodIn wsX0_lay (wsV RX0 47 RX0 yX0_fill wsX0_fill) := goodIn_app (goodIn_of _ (by decide +kernel)) ggX0_lay_X0_fill
set_option maxRecDepth 100000 in
theorem ggX0_lay_X2_read : GoodIn wsX0_lay wsX2_read := goodIn_g _ [9, 13, 3, 0, 0, 0, 21, 0] [2, 1, 3, 4, 0, 5, 6, 7] rfl (by decide +kernel)
set_option maxRecDepth 100000 in
theorem gX0_lay_X2_read : GoodIn wsX0_lay (wsV RX0 51 RX2 yX2_read wsX2_read) := goodIn_app (goodIn_of _ (by decide +kernel)) ggX0_lay_X2_read
set_option maxRecDepth 100000 in
theorem ggX0_lay_X5_cell : GoodIn wsX0_lay wsX5_cell := goodIn_g _ [30] [0] rfl (by decide +kernel)
set_option maxRecDepth 100000 in
theorem gX0_lay_X5_cell_n55 : GoodIn wsX0_lay (wsX5_cell) := ggX0_lay_X5_cell
theorem dX0_lay_0 : decode cX0_lay 0 = .ok (.iconst 0, 1) := by decide +kernel
theorem dX0_lay_1 : decode cX0_lay 1 = .ok (.istore_n 1, 1) := by decide +kernel
theorem dX0_lay_2 : decode cX0_lay 2 = .ok (.iconst 0, 1) := by decide +kernel
theorem dX0_lay_3 : decode cX0_lay 3 = .ok (.istore_n 2, 1) := by decide +kernel
theorem dX0_lay_4 : decode cX0_lay 4 = .ok (.iload_n 2, 1) := by decide +kernel
theorem dX0_lay_5 : decode cX0_lay 5 = .ok (.aload_n 0, 1) := by decide +kernel
theorem dX0_lay_6 : decode cX0_lay 6 = .ok (.getfield 9, 3) := by decide +kernel
theorem dX0_lay_9 : decode cX0_lay 9 = .ok (.getfield 38, 3) := by decide +kernel
theorem dX0_lay_12 : decode cX0_lay 12 = .ok (.if_icmp .ge 37, 3) := by decide +kernel
theorem dX0_lay_15 : decode cX0_lay 15 = .ok (.aload_n 0, 1) := by decide +kernel
theorem dX0_lay_16 : decode cX0_lay 16 = .ok (.getfield 15, 3) := by decide +kernel
theorem dX0_lay_19 : decode cX0_lay 19 = .ok (.iload_n 2, 1) := by decide +kernel
theorem dX0_lay_20 : decode cX0_lay 20 = .ok (.iload_n 1, 1) := by decide +kernel
theorem dX0_lay_21 : decode cX0_lay 21 = .ok (.iconst 1, 1) := by decide +kernel
theorem dX0_lay_22 : decode cX0_lay 22 = .ok (.iadd, 1) := by decide +kernel
theorem dX0_lay_23 : decode cX0_lay 23 = .ok (.invokestatic 43, 3) := by decide +kernel
theorem dX0_lay_26 : decode cX0_lay 26 = .ok (.aload_n 0, 1) := by decide +kernel
theorem dX0_lay_27 : decode cX0_lay 27 = .ok (.iload_n 2, 1) := by decide +kernel
theorem dX0_lay_28 : decode cX0_lay 28 = .ok (.invokevirtual 47, 3) := by decide +kernel
theorem dX0_lay_31 : decode cX0_lay 31 = .ok (.iload_n 1, 1) := by decide +kernel
theorem dX0_lay_32 : decode cX0_lay 32 = .ok (.aload_n 0, 1) := by decide +kernel
theorem dX0_lay_33 : decode cX0_lay 33 = .ok (.getfield 9, 3) := by decide +kernel
theorem dX0_lay_36 : decode cX0_lay 36 = .ok (.iload_n 2, 1) := by decide +kernel
theorem dX0_lay_37 : decode cX0_lay 37 = .ok (.iconst 1, 1) := by decide +kernel
theorem dX0_lay_38 : decode cX0_lay 38 = .ok (.invokevirtual 51, 3) := by decide +kernel
theorem dX0_lay_41 : decode cX0_lay 41 = .ok (.iadd, 1) := by decide +kernel
theorem dX0_lay_42 : decode cX0_lay 42 = .ok (.istore_n 1, 1) := by decide +kernel
theorem dX0_lay_43 : decode cX0_lay 43 = .ok (.iinc 2 1, 3) := by decide +kernel
theorem dX0_lay_46 : decode cX0_lay 46 = .ok (.goto (-42), 3) := by decide +kernel
theorem dX0_lay_49 : decode cX0_lay 49 = .ok (.aload_n 0, 1) := by decide +kernel
theorem dX0_lay_50 : decode cX0_lay 50 = .ok (.iload_n 1, 1) := by decide +kernel
theorem dX0_lay_51 : decode cX0_lay 51 = .ok (.putfield 34, 3) := by decide +kernel
theorem dX0_lay_54 : decode cX0_lay 54 = .ok (.iconst 1, 1) := by decide +kernel
theorem dX0_lay_55 : decode cX0_lay 55 = .ok (.istore_n 2, 1) := by decide +kernel
theorem dX0_lay_56 : decode cX0_lay 56 = .ok (.iload_n 2, 1) := by decide +kernel
theorem dX0_lay_57 : decode cX0_lay 57 = .ok (.aload_n 0, 1) := by decide +kernel
theorem dX0_lay_58 : decode cX0_lay 58 = .ok (.getfield 34, 3) := by decide +kernel
theorem dX0_lay_61 : decode cX0_lay 61 = .ok (.if_icmp .gt 63, 3) := by decide +kernel
theorem dX0_lay_64 : decode cX0_lay 64 = .ok (.aload_n 0, 1) := by decide +kernel
theorem dX0_lay_65 : decode cX0_lay 65 = .ok (.getfield 28, 3) := by decide +kernel
theorem dX0_lay_68 : decode cX0_lay 68 = .ok (.iload_n 2, 1) := by decide +kernel
theorem dX0_lay_69 : decode cX0_lay 69 = .ok (.aload_n 0, 1) := by decide +kernel
theorem dX0_lay_70 : decode cX0_lay 70 = .ok (.getfield 28, 3) := by decide +kernel
theorem dX0_lay_73 : decode cX0_lay 73 = .ok (.iload_n 2, 1) := by decide +kernel
theorem dX0_lay_74 : decode cX0_lay 74 = .ok (.iconst 1, 1) := by decide +kernel
theorem dX0_lay_75 : decode cX0_lay 75 = .ok (.isub, 1) := by decide +kernel
theorem dX0_lay_76 : decode cX0_lay 76 = .ok (.invokestatic 55, 3) := by decide +kernel
theorem dX0_lay_79 : decode cX0_lay 79 = .ok (.aload_n 0, 1) := by decide +kernel
theorem dX0_lay_80 : decode cX0_lay 80 = .ok (.getfield 22, 3) := by decide +kernel
theorem dX0_lay_83 : decode cX0_lay 83 = .ok (.iload_n 2, 1) := by decide +kernel
theorem dX0_lay_84 : decode cX0_lay 84 = .ok (.invokestatic 55, 3) := by decide +kernel
theorem dX0_lay_87 : decode cX0_lay 87 = .ok (.iadd, 1) := by decide +kernel
theorem dX0_lay_88 : decode cX0_lay 88 = .ok (.invokestatic 43, 3) := by decide +kernel
theorem dX0_lay_91 : decode cX0_lay 91 = .ok (.aload_n 0, 1) := by decide +kernel
theorem dX0_lay_92 : decode cX0_lay 92 = .ok (.getfield 31, 3) := by decide +kernel
theorem dX0_lay_95 : decode cX0_lay 95 = .ok (.iload_n 2, 1) := by decide +kernel
theorem dX0_lay_96 : decode cX0_lay 96 = .ok (.aload_n 0, 1) := by decide +kernel
theorem dX0_lay_97 : decode cX0_lay 97 = .ok (.getfield 31, 3) := by decide +kernel
theorem dX0_lay_100 : decode cX0_lay 100 = .ok (.iload_n 2, 1) := by decide +kernel
theorem dX0_lay_101 : decode cX0_lay 101 = .ok (.iconst 1, 1) := by decide +kernel
theorem dX0_lay_102 : decode cX0_lay 102 = .ok (.isub, 1) := by decide +kernel
theorem dX0_lay_103 : decode cX0_lay 103 = .ok (.invokestatic 55, 3) := by decide +kernel
theorem dX0_lay_106 : decode cX0_lay 106 = .ok (.aload_n 0, 1) := by decide +kernel
theorem dX0_lay_107 : decode cX0_lay 107 = .ok (.getfield 28, 3) := by decide +kernel
theorem dX0_lay_110 : decode cX0_lay 110 = .ok (.iload_n 2, 1) := by decide +kernel
theorem dX0_lay_111 : decode cX0_lay 111 = .ok (.invokestatic 55, 3) := by decide +kernel
theorem dX0_lay_114 : decode cX0_lay 114 = .ok (.iadd, 1) := by decide +kernel
theorem dX0_lay_115 : decode cX0_lay 115 = .ok (.invokestatic 43, 3) := by decide +kernel
theorem dX0_lay_118 : decode cX0_lay 118 = .ok (.iinc 2 1, 3) := by decide +kernel
theorem dX0_lay_121 : decode cX0_lay 121 = .ok (.goto (-65), 3) := by decide +kernel
theorem dX0_lay_124 : decode cX0_lay 124 = .ok (.return_, 1) := by decide +kernel
set_option maxRecDepth 100000 in
theorem ggX0_fill_X2_has : GoodIn wsX0_fill wsX2_has := goodIn_g _ [9, 0, 33, 0] [0, 1, 2, 3] rfl (by decide +kernel)
set_option maxRecDepth 100000 in
theorem gX0_fill_X2_has : GoodIn wsX0_fill (wsV RX0 59 RX2 yX2_has wsX2_has) := goodIn_app (goodIn_of _ (by decide +kernel)) ggX0_fill_X2_has
set_option maxRecDepth 100000 in
theorem ggX0_fill_X2_read : GoodIn wsX0_fill wsX2_read := goodIn_g _ [10, 3, 0, 0, 0, 0, 25, 0] [1, 0, 2, 3, 4, 5, 6, 7] rfl (by decide +kernel)
set_option maxRecDepth 100000 in
theorem gX0_fill_X2_read : GoodIn wsX0_fill (wsV RX0 51 RX2 yX2_read wsX2_read) := goodIn_app (goodIn_of _ (by decide +kernel)) ggX0_fill_X2_read
set_option maxRecDepth 100000 in
theorem ggX0_fill_X0_endVersine : GoodIn wsX0_fill wsX0_endVersine := goodIn_g _ [1, 6, 1, 0, 0, 0, 0, 0, 0, 0, 0, 4, 12, 0, 0, 0, 0, 0, 0, 0, 0, 0] [11, 0, 3, 4, 5, 1, 6, 2, 7, 8, 9, 10, 12, 13, 14, 15, 16, 17, 18, 19, 20, 21] rfl (by decide +kernel)
set_option maxRecDepth 100000 in
theorem gX0_fill_X0_endVersine : GoodIn wsX0_fill (wsV RX0 63 RX0 yX0_endVersine wsX0_endVersine) := goodIn_app (goodIn_of _ (by decide +kernel)) ggX0_fill_X0_endVersine
set_option maxRecDepth 100000 in
theorem ggX0_fill_X0_firstOf : GoodIn wsX0_fill wsX0_firstOf := goodIn_g _ [16, 0, 0, 8, 0, 7, 0, 0, 0, 0, 0, 0, 0] [3, 4, 0, 1, 2, 5, 6, 7, 8, 9, 10, 11, 12] rfl (by decide +kernel)
set_option maxRecDepth 100000 in
theorem gX0_fill_X0_firstOf : GoodIn wsX0_fill (wsV RX0 67 RX0 yX0_firstOf wsX0_firstOf) := goodIn_app (goodIn_of _ (by decide +kernel)) ggX0_fill_X0_firstOf
set_option maxRecDepth 100000 in
theorem ggX0_fill_X5_mark : GoodIn wsX0_fill wsX5_mark := goodIn_g _ [30] [0] rfl (by decide +kernel)
set_option maxRecDepth 100000 in
theorem gX0_fill_X5_mark_n43 : GoodIn wsX0_fill (wsX5_mark) := ggX0_fill_X5_mark
set_option maxRecDepth 100000 in
theorem ggX0_fill_X5_along : GoodIn wsX0_fill wsX5_along := goodIn_g _ [17, 14, 0, 0, 0] [1, 2, 3, 0, 4] rfl (by decide +kernel)
set_option maxRecDepth 100000 in
theorem gX0_fill_X5_along_n70 : GoodIn wsX0_fill (wsX5_along) := ggX0_fill_X5_along
theorem dX0_fill_0 : decode cX0_fill 0 = .ok (.aload_n 0, 1) := by decide +kernel
theorem dX0_fill_1 : decode cX0_fill 1 = .ok (.getfield 9, 3) := by decide +kernel
theorem dX0_fill_4 : decode cX0_fill 4 = .ok (.iload_n 1, 1) := by decide +kernel
theorem dX0_fill_5 : decode cX0_fill 5 = .ok (.invokevirtual 59, 3) := by decide +kernel
theorem dX0_fill_8 : decode cX0_fill 8 = .ok (.ifCond .ne 4, 3) := by decide +kernel
theorem dX0_fill_11 : decode cX0_fill 11 = .ok (.return_, 1) := by decide +kernel
theorem dX0_fill_12 : decode cX0_fill 12 = .ok (.aload_n 0, 1) := by decide +kernel
theorem dX0_fill_13 : decode cX0_fill 13 = .ok (.getfield 9, 3) := by decide +kernel
theorem dX0_fill_16 : decode cX0_fill 16 = .ok (.iload_n 1, 1) := by decide +kernel
theorem dX0_fill_17 : decode cX0_fill 17 = .ok (.iconst 0, 1) := by decide +kernel
theorem dX0_fill_18 : decode cX0_fill 18 = .ok (.invokevirtual 51, 3) := by decide +kernel
theorem dX0_fill_21 : decode cX0_fill 21 = .ok (.istore_n 2, 1) := by decide +kernel
theorem dX0_fill_22 : decode cX0_fill 22 = .ok (.iload_n 2, 1) := by decide +kernel
theorem dX0_fill_23 : decode cX0_fill 23 = .ok (.iconst 4, 1) := by decide +kernel
theorem dX0_fill_24 : decode cX0_fill 24 = .ok (.if_icmp .ne 7, 3) := by decide +kernel
theorem dX0_fill_27 : decode cX0_fill 27 = .ok (.iconst 2, 1) := by decide +kernel
theorem dX0_fill_28 : decode cX0_fill 28 = .ok (.goto 4, 3) := by decide +kernel
theorem dX0_fill_31 : decode cX0_fill 31 = .ok (.iload_n 2, 1) := by decide +kernel
theorem dX0_fill_32 : decode cX0_fill 32 = .ok (.istore_n 3, 1) := by decide +kernel
theorem dX0_fill_33 : decode cX0_fill 33 = .ok (.aload_n 0, 1) := by decide +kernel
theorem dX0_fill_34 : decode cX0_fill 34 = .ok (.getfield 9, 3) := by decide +kernel
theorem dX0_fill_37 : decode cX0_fill 37 = .ok (.iload_n 1, 1) := by decide +kernel
theorem dX0_fill_38 : decode cX0_fill 38 = .ok (.iconst 1, 1) := by decide +kernel
theorem dX0_fill_39 : decode cX0_fill 39 = .ok (.invokevirtual 51, 3) := by decide +kernel
theorem dX0_fill_42 : decode cX0_fill 42 = .ok (.istore 4, 2) := by decide +kernel
theorem dX0_fill_44 : decode cX0_fill 44 = .ok (.aload_n 0, 1) := by decide +kernel
theorem dX0_fill_45 : decode cX0_fill 45 = .ok (.iload_n 1, 1) := by decide +kernel
theorem dX0_fill_46 : decode cX0_fill 46 = .ok (.iconst 1, 1) := by decide +kernel
theorem dX0_fill_47 : decode cX0_fill 47 = .ok (.isub, 1) := by decide +kernel
theorem dX0_fill_48 : decode cX0_fill 48 = .ok (.invokevirtual 63, 3) := by decide +kernel
theorem dX0_fill_51 : decode cX0_fill 51 = .ok (.istore 5, 2) := by decide +kernel
theorem dX0_fill_53 : decode cX0_fill 53 = .ok (.aload_n 0, 1) := by decide +kernel
theorem dX0_fill_54 : decode cX0_fill 54 = .ok (.iload_n 1, 1) := by decide +kernel
theorem dX0_fill_55 : decode cX0_fill 55 = .ok (.invokevirtual 63, 3) := by decide +kernel
theorem dX0_fill_58 : decode cX0_fill 58 = .ok (.istore 6, 2) := by decide +kernel
theorem dX0_fill_60 : decode cX0_fill 60 = .ok (.aload_n 0, 1) := by decide +kernel
theorem dX0_fill_61 : decode cX0_fill 61 = .ok (.getfield 9, 3) := by decide +kernel
theorem dX0_fill_64 : decode cX0_fill 64 = .ok (.iload_n 1, 1) := by decide +kernel
theorem dX0_fill_65 : decode cX0_fill 65 = .ok (.iconst 1, 1) := by decide +kernel
theorem dX0_fill_66 : decode cX0_fill 66 = .ok (.isub, 1) := by decide +kernel
theorem dX0_fill_67 : decode cX0_fill 67 = .ok (.iconst 3, 1) := by decide +kernel
theorem dX0_fill_68 : decode cX0_fill 68 = .ok (.invokevirtual 51, 3) := by decide +kernel
theorem dX0_fill_71 : decode cX0_fill 71 = .ok (.istore 7, 2) := by decide +kernel
theorem dX0_fill_73 : decode cX0_fill 73 = .ok (.aload_n 0, 1) := by decide +kernel
theorem dX0_fill_74 : decode cX0_fill 74 = .ok (.getfield 9, 3) := by decide +kernel
theorem dX0_fill_77 : decode cX0_fill 77 = .ok (.iload_n 1, 1) := by decide +kernel
theorem dX0_fill_78 : decode cX0_fill 78 = .ok (.iconst 3, 1) := by decide +kernel
theorem dX0_fill_79 : decode cX0_fill 79 = .ok (.invokevirtual 51, 3) := by decide +kernel
theorem dX0_fill_82 : decode cX0_fill 82 = .ok (.istore 8, 2) := by decide +kernel
theorem dX0_fill_84 : decode cX0_fill 84 = .ok (.iconst 1, 1) := by decide +kernel
theorem dX0_fill_85 : decode cX0_fill 85 = .ok (.istore 9, 2) := by decide +kernel
theorem dX0_fill_87 : decode cX0_fill 87 = .ok (.iload 9, 2) := by decide +kernel
theorem dX0_fill_89 : decode cX0_fill 89 = .ok (.iload 4, 2) := by decide +kernel
theorem dX0_fill_91 : decode cX0_fill 91 = .ok (.if_icmp .gt 73, 3) := by decide +kernel
theorem dX0_fill_94 : decode cX0_fill 94 = .ok (.aload_n 0, 1) := by decide +kernel
theorem dX0_fill_95 : decode cX0_fill 95 = .ok (.iload_n 1, 1) := by decide +kernel
theorem dX0_fill_96 : decode cX0_fill 96 = .ok (.invokevirtual 67, 3) := by decide +kernel
theorem dX0_fill_99 : decode cX0_fill 99 = .ok (.iload 9, 2) := by decide +kernel
theorem dX0_fill_101 : decode cX0_fill 101 = .ok (.iadd, 1) := by decide +kernel
theorem dX0_fill_102 : decode cX0_fill 102 = .ok (.iconst 1, 1) := by decide +kernel
theorem dX0_fill_103 : decode cX0_fill 103 = .ok (.isub, 1) := by decide +kernel
theorem dX0_fill_104 : decode cX0_fill 104 = .ok (.istore 10, 2) := by decide +kernel
theorem dX0_fill_106 : decode cX0_fill 106 = .ok (.aload_n 0, 1) := by decide +kernel
theorem dX0_fill_107 : decode cX0_fill 107 = .ok (.getfield 19, 3) := by decide +kernel
theorem dX0_fill_110 : decode cX0_fill 110 = .ok (.iload 10, 2) := by decide +kernel
theorem dX0_fill_112 : decode cX0_fill 112 = .ok (.iload_n 1, 1) := by decide +kernel
theorem dX0_fill_113 : decode cX0_fill 113 = .ok (.invokestatic 43, 3) := by decide +kernel
theorem dX0_fill_116 : decode cX0_fill 116 = .ok (.aload_n 0, 1) := by decide +kernel
theorem dX0_fill_117 : decode cX0_fill 117 = .ok (.getfield 22, 3) := by decide +kernel
theorem dX0_fill_120 : decode cX0_fill 120 = .ok (.iload 10, 2) := by decide +kernel
theorem dX0_fill_122 : decode cX0_fill 122 = .ok (.iload_n 2, 1) := by decide +kernel
theorem dX0_fill_123 : decode cX0_fill 123 = .ok (.iload 5, 2) := by decide +kernel
theorem dX0_fill_125 : decode cX0_fill 125 = .ok (.iload 6, 2) := by decide +kernel
theorem dX0_fill_127 : decode cX0_fill 127 = .ok (.iload 9, 2) := by decide +kernel
theorem dX0_fill_129 : decode cX0_fill 129 = .ok (.iload 4, 2) := by decide +kernel
theorem dX0_fill_131 : decode cX0_fill 131 = .ok (.invokestatic 70, 3) := by decide +kernel
theorem dX0_fill_134 : decode cX0_fill 134 = .ok (.invokestatic 43, 3) := by decide +kernel
theorem dX0_fill_137 : decode cX0_fill 137 = .ok (.aload_n 0, 1) := by decide +kernel
theorem dX0_fill_138 : decode cX0_fill 138 = .ok (.getfield 25, 3) := by decide +kernel
theorem dX0_fill_141 : decode cX0_fill 141 = .ok (.iload 10, 2) := by decide +kernel
theorem dX0_fill_143 : decode cX0_fill 143 = .ok (.iload_n 3, 1) := by decide +kernel
theorem dX0_fill_144 : decode cX0_fill 144 = .ok (.iload 7, 2) := by decide +kernel
theorem dX0_fill_146 : decode cX0_fill 146 = .ok (.iload 8, 2) := by decide +kernel
theorem dX0_fill_148 : decode cX0_fill 148 = .ok (.iload 9, 2) := by decide +kernel
theorem dX0_fill_150 : decode cX0_fill 150 = .ok (.iload 4, 2) := by decide +kernel
theorem dX0_fill_152 : decode cX0_fill 152 = .ok (.invokestatic 70, 3) := by decide +kernel
theorem dX0_fill_155 : decode cX0_fill 155 = .ok (.invokestatic 43, 3) := by decide +kernel
theorem dX0_fill_158 : decode cX0_fill 158 = .ok (.iinc 9 1, 3) := by decide +kernel
theorem dX0_fill_161 : decode cX0_fill 161 = .ok (.goto (-74), 3) := by decide +kernel
theorem dX0_fill_164 : decode cX0_fill 164 = .ok (.return_, 1) := by decide +kernel
set_option maxRecDepth 100000 in
theorem ggX0_attempt_X2_write : GoodIn wsX0_attempt wsX2_write := goodIn_g _ [5, 0, 0, 0, 0, 0, 0, 0, 0, 0, 0, 37, 0] [1, 2, 3, 4, 5, 0, 6, 7, 8, 9, 10, 11, 12] rfl (by decide +kernel)
set_option maxRecDepth 100000 in
theorem gX0_attempt_X2_write : GoodIn wsX0_attempt (wsV RX0 74 RX2 yX2_write wsX2_write) := goodIn_app (goodIn_of _ (by decide +kernel)) ggX0_attempt_X2_write
set_option maxRecDepth 100000 in
theorem ggX0_attempt_X0_fill : GoodIn wsX0_attempt wsX0_fill := goodIn_g _ [1, 3, 1, 1, 0, 0, 0, 0, 0, 0, 3, 0, 0, 0, 0, 0, 0, 0, 0, 0, 0, 0, 0, 0, 0, 0, 0, 0, 0, 0, 0, 0, 0, 0, 0, 0, 0, 0, 0, 0, 0, 0, 0, 0, 0, 0] [11, 0, 12, 13, 14, 15, 3, 4, 1, 5, 6, 16, 17, 18, 19, 2, 20, 8, 21, 22, 23, 24, 10, 25, 26, 27, 28, 29, 30, 7, 9, 31, 32, 33, 34, 35, 36, 37, 38, 39, 40, 41, 42, 43, 44, 45] rfl (by decide +kernel)
set_option maxRecDepth 100000 in
theorem gX0_attempt_X0_fill : GoodIn wsX0_attempt (wsV RX0 47 RX0 yX0_fill wsX0_fill) := goodIn_app (goodIn_of _ (by decide +kernel)) ggX0_attempt_X0_fill
theorem dX0_attempt_0 : decode cX0_attempt 0 = .ok (.aload_n 0, 1) := by decide +kernel
theorem dX0_attempt_1 : decode cX0_attempt 1 = .ok (.getfield 9, 3) := by decide +kernel
theorem dX0_attempt_4 : decode cX0_attempt 4 = .ok (.iload_n 1, 1) := by decide +kernel
theorem dX0_attempt_5 : decode cX0_attempt 5 = .ok (.iload_n 2, 1) := by decide +kernel
theorem dX0_attempt_6 : decode cX0_attempt 6 = .ok (.iload_n 3, 1) := by decide +kernel
theorem dX0_attempt_7 : decode cX0_attempt 7 = .ok (.invokevirtual 74, 3) := by decide +kernel
theorem dX0_attempt_10 : decode cX0_attempt 10 = .ok (.aload_n 0, 1) := by decide +kernel
theorem dX0_attempt_11 : decode cX0_attempt 11 = .ok (.iload_n 1, 1) := by decide +kernel
theorem dX0_attempt_12 : decode cX0_attempt 12 = .ok (.invokevirtual 47, 3) := by decide +kernel
theorem dX0_attempt_15 : decode cX0_attempt 15 = .ok (.aload_n 0, 1) := by decide +kernel
theorem dX0_attempt_16 : decode cX0_attempt 16 = .ok (.iload_n 1, 1) := by decide +kernel
theorem dX0_attempt_17 : decode cX0_attempt 17 = .ok (.iconst 1, 1) := by decide +kernel
theorem dX0_attempt_18 : decode cX0_attempt 18 = .ok (.iadd, 1) := by decide +kernel
theorem dX0_attempt_19 : decode cX0_attempt 19 = .ok (.invokevirtual 47, 3) := by decide +kernel
theorem dX0_attempt_22 : decode cX0_attempt 22 = .ok (.return_, 1) := by decide +kernel
set_option maxRecDepth 100000 in
theorem ggX0_firstOf_X5_cell : GoodIn wsX0_firstOf wsX5_cell := goodIn_g _ [4] [0] rfl (by decide +kernel)
set_option maxRecDepth 100000 in
theorem gX0_firstOf_X5_cell_n55 : GoodIn wsX0_firstOf (wsX5_cell) := ggX0_firstOf_X5_cell
theorem dX0_firstOf_0 : decode cX0_firstOf 0 = .ok (.aload_n 0, 1) := by decide +kernel
theorem dX0_firstOf_1 : decode cX0_firstOf 1 = .ok (.getfield 15, 3) := by decide +kernel
theorem dX0_firstOf_4 : decode cX0_firstOf 4 = .ok (.iload_n 1, 1) := by decide +kernel
theorem dX0_firstOf_5 : decode cX0_firstOf 5 = .ok (.invokestatic 55, 3) := by decide +kernel
theorem dX0_firstOf_8 : decode cX0_firstOf 8 = .ok (.ireturn, 1) := by decide +kernel
set_option maxRecDepth 100000 in
theorem ggX0_lastOf_X0_firstOf : GoodIn wsX0_lastOf wsX0_firstOf := goodIn_g _ [6, 0, 0, 0, 0, 7, 0, 0, 0, 0, 0, 0, 0] [0, 1, 2, 3, 4, 5, 6, 7, 8, 9, 10, 11, 12] rfl (by decide +kernel)
set_option maxRecDepth 100000 in
theorem gX0_lastOf_X0_firstOf : GoodIn wsX0_lastOf (wsV RX0 67 RX0 yX0_firstOf wsX0_firstOf) := goodIn_app (goodIn_of _ (by decide +kernel)) ggX0_lastOf_X0_firstOf
set_option maxRecDepth 100000 in
theorem ggX0_lastOf_X2_read : GoodIn wsX0_lastOf wsX2_read := goodIn_g _ [8, 0, 0, 4, 0, 0, 8, 0] [3, 4, 5, 0, 1, 2, 6, 7] rfl (by decide +kernel)
set_option maxRecDepth 100000 in
theorem gX0_lastOf_X2_read : GoodIn wsX0_lastOf (wsV RX0 51 RX2 yX2_read wsX2_read) := goodIn_app (goodIn_of _ (by decide +kernel)) ggX0_lastOf_X2_read
theorem dX0_lastOf_0 : decode cX0_lastOf 0 = .ok (.aload_n 0, 1) := by decide +kernel
theorem dX0_lastOf_1 : decode cX0_lastOf 1 = .ok (.iload_n 1, 1) := by decide +kernel
theorem dX0_lastOf_2 : decode cX0_lastOf 2 = .ok (.invokevirtual 67, 3) := by decide +kernel
theorem dX0_lastOf_5 : decode cX0_lastOf 5 = .ok (.aload_n 0, 1) := by decide +kernel
theorem dX0_lastOf_6 : decode cX0_lastOf 6 = .ok (.getfield 9, 3) := by decide +kernel
theorem dX0_lastOf_9 : decode cX0_lastOf 9 = .ok (.iload_n 1, 1) := by decide +kernel
theorem dX0_lastOf_10 : decode cX0_lastOf 10 = .ok (.iconst 1, 1) := by decide +kernel
theorem dX0_lastOf_11 : decode cX0_lastOf 11 = .ok (.invokevirtual 51, 3) := by decide +kernel
theorem dX0_lastOf_14 : decode cX0_lastOf 14 = .ok (.iadd, 1) := by decide +kernel
theorem dX0_lastOf_15 : decode cX0_lastOf 15 = .ok (.iconst 1, 1) := by decide +kernel
theorem dX0_lastOf_16 : decode cX0_lastOf 16 = .ok (.isub, 1) := by decide +kernel
theorem dX0_lastOf_17 : decode cX0_lastOf 17 = .ok (.ireturn, 1) := by decide +kernel
set_option maxRecDepth 100000 in
theorem ggX0_endVersine_X2_read : GoodIn wsX0_endVersine wsX2_read := goodIn_g _ [6, 0, 0, 0, 0, 0, 8, 0] [0, 1, 2, 3, 4, 5, 6, 7] rfl (by decide +kernel)
set_option maxRecDepth 100000 in
theorem gX0_endVersine_X2_read : GoodIn wsX0_endVersine (wsV RX0 51 RX2 yX2_read wsX2_read) := goodIn_app (goodIn_of _ (by decide +kernel)) ggX0_endVersine_X2_read
theorem dX0_endVersine_0 : decode cX0_endVersine 0 = .ok (.aload_n 0, 1) := by decide +kernel
theorem dX0_endVersine_1 : decode cX0_endVersine 1 = .ok (.getfield 9, 3) := by decide +kernel
theorem dX0_endVersine_4 : decode cX0_endVersine 4 = .ok (.iload_n 1, 1) := by decide +kernel
theorem dX0_endVersine_5 : decode cX0_endVersine 5 = .ok (.iconst 2, 1) := by decide +kernel
theorem dX0_endVersine_6 : decode cX0_endVersine 6 = .ok (.invokevirtual 51, 3) := by decide +kernel
theorem dX0_endVersine_9 : decode cX0_endVersine 9 = .ok (.istore_n 2, 1) := by decide +kernel
theorem dX0_endVersine_10 : decode cX0_endVersine 10 = .ok (.aload_n 0, 1) := by decide +kernel
theorem dX0_endVersine_11 : decode cX0_endVersine 11 = .ok (.getfield 9, 3) := by decide +kernel
theorem dX0_endVersine_14 : decode cX0_endVersine 14 = .ok (.iload_n 1, 1) := by decide +kernel
theorem dX0_endVersine_15 : decode cX0_endVersine 15 = .ok (.iconst 0, 1) := by decide +kernel
theorem dX0_endVersine_16 : decode cX0_endVersine 16 = .ok (.invokevirtual 51, 3) := by decide +kernel
theorem dX0_endVersine_19 : decode cX0_endVersine 19 = .ok (.lookupswitch 42 #[(0, 33), (3, 35), (5, 38)], 33) := by decide +kernel
theorem dX0_endVersine_52 : decode cX0_endVersine 52 = .ok (.iconst 0, 1) := by decide +kernel
theorem dX0_endVersine_53 : decode cX0_endVersine 53 = .ok (.ireturn, 1) := by decide +kernel
theorem dX0_endVersine_54 : decode cX0_endVersine 54 = .ok (.iload_n 2, 1) := by decide +kernel
theorem dX0_endVersine_55 : decode cX0_endVersine 55 = .ok (.ineg, 1) := by decide +kernel
theorem dX0_endVersine_56 : decode cX0_endVersine 56 = .ok (.ireturn, 1) := by decide +kernel
theorem dX0_endVersine_57 : decode cX0_endVersine 57 = .ok (.iload_n 2, 1) := by decide +kernel
theorem dX0_endVersine_58 : decode cX0_endVersine 58 = .ok (.iconst 2, 1) := by decide +kernel
theorem dX0_endVersine_59 : decode cX0_endVersine 59 = .ok (.idiv, 1) := by decide +kernel
theorem dX0_endVersine_60 : decode cX0_endVersine 60 = .ok (.ireturn, 1) := by decide +kernel
theorem dX0_endVersine_61 : decode cX0_endVersine 61 = .ok (.iload_n 2, 1) := by decide +kernel
theorem dX0_endVersine_62 : decode cX0_endVersine 62 = .ok (.ireturn, 1) := by decide +kernel
set_option maxRecDepth 100000 in
theorem ggX0_turnOf_X2_read : GoodIn wsX0_turnOf wsX2_read := goodIn_g _ [6, 0, 0, 0, 0, 0, 22, 0] [0, 1, 2, 3, 4, 5, 6, 7] rfl (by decide +kernel)
set_option maxRecDepth 100000 in
theorem gX0_turnOf_X2_read : GoodIn wsX0_turnOf (wsV RX0 51 RX2 yX2_read wsX2_read) := goodIn_app (goodIn_of _ (by decide +kernel)) ggX0_turnOf_X2_read
set_option maxRecDepth 100000 in
theorem ggX0_turnOf_X0_endVersine : GoodIn wsX0_turnOf wsX0_endVersine := goodIn_g _ [1, 0, 0, 0, 0, 0, 0, 0, 0, 0, 0, 4, 9, 0, 0, 0, 0, 0, 0, 0, 0, 0] [11, 0, 1, 2, 3, 4, 5, 6, 7, 8, 9, 10, 12, 13, 14, 15, 16, 17, 18, 19, 20, 21] rfl (by decide +kernel)
set_option maxRecDepth 100000 in
theorem gX0_turnOf_X0_endVersine : GoodIn wsX0_turnOf (wsV RX0 63 RX0 yX0_endVersine wsX0_endVersine) := goodIn_app (goodIn_of _ (by decide +kernel)) ggX0_turnOf_X0_endVersine
set_option maxRecDepth 100000 in
theorem ggX0_turnOf_X5_isUnder : GoodIn wsX0_turnOf wsX5_isUnder := goodIn_g _ [9, 0, 0, 6, 0, 0] [3, 4, 5, 0, 1, 2] rfl (by decide +kernel)
set_option maxRecDepth 100000 in
theorem gX0_turnOf_X5_isUnder_n78 : GoodIn wsX0_turnOf (wsX5_isUnder) := ggX0_turnOf_X5_isUnder
set_option maxRecDepth 100000 in
theorem ggX0_turnOf_X5_along : GoodIn wsX0_turnOf wsX5_along := goodIn_g _ [10, 11, 0, 0, 0] [1, 2, 3, 0, 4] rfl (by decide +kernel)
set_option maxRecDepth 100000 in
theorem gX0_turnOf_X5_along_n70 : GoodIn wsX0_turnOf (wsX5_along) := ggX0_turnOf_X5_along
theorem dX0_turnOf_0 : decode cX0_turnOf 0 = .ok (.aload_n 0, 1) := by decide +kernel
theorem dX0_turnOf_1 : decode cX0_turnOf 1 = .ok (.getfield 9, 3) := by decide +kernel
theorem dX0_turnOf_4 : decode cX0_turnOf 4 = .ok (.iload_n 1, 1) := by decide +kernel
theorem dX0_turnOf_5 : decode cX0_turnOf 5 = .ok (.iconst 0, 1) := by decide +kernel
theorem dX0_turnOf_6 : decode cX0_turnOf 6 = .ok (.invokevirtual 51, 3) := by decide +kernel
theorem dX0_turnOf_9 : decode cX0_turnOf 9 = .ok (.istore_n 2, 1) := by decide +kernel
theorem dX0_turnOf_10 : decode cX0_turnOf 10 = .ok (.aload_n 0, 1) := by decide +kernel
theorem dX0_turnOf_11 : decode cX0_turnOf 11 = .ok (.getfield 9, 3) := by decide +kernel
theorem dX0_turnOf_14 : decode cX0_turnOf 14 = .ok (.iload_n 1, 1) := by decide +kernel
theorem dX0_turnOf_15 : decode cX0_turnOf 15 = .ok (.iconst 1, 1) := by decide +kernel
theorem dX0_turnOf_16 : decode cX0_turnOf 16 = .ok (.invokevirtual 51, 3) := by decide +kernel
theorem dX0_turnOf_19 : decode cX0_turnOf 19 = .ok (.istore_n 3, 1) := by decide +kernel
theorem dX0_turnOf_20 : decode cX0_turnOf 20 = .ok (.aload_n 0, 1) := by decide +kernel
theorem dX0_turnOf_21 : decode cX0_turnOf 21 = .ok (.iload_n 1, 1) := by decide +kernel
theorem dX0_turnOf_22 : decode cX0_turnOf 22 = .ok (.invokevirtual 63, 3) := by decide +kernel
theorem dX0_turnOf_25 : decode cX0_turnOf 25 = .ok (.istore 4, 2) := by decide +kernel
theorem dX0_turnOf_27 : decode cX0_turnOf 27 = .ok (.iload_n 2, 1) := by decide +kernel
theorem dX0_turnOf_28 : decode cX0_turnOf 28 = .ok (.iconst 2, 1) := by decide +kernel
theorem dX0_turnOf_29 : decode cX0_turnOf 29 = .ok (.invokestatic 78, 3) := by decide +kernel
theorem dX0_turnOf_32 : decode cX0_turnOf 32 = .ok (.ifCond .ne 8, 3) := by decide +kernel
theorem dX0_turnOf_35 : decode cX0_turnOf 35 = .ok (.iload_n 3, 1) := by decide +kernel
theorem dX0_turnOf_36 : decode cX0_turnOf 36 = .ok (.iload 4, 2) := by decide +kernel
theorem dX0_turnOf_38 : decode cX0_turnOf 38 = .ok (.imul, 1) := by decide +kernel
theorem dX0_turnOf_39 : decode cX0_turnOf 39 = .ok (.ireturn, 1) := by decide +kernel
theorem dX0_turnOf_40 : decode cX0_turnOf 40 = .ok (.aload_n 0, 1) := by decide +kernel
theorem dX0_turnOf_41 : decode cX0_turnOf 41 = .ok (.iload_n 1, 1) := by decide +kernel
theorem dX0_turnOf_42 : decode cX0_turnOf 42 = .ok (.iconst 1, 1) := by decide +kernel
theorem dX0_turnOf_43 : decode cX0_turnOf 43 = .ok (.isub, 1) := by decide +kernel
theorem dX0_turnOf_44 : decode cX0_turnOf 44 = .ok (.invokevirtual 63, 3) := by decide +kernel
theorem dX0_turnOf_47 : decode cX0_turnOf 47 = .ok (.istore 5, 2) := by decide +kernel
theorem dX0_turnOf_49 : decode cX0_turnOf 49 = .ok (.iconst 0, 1) := by decide +kernel
theorem dX0_turnOf_50 : decode cX0_turnOf 50 = .ok (.istore 6, 2) := by decide +kernel
theorem dX0_turnOf_52 : decode cX0_turnOf 52 = .ok (.iconst 1, 1) := by decide +kernel
theorem dX0_turnOf_53 : decode cX0_turnOf 53 = .ok (.istore 7, 2) := by decide +kernel
theorem dX0_turnOf_55 : decode cX0_turnOf 55 = .ok (.iload 7, 2) := by decide +kernel
theorem dX0_turnOf_57 : decode cX0_turnOf 57 = .ok (.iload_n 3, 1) := by decide +kernel
theorem dX0_turnOf_58 : decode cX0_turnOf 58 = .ok (.if_icmp .gt 25, 3) := by decide +kernel
theorem dX0_turnOf_61 : decode cX0_turnOf 61 = .ok (.iload 6, 2) := by decide +kernel
theorem dX0_turnOf_63 : decode cX0_turnOf 63 = .ok (.iload_n 2, 1) := by decide +kernel
theorem dX0_turnOf_64 : decode cX0_turnOf 64 = .ok (.iload 5, 2) := by decide +kernel
theorem dX0_turnOf_66 : decode cX0_turnOf 66 = .ok (.iload 4, 2) := by decide +kernel
theorem dX0_turnOf_68 : decode cX0_turnOf 68 = .ok (.iload 7, 2) := by decide +kernel
theorem dX0_turnOf_70 : decode cX0_turnOf 70 = .ok (.iload_n 3, 1) := by decide +kernel
theorem dX0_turnOf_71 : decode cX0_turnOf 71 = .ok (.invokestatic 70, 3) := by decide +kernel
theorem dX0_turnOf_74 : decode cX0_turnOf 74 = .ok (.iadd, 1) := by decide +kernel
theorem dX0_turnOf_75 : decode cX0_turnOf 75 = .ok (.istore 6, 2) := by decide +kernel
theorem dX0_turnOf_77 : decode cX0_turnOf 77 = .ok (.iinc 7 1, 3) := by decide +kernel
theorem dX0_turnOf_80 : decode cX0_turnOf 80 = .ok (.goto (-25), 3) := by decide +kernel
theorem dX0_turnOf_83 : decode cX0_turnOf 83 = .ok (.iload 6, 2) := by decide +kernel
theorem dX0_turnOf_85 : decode cX0_turnOf 85 = .ok (.ireturn, 1) := by decide +kernel
set_option maxRecDepth 100000 in
theorem ggX0_offsetOf_X2_read : GoodIn wsX0_offsetOf wsX2_read := goodIn_g _ [7, 0, 0, 0, 0, 0, 23, 0] [0, 1, 2, 3, 4, 5, 6, 7] rfl (by decide +kernel)
set_option maxRecDepth 100000 in
theorem gX0_offsetOf_X2_read : GoodIn wsX0_offsetOf (wsV RX0 51 RX2 yX2_read wsX2_read) := goodIn_app (goodIn_of _ (by decide +kernel)) ggX0_offsetOf_X2_read
set_option maxRecDepth 100000 in
theorem ggX0_offsetOf_X0_endVersine : GoodIn wsX0_offsetOf wsX0_endVersine := goodIn_g _ [1, 1, 0, 0, 0, 0, 0, 0, 0, 0, 0, 4, 10, 0, 0, 0, 0, 0, 0, 0, 0, 0] [11, 0, 1, 2, 3, 4, 5, 6, 7, 8, 9, 10, 12, 13, 14, 15, 16, 17, 18, 19, 20, 21] rfl (by decide +kernel)
set_option maxRecDepth 100000 in
theorem gX0_offsetOf_X0_endVersine : GoodIn wsX0_offsetOf (wsV RX0 63 RX0 yX0_endVersine wsX0_endVersine) := goodIn_app (goodIn_of _ (by decide +kernel)) ggX0_offsetOf_X0_endVersine
set_option maxRecDepth 100000 in
theorem ggX0_offsetOf_X0_firstOf : GoodIn wsX0_offsetOf wsX0_firstOf := goodIn_g _ [10, 0, 0, 8, 0, 5, 0, 0, 0, 0, 0, 0, 0] [3, 4, 0, 1, 2, 5, 6, 7, 8, 9, 10, 11, 12] rfl (by decide +kernel)
set_option maxRecDepth 100000 in
theorem gX0_offsetOf_X0_firstOf : GoodIn wsX0_offsetOf (wsV RX0 67 RX0 yX0_firstOf wsX0_firstOf) := goodIn_app (goodIn_of _ (by decide +kernel)) ggX0_offsetOf_X0_firstOf
set_option maxRecDepth 100000 in
theorem ggX0_offsetOf_X5_along : GoodIn wsX0_offsetOf wsX5_along := goodIn_g _ [11, 12, 0, 0, 0] [1, 2, 3, 0, 4] rfl (by decide +kernel)
set_option maxRecDepth 100000 in
theorem gX0_offsetOf_X5_along_n70 : GoodIn wsX0_offsetOf (wsX5_along) := ggX0_offsetOf_X5_along
theorem dX0_offsetOf_0 : decode cX0_offsetOf 0 = .ok (.aload_n 0, 1) := by decide +kernel
theorem dX0_offsetOf_1 : decode cX0_offsetOf 1 = .ok (.getfield 9, 3) := by decide +kernel
theorem dX0_offsetOf_4 : decode cX0_offsetOf 4 = .ok (.iload_n 1, 1) := by decide +kernel
theorem dX0_offsetOf_5 : decode cX0_offsetOf 5 = .ok (.iconst 0, 1) := by decide +kernel
theorem dX0_offsetOf_6 : decode cX0_offsetOf 6 = .ok (.invokevirtual 51, 3) := by decide +kernel
theorem dX0_offsetOf_9 : decode cX0_offsetOf 9 = .ok (.istore_n 2, 1) := by decide +kernel
theorem dX0_offsetOf_10 : decode cX0_offsetOf 10 = .ok (.aload_n 0, 1) := by decide +kernel
theorem dX0_offsetOf_11 : decode cX0_offsetOf 11 = .ok (.getfield 9, 3) := by decide +kernel
theorem dX0_offsetOf_14 : decode cX0_offsetOf 14 = .ok (.iload_n 1, 1) := by decide +kernel
theorem dX0_offsetOf_15 : decode cX0_offsetOf 15 = .ok (.iconst 1, 1) := by decide +kernel
theorem dX0_offsetOf_16 : decode cX0_offsetOf 16 = .ok (.invokevirtual 51, 3) := by decide +kernel
theorem dX0_offsetOf_19 : decode cX0_offsetOf 19 = .ok (.istore_n 3, 1) := by decide +kernel
theorem dX0_offsetOf_20 : decode cX0_offsetOf 20 = .ok (.aload_n 0, 1) := by decide +kernel
theorem dX0_offsetOf_21 : decode cX0_offsetOf 21 = .ok (.iload_n 1, 1) := by decide +kernel
theorem dX0_offsetOf_22 : decode cX0_offsetOf 22 = .ok (.iconst 1, 1) := by decide +kernel
theorem dX0_offsetOf_23 : decode cX0_offsetOf 23 = .ok (.isub, 1) := by decide +kernel
theorem dX0_offsetOf_24 : decode cX0_offsetOf 24 = .ok (.invokevirtual 63, 3) := by decide +kernel
theorem dX0_offsetOf_27 : decode cX0_offsetOf 27 = .ok (.istore 4, 2) := by decide +kernel
theorem dX0_offsetOf_29 : decode cX0_offsetOf 29 = .ok (.aload_n 0, 1) := by decide +kernel
theorem dX0_offsetOf_30 : decode cX0_offsetOf 30 = .ok (.iload_n 1, 1) := by decide +kernel
theorem dX0_offsetOf_31 : decode cX0_offsetOf 31 = .ok (.invokevirtual 63, 3) := by decide +kernel
theorem dX0_offsetOf_34 : decode cX0_offsetOf 34 = .ok (.istore 5, 2) := by decide +kernel
theorem dX0_offsetOf_36 : decode cX0_offsetOf 36 = .ok (.aload_n 0, 1) := by decide +kernel
theorem dX0_offsetOf_37 : decode cX0_offsetOf 37 = .ok (.getfield 34, 3) := by decide +kernel
theorem dX0_offsetOf_40 : decode cX0_offsetOf 40 = .ok (.aload_n 0, 1) := by decide +kernel
theorem dX0_offsetOf_41 : decode cX0_offsetOf 41 = .ok (.iload_n 1, 1) := by decide +kernel
theorem dX0_offsetOf_42 : decode cX0_offsetOf 42 = .ok (.invokevirtual 67, 3) := by decide +kernel
theorem dX0_offsetOf_45 : decode cX0_offsetOf 45 = .ok (.isub, 1) := by decide +kernel
theorem dX0_offsetOf_46 : decode cX0_offsetOf 46 = .ok (.iconst 2, 1) := by decide +kernel
theorem dX0_offsetOf_47 : decode cX0_offsetOf 47 = .ok (.iadd, 1) := by decide +kernel
theorem dX0_offsetOf_48 : decode cX0_offsetOf 48 = .ok (.istore 6, 2) := by decide +kernel
theorem dX0_offsetOf_50 : decode cX0_offsetOf 50 = .ok (.iconst 0, 1) := by decide +kernel
theorem dX0_offsetOf_51 : decode cX0_offsetOf 51 = .ok (.istore 7, 2) := by decide +kernel
theorem dX0_offsetOf_53 : decode cX0_offsetOf 53 = .ok (.iconst 1, 1) := by decide +kernel
theorem dX0_offsetOf_54 : decode cX0_offsetOf 54 = .ok (.istore 8, 2) := by decide +kernel
theorem dX0_offsetOf_56 : decode cX0_offsetOf 56 = .ok (.iload 8, 2) := by decide +kernel
theorem dX0_offsetOf_58 : decode cX0_offsetOf 58 = .ok (.iload_n 3, 1) := by decide +kernel
theorem dX0_offsetOf_59 : decode cX0_offsetOf 59 = .ok (.if_icmp .gt 31, 3) := by decide +kernel
theorem dX0_offsetOf_62 : decode cX0_offsetOf 62 = .ok (.iload 7, 2) := by decide +kernel
theorem dX0_offsetOf_64 : decode cX0_offsetOf 64 = .ok (.iload_n 2, 1) := by decide +kernel
theorem dX0_offsetOf_65 : decode cX0_offsetOf 65 = .ok (.iload 4, 2) := by decide +kernel
theorem dX0_offsetOf_67 : decode cX0_offsetOf 67 = .ok (.iload 5, 2) := by decide +kernel
theorem dX0_offsetOf_69 : decode cX0_offsetOf 69 = .ok (.iload 8, 2) := by decide +kernel
theorem dX0_offsetOf_71 : decode cX0_offsetOf 71 = .ok (.iload_n 3, 1) := by decide +kernel
theorem dX0_offsetOf_72 : decode cX0_offsetOf 72 = .ok (.invokestatic 70, 3) := by decide +kernel
theorem dX0_offsetOf_75 : decode cX0_offsetOf 75 = .ok (.iload 6, 2) := by decide +kernel
theorem dX0_offsetOf_77 : decode cX0_offsetOf 77 = .ok (.iload 8, 2) := by decide +kernel
theorem dX0_offsetOf_79 : decode cX0_offsetOf 79 = .ok (.isub, 1) := by decide +kernel
theorem dX0_offsetOf_80 : decode cX0_offsetOf 80 = .ok (.imul, 1) := by decide +kernel
theorem dX0_offsetOf_81 : decode cX0_offsetOf 81 = .ok (.iadd, 1) := by decide +kernel
theorem dX0_offsetOf_82 : decode cX0_offsetOf 82 = .ok (.istore 7, 2) := by decide +kernel
theorem dX0_offsetOf_84 : decode cX0_offsetOf 84 = .ok (.iinc 8 1, 3) := by decide +kernel
theorem dX0_offsetOf_87 : decode cX0_offsetOf 87 = .ok (.goto (-31), 3) := by decide +kernel
theorem dX0_offsetOf_90 : decode cX0_offsetOf 90 = .ok (.iload 7, 2) := by decide +kernel
theorem dX0_offsetOf_92 : decode cX0_offsetOf 92 = .ok (.ireturn, 1) := by decide +kernel
set_option maxRecDepth 100000 in
theorem ggX0_turnBut_X0_turnOf : GoodIn wsX0_turnBut wsX0_turnOf := goodIn_g _ [1, 4, 0, 0, 0, 0, 0, 0, 0, 0, 0, 0, 0, 0, 0, 0, 0, 0, 0, 0, 0, 0, 0, 0, 0, 0, 0, 0, 0, 0, 0, 0, 0, 0, 0, 0] [2, 0, 3, 4, 5, 6, 7, 8, 9, 10, 11, 12, 13, 14, 15, 1, 16, 17, 18, 19, 20, 21, 22, 23, 24, 25, 26, 27, 28, 29, 30, 31, 32, 33, 34, 35] rfl (by decide +kernel)
set_option maxRecDepth 100000 in
theorem gX0_turnBut_X0_turnOf : GoodIn wsX0_turnBut (wsV RX0 82 RX0 yX0_turnOf wsX0_turnOf) := goodIn_app (goodIn_of _ (by decide +kernel)) ggX0_turnBut_X0_turnOf
theorem dX0_turnBut_0 : decode cX0_turnBut 0 = .ok (.iconst 0, 1) := by decide +kernel
theorem dX0_turnBut_1 : decode cX0_turnBut 1 = .ok (.istore_n 2, 1) := by decide +kernel
theorem dX0_turnBut_2 : decode cX0_turnBut 2 = .ok (.iconst 0, 1) := by decide +kernel
theorem dX0_turnBut_3 : decode cX0_turnBut 3 = .ok (.istore_n 3, 1) := by decide +kernel
theorem dX0_turnBut_4 : decode cX0_turnBut 4 = .ok (.iload_n 3, 1) := by decide +kernel
theorem dX0_turnBut_5 : decode cX0_turnBut 5 = .ok (.aload_n 0, 1) := by decide +kernel
theorem dX0_turnBut_6 : decode cX0_turnBut 6 = .ok (.getfield 9, 3) := by decide +kernel
theorem dX0_turnBut_9 : decode cX0_turnBut 9 = .ok (.getfield 38, 3) := by decide +kernel
theorem dX0_turnBut_12 : decode cX0_turnBut 12 = .ok (.if_icmp .ge 29, 3) := by decide +kernel
theorem dX0_turnBut_15 : decode cX0_turnBut 15 = .ok (.iload_n 3, 1) := by decide +kernel
theorem dX0_turnBut_16 : decode cX0_turnBut 16 = .ok (.iload_n 1, 1) := by decide +kernel
theorem dX0_turnBut_17 : decode cX0_turnBut 17 = .ok (.if_icmp .eq 18, 3) := by decide +kernel
theorem dX0_turnBut_20 : decode cX0_turnBut 20 = .ok (.iload_n 3, 1) := by decide +kernel
theorem dX0_turnBut_21 : decode cX0_turnBut 21 = .ok (.iload_n 1, 1) := by decide +kernel
theorem dX0_turnBut_22 : decode cX0_turnBut 22 = .ok (.iconst 1, 1) := by decide +kernel
theorem dX0_turnBut_23 : decode cX0_turnBut 23 = .ok (.iadd, 1) := by decide +kernel
theorem dX0_turnBut_24 : decode cX0_turnBut 24 = .ok (.if_icmp .eq 11, 3) := by decide +kernel
theorem dX0_turnBut_27 : decode cX0_turnBut 27 = .ok (.iload_n 2, 1) := by decide +kernel
theorem dX0_turnBut_28 : decode cX0_turnBut 28 = .ok (.aload_n 0, 1) := by decide +kernel
theorem dX0_turnBut_29 : decode cX0_turnBut 29 = .ok (.iload_n 3, 1) := by decide +kernel
theorem dX0_turnBut_30 : decode cX0_turnBut 30 = .ok (.invokevirtual 82, 3) := by decide +kernel
theorem dX0_turnBut_33 : decode cX0_turnBut 33 = .ok (.iadd, 1) := by decide +kernel
theorem dX0_turnBut_34 : decode cX0_turnBut 34 = .ok (.istore_n 2, 1) := by decide +kernel
theorem dX0_turnBut_35 : decode cX0_turnBut 35 = .ok (.iinc 3 1, 3) := by decide +kernel
theorem dX0_turnBut_38 : decode cX0_turnBut 38 = .ok (.goto (-34), 3) := by decide +kernel
theorem dX0_turnBut_41 : decode cX0_turnBut 41 = .ok (.iload_n 2, 1) := by decide +kernel
theorem dX0_turnBut_42 : decode cX0_turnBut 42 = .ok (.ireturn, 1) := by decide +kernel
set_option maxRecDepth 100000 in
theorem ggX0_offsetBut_X0_offsetOf : GoodIn wsX0_offsetBut wsX0_offsetOf := goodIn_g _ [1, 4, 0, 0, 0, 0, 0, 0, 0, 0, 0, 0, 0, 0, 0, 0, 0, 0, 0, 0, 0, 0, 0, 0, 0, 0, 0, 0, 0, 0, 0, 0, 0, 0, 0, 0, 0, 0] [2, 0, 3, 4, 5, 6, 7, 8, 9, 10, 11, 12, 13, 14, 15, 16, 1, 17, 18, 19, 20, 21, 22, 23, 24, 25, 26, 27, 28, 29, 30, 31, 32, 33, 34, 35, 36, 37] rfl (by decide +kernel)
set_option maxRecDepth 100000 in
theorem gX0_offsetBut_X0_offsetOf : GoodIn wsX0_offsetBut (wsV RX0 85 RX0 yX0_offsetOf wsX0_offsetOf) := goodIn_app (goodIn_of _ (by decide +kernel)) ggX0_offsetBut_X0_offsetOf
theorem dX0_offsetBut_0 : decode cX0_offsetBut 0 = .ok (.iconst 0, 1) := by decide +kernel
theorem dX0_offsetBut_1 : decode cX0_offsetBut 1 = .ok (.istore_n 2, 1) := by decide +kernel
theorem dX0_offsetBut_2 : decode cX0_offsetBut 2 = .ok (.iconst 0, 1) := by decide +kernel
theorem dX0_offsetBut_3 : decode cX0_offsetBut 3 = .ok (.istore_n 3, 1) := by decide +kernel
theorem dX0_offsetBut_4 : decode cX0_offsetBut 4 = .ok (.iload_n 3, 1) := by decide +kernel
theorem dX0_offsetBut_5 : decode cX0_offsetBut 5 = .ok (.aload_n 0, 1) := by decide +kernel
theorem dX0_offsetBut_6 : decode cX0_offsetBut 6 = .ok (.getfield 9, 3) := by decide +kernel
theorem dX0_offsetBut_9 : decode cX0_offsetBut 9 = .ok (.getfield 38, 3) := by decide +kernel
theorem dX0_offsetBut_12 : decode cX0_offsetBut 12 = .ok (.if_icmp .ge 29, 3) := by decide +kernel
theorem dX0_offsetBut_15 : decode cX0_offsetBut 15 = .ok (.iload_n 3, 1) := by decide +kernel
theorem dX0_offsetBut_16 : decode cX0_offsetBut 16 = .ok (.iload_n 1, 1) := by decide +kernel
theorem dX0_offsetBut_17 : decode cX0_offsetBut 17 = .ok (.if_icmp .eq 18, 3) := by decide +kernel
theorem dX0_offsetBut_20 : decode cX0_offsetBut 20 = .ok (.iload_n 3, 1) := by decide +kernel
theorem dX0_offsetBut_21 : decode cX0_offsetBut 21 = .ok (.iload_n 1, 1) := by decide +kernel
theorem dX0_offsetBut_22 : decode cX0_offsetBut 22 = .ok (.iconst 1, 1) := by decide +kernel
theorem dX0_offsetBut_23 : decode cX0_offsetBut 23 = .ok (.iadd, 1) := by decide +kernel
theorem dX0_offsetBut_24 : decode cX0_offsetBut 24 = .ok (.if_icmp .eq 11, 3) := by decide +kernel
theorem dX0_offsetBut_27 : decode cX0_offsetBut 27 = .ok (.iload_n 2, 1) := by decide +kernel
theorem dX0_offsetBut_28 : decode cX0_offsetBut 28 = .ok (.aload_n 0, 1) := by decide +kernel
theorem dX0_offsetBut_29 : decode cX0_offsetBut 29 = .ok (.iload_n 3, 1) := by decide +kernel
theorem dX0_offsetBut_30 : decode cX0_offsetBut 30 = .ok (.invokevirtual 85, 3) := by decide +kernel
theorem dX0_offsetBut_33 : decode cX0_offsetBut 33 = .ok (.iadd, 1) := by decide +kernel
theorem dX0_offsetBut_34 : decode cX0_offsetBut 34 = .ok (.istore_n 2, 1) := by decide +kernel
theorem dX0_offsetBut_35 : decode cX0_offsetBut 35 = .ok (.iinc 3 1, 3) := by decide +kernel
theorem dX0_offsetBut_38 : decode cX0_offsetBut 38 = .ok (.goto (-34), 3) := by decide +kernel
theorem dX0_offsetBut_41 : decode cX0_offsetBut 41 = .ok (.iload_n 2, 1) := by decide +kernel
theorem dX0_offsetBut_42 : decode cX0_offsetBut 42 = .ok (.ireturn, 1) := by decide +kernel
set_option maxRecDepth 100000 in
theorem ggX0_turnReached_X0_turnOf : GoodIn wsX0_turnReached wsX0_turnOf := goodIn_g _ [4, 0, 0, 0, 0, 0, 0, 0, 0, 0, 0, 0, 0, 0, 0, 0, 0, 0, 0, 0, 0, 0, 0, 0, 0, 0, 0, 0, 0, 0, 0, 0, 0, 0, 0, 0] [1, 2, 3, 4, 5, 6, 7, 8, 9, 10, 11, 12, 13, 14, 15, 0, 16, 17, 18, 19, 20, 21, 22, 23, 24, 25, 26, 27, 28, 29, 30, 31, 32, 33, 34, 35] rfl (by decide +kernel)
set_option maxRecDepth 100000 in
theorem gX0_turnReached_X0_turnOf : GoodIn wsX0_turnReached (wsV RX0 82 RX0 yX0_turnOf wsX0_turnOf) := goodIn_app (goodIn_of _ (by decide +kernel)) ggX0_turnReached_X0_turnOf
theorem dX0_turnReached_0 : decode cX0_turnReached 0 = .ok (.aload_n 0, 1) := by decide +kernel
theorem dX0_turnReached_1 : decode cX0_turnReached 1 = .ok (.iload_n 1, 1) := by decide +kernel
theorem dX0_turnReached_2 : decode cX0_turnReached 2 = .ok (.invokevirtual 82, 3) := by decide +kernel
theorem dX0_turnReached_5 : decode cX0_turnReached 5 = .ok (.aload_n 0, 1) := by decide +kernel
theorem dX0_turnReached_6 : decode cX0_turnReached 6 = .ok (.iload_n 1, 1) := by decide +kernel
theorem dX0_turnReached_7 : decode cX0_turnReached 7 = .ok (.iconst 1, 1) := by decide +kernel
theorem dX0_turnReached_8 : decode cX0_turnReached 8 = .ok (.iadd, 1) := by decide +kernel
theorem dX0_turnReached_9 : decode cX0_turnReached 9 = .ok (.invokevirtual 82, 3) := by decide +kernel
theorem dX0_turnReached_12 : decode cX0_turnReached 12 = .ok (.iadd, 1) := by decide +kernel
theorem dX0_turnReached_13 : decode cX0_turnReached 13 = .ok (.ireturn, 1) := by decide +kernel
set_option maxRecDepth 100000 in
theorem ggX0_offsetReached_X0_offsetOf : GoodIn wsX0_offsetReached wsX0_offsetOf := goodIn_g _ [4, 0, 0, 0, 0, 0, 0, 0, 0, 0, 0, 0, 0, 0, 0, 0, 0, 0, 0, 0, 0, 0, 0, 0, 0, 0, 0, 0, 0, 0, 0, 0, 0, 0, 0, 0, 0, 0] [1, 2, 3, 4, 5, 6, 7, 8, 9, 10, 11, 12, 13, 14, 15, 16, 0, 17, 18, 19, 20, 21, 22, 23, 24, 25, 26, 27, 28, 29, 30, 31, 32, 33, 34, 35, 36, 37] rfl (by decide +kernel)
set_option maxRecDepth 100000 in
theorem gX0_offsetReached_X0_offsetOf : GoodIn wsX0_offsetReached (wsV RX0 85 RX0 yX0_offsetOf wsX0_offsetOf) := goodIn_app (goodIn_of _ (by decide +kernel)) ggX0_offsetReached_X0_offsetOf
theorem dX0_offsetReached_0 : decode cX0_offsetReached 0 = .ok (.aload_n 0, 1) := by decide +kernel
theorem dX0_offsetReached_1 : decode cX0_offsetReached 1 = .ok (.iload_n 1, 1) := by decide +kernel
theorem dX0_offsetReached_2 : decode cX0_offsetReached 2 = .ok (.invokevirtual 85, 3) := by decide +kernel
theorem dX0_offsetReached_5 : decode cX0_offsetReached 5 = .ok (.aload_n 0, 1) := by decide +kernel
theorem dX0_offsetReached_6 : decode cX0_offsetReached 6 = .ok (.iload_n 1, 1) := by decide +kernel
theorem dX0_offsetReached_7 : decode cX0_offsetReached 7 = .ok (.iconst 1, 1) := by decide +kernel
theorem dX0_offsetReached_8 : decode cX0_offsetReached 8 = .ok (.iadd, 1) := by decide +kernel
theorem dX0_offsetReached_9 : decode cX0_offsetReached 9 = .ok (.invokevirtual 85, 3) := by decide +kernel
theorem dX0_offsetReached_12 : decode cX0_offsetReached 12 = .ok (.iadd, 1) := by decide +kernel
theorem dX0_offsetReached_13 : decode cX0_offsetReached 13 = .ok (.ireturn, 1) := by decide +kernel
theorem dX1_init_0 : decode cX1_init 0 = .ok (.aload_n 0, 1) := by decide +kernel
theorem dX1_init_1 : decode cX1_init 1 = .ok (.invokespecial 3, 3) := by decide +kernel
theorem dX1_init_4 : decode cX1_init 4 = .ok (.aload_n 0, 1) := by decide +kernel
theorem dX1_init_5 : decode cX1_init 5 = .ok (.aload_n 1, 1) := by decide +kernel
theorem dX1_init_6 : decode cX1_init 6 = .ok (.putfield 9, 3) := by decide +kernel
theorem dX1_init_9 : decode cX1_init 9 = .ok (.aload_n 0, 1) := by decide +kernel
theorem dX1_init_10 : decode cX1_init 10 = .ok (.sipush 201, 3) := by decide +kernel
theorem dX1_init_13 : decode cX1_init 13 = .ok (.newarray .int, 2) := by decide +kernel
theorem dX1_init_15 : decode cX1_init 15 = .ok (.putfield 15, 3) := by decide +kernel
theorem dX1_init_18 : decode cX1_init 18 = .ok (.aload_n 0, 1) := by decide +kernel
theorem dX1_init_19 : decode cX1_init 19 = .ok (.sipush 201, 3) := by decide +kernel
theorem dX1_init_22 : decode cX1_init 22 = .ok (.newarray .int, 2) := by decide +kernel
theorem dX1_init_24 : decode cX1_init 24 = .ok (.putfield 19, 3) := by decide +kernel
theorem dX1_init_27 : decode cX1_init 27 = .ok (.return_, 1) := by decide +kernel
set_option maxRecDepth 100000 in
theorem ggX1_tell_X3_read : GoodIn wsX1_tell wsX3_read := goodIn_g _ [13, 0, 0, 0, 0, 0, 14, 0, 0] [0, 1, 2, 3, 4, 5, 6, 7, 8] rfl (by decide +kernel)
set_option maxRecDepth 100000 in
theorem gX1_tell_X3_read : GoodIn wsX1_tell (wsV RX1 22 RX3 yX3_read wsX3_read) := goodIn_app (goodIn_of _ (by decide +kernel)) ggX1_tell_X3_read
set_option maxRecDepth 100000 in
theorem ggX1_tell_X5_mark : GoodIn wsX1_tell wsX5_mark := goodIn_g _ [20] [0] rfl (by decide +kernel)
set_option maxRecDepth 100000 in
theorem gX1_tell_X5_mark_n37 : GoodIn wsX1_tell (wsX5_mark) := ggX1_tell_X5_mark
set_option maxRecDepth 100000 in
theorem ggX1_tell_X1_sum : GoodIn wsX1_tell wsX1_sum := goodIn_g _ [1, 14, 0, 0, 0, 0, 4, 0, 0, 0, 0, 0, 0, 0, 3, 0, 0, 0, 0, 0, 0, 0] [6, 7, 8, 0, 9, 10, 1, 2, 3, 4, 5, 11, 12, 13, 14, 15, 16, 17, 18, 19, 20, 21] rfl (by decide +kernel)
set_option maxRecDepth 100000 in
theorem gX1_tell_X1_sum : GoodIn wsX1_tell (wsV RX1 41 RX1 yX1_sum wsX1_sum) := goodIn_app (goodIn_of _ (by decide +kernel)) ggX1_tell_X1_sum
theorem dX1_tell_0 : decode cX1_tell 0 = .ok (.iconst 1, 1) := by decide +kernel
theorem dX1_tell_1 : decode cX1_tell 1 = .ok (.istore_n 2, 1) := by decide +kernel
theorem dX1_tell_2 : decode cX1_tell 2 = .ok (.iload_n 2, 1) := by decide +kernel
theorem dX1_tell_3 : decode cX1_tell 3 = .ok (.aload_n 0, 1) := by decide +kernel
theorem dX1_tell_4 : decode cX1_tell 4 = .ok (.getfield 15, 3) := by decide +kernel
theorem dX1_tell_7 : decode cX1_tell 7 = .ok (.arraylength, 1) := by decide +kernel
theorem dX1_tell_8 : decode cX1_tell 8 = .ok (.if_icmp .ge 38, 3) := by decide +kernel
theorem dX1_tell_11 : decode cX1_tell 11 = .ok (.aload_n 1, 1) := by decide +kernel
theorem dX1_tell_12 : decode cX1_tell 12 = .ok (.iload_n 2, 1) := by decide +kernel
theorem dX1_tell_13 : decode cX1_tell 13 = .ok (.iconst 1, 1) := by decide +kernel
theorem dX1_tell_14 : decode cX1_tell 14 = .ok (.isub, 1) := by decide +kernel
theorem dX1_tell_15 : decode cX1_tell 15 = .ok (.invokevirtual 22, 3) := by decide +kernel
theorem dX1_tell_18 : decode cX1_tell 18 = .ok (.istore_n 3, 1) := by decide +kernel
theorem dX1_tell_19 : decode cX1_tell 19 = .ok (.aload_n 0, 1) := by decide +kernel
theorem dX1_tell_20 : decode cX1_tell 20 = .ok (.getfield 15, 3) := by decide +kernel
theorem dX1_tell_23 : decode cX1_tell 23 = .ok (.iload_n 2, 1) := by decide +kernel
theorem dX1_tell_24 : decode cX1_tell 24 = .ok (.sipush (-999), 3) := by decide +kernel
theorem dX1_tell_27 : decode cX1_tell 27 = .ok (.sipush 999, 3) := by decide +kernel
theorem dX1_tell_30 : decode cX1_tell 30 = .ok (.iload_n 3, 1) := by decide +kernel
theorem dX1_tell_31 : decode cX1_tell 31 = .ok (.invokestatic 28, 3) := by decide +kernel
theorem dX1_tell_34 : decode cX1_tell 34 = .ok (.invokestatic 34, 3) := by decide +kernel
theorem dX1_tell_37 : decode cX1_tell 37 = .ok (.invokestatic 37, 3) := by decide +kernel
theorem dX1_tell_40 : decode cX1_tell 40 = .ok (.iinc 2 1, 3) := by decide +kernel
theorem dX1_tell_43 : decode cX1_tell 43 = .ok (.goto (-41), 3) := by decide +kernel
theorem dX1_tell_46 : decode cX1_tell 46 = .ok (.aload_n 0, 1) := by decide +kernel
theorem dX1_tell_47 : decode cX1_tell 47 = .ok (.invokevirtual 41, 3) := by decide +kernel
theorem dX1_tell_50 : decode cX1_tell 50 = .ok (.return_, 1) := by decide +kernel
set_option maxRecDepth 100000 in
theorem ggX1_err_X5_cell : GoodIn wsX1_err wsX5_cell := goodIn_g _ [8] [0] rfl (by decide +kernel)
set_option maxRecDepth 100000 in
theorem gX1_err_X5_cell_n52 : GoodIn wsX1_err (wsX5_cell) := ggX1_err_X5_cell
set_option maxRecDepth 100000 in
theorem ggX1_err_X5_mark : GoodIn wsX1_err wsX5_mark := goodIn_g _ [10] [0] rfl (by decide +kernel)
set_option maxRecDepth 100000 in
theorem gX1_err_X5_mark_n37 : GoodIn wsX1_err (wsX5_mark) := ggX1_err_X5_mark
set_option maxRecDepth 100000 in
theorem ggX1_err_X1_sum : GoodIn wsX1_err wsX1_sum := goodIn_g _ [1, 0, 1, 0, 0, 0, 0, 0, 0, 4, 0, 0, 0, 0, 0, 0, 0, 0, 0, 0, 0, 0] [9, 0, 1, 2, 3, 10, 4, 5, 6, 7, 8, 11, 12, 13, 14, 15, 16, 17, 18, 19, 20, 21] rfl (by decide +kernel)
set_option maxRecDepth 100000 in
theorem gX1_err_X1_sum : GoodIn wsX1_err (wsV RX1 41 RX1 yX1_sum wsX1_sum) := goodIn_app (goodIn_of _ (by decide +kernel)) ggX1_err_X1_sum
theorem dX1_err_0 : decode cX1_err 0 = .ok (.iload_n 1, 1) := by decide +kernel
theorem dX1_err_1 : decode cX1_err 1 = .ok (.istore_n 3, 1) := by decide +kernel
theorem dX1_err_2 : decode cX1_err 2 = .ok (.iconst 2, 1) := by decide +kernel
theorem dX1_err_3 : decode cX1_err 3 = .ok (.iload_n 2, 1) := by decide +kernel
theorem dX1_err_4 : decode cX1_err 4 = .ok (.imul, 1) := by decide +kernel
theorem dX1_err_5 : decode cX1_err 5 = .ok (.iconst 1, 1) := by decide +kernel
theorem dX1_err_6 : decode cX1_err 6 = .ok (.iadd, 1) := by decide +kernel
theorem dX1_err_7 : decode cX1_err 7 = .ok (.istore 4, 2) := by decide +kernel
theorem dX1_err_9 : decode cX1_err 9 = .ok (.iconst 1, 1) := by decide +kernel
theorem dX1_err_10 : decode cX1_err 10 = .ok (.istore 5, 2) := by decide +kernel
theorem dX1_err_12 : decode cX1_err 12 = .ok (.iload 5, 2) := by decide +kernel
theorem dX1_err_14 : decode cX1_err 14 = .ok (.aload_n 0, 1) := by decide +kernel
theorem dX1_err_15 : decode cX1_err 15 = .ok (.getfield 9, 3) := by decide +kernel
theorem dX1_err_18 : decode cX1_err 18 = .ok (.getfield 44, 3) := by decide +kernel
theorem dX1_err_21 : decode cX1_err 21 = .ok (.if_icmp .gt 62, 3) := by decide +kernel
theorem dX1_err_24 : decode cX1_err 24 = .ok (.iload_n 3, 1) := by decide +kernel
theorem dX1_err_25 : decode cX1_err 25 = .ok (.ldc 50, 2) := by decide +kernel
theorem dX1_err_27 : decode cX1_err 27 = .ok (.imul, 1) := by decide +kernel
theorem dX1_err_28 : decode cX1_err 28 = .ok (.sipush 12345, 3) := by decide +kernel
theorem dX1_err_31 : decode cX1_err 31 = .ok (.iadd, 1) := by decide +kernel
theorem dX1_err_32 : decode cX1_err 32 = .ok (.istore_n 3, 1) := by decide +kernel
theorem dX1_err_33 : decode cX1_err 33 = .ok (.iload 4, 2) := by decide +kernel
theorem dX1_err_35 : decode cX1_err 35 = .ok (.ifCond .le 15, 3) := by decide +kernel
theorem dX1_err_38 : decode cX1_err 38 = .ok (.iload_n 3, 1) := by decide +kernel
theorem dX1_err_39 : decode cX1_err 39 = .ok (.bipush 9, 2) := by decide +kernel
theorem dX1_err_41 : decode cX1_err 41 = .ok (.iushr, 1) := by decide +kernel
theorem dX1_err_42 : decode cX1_err 42 = .ok (.iload 4, 2) := by decide +kernel
theorem dX1_err_44 : decode cX1_err 44 = .ok (.irem, 1) := by decide +kernel
theorem dX1_err_45 : decode cX1_err 45 = .ok (.iload_n 2, 1) := by decide +kernel
theorem dX1_err_46 : decode cX1_err 46 = .ok (.isub, 1) := by decide +kernel
theorem dX1_err_47 : decode cX1_err 47 = .ok (.goto 4, 3) := by decide +kernel
theorem dX1_err_50 : decode cX1_err 50 = .ok (.iconst 0, 1) := by decide +kernel
theorem dX1_err_51 : decode cX1_err 51 = .ok (.istore 6, 2) := by decide +kernel
theorem dX1_err_53 : decode cX1_err 53 = .ok (.aload_n 0, 1) := by decide +kernel
theorem dX1_err_54 : decode cX1_err 54 = .ok (.getfield 15, 3) := by decide +kernel
theorem dX1_err_57 : decode cX1_err 57 = .ok (.iload 5, 2) := by decide +kernel
theorem dX1_err_59 : decode cX1_err 59 = .ok (.aload_n 0, 1) := by decide +kernel
theorem dX1_err_60 : decode cX1_err 60 = .ok (.getfield 9, 3) := by decide +kernel
theorem dX1_err_63 : decode cX1_err 63 = .ok (.getfield 51, 3) := by decide +kernel
theorem dX1_err_66 : decode cX1_err 66 = .ok (.iload 5, 2) := by decide +kernel
theorem dX1_err_68 : decode cX1_err 68 = .ok (.invokestatic 52, 3) := by decide +kernel
theorem dX1_err_71 : decode cX1_err 71 = .ok (.iload 6, 2) := by decide +kernel
theorem dX1_err_73 : decode cX1_err 73 = .ok (.iadd, 1) := by decide +kernel
theorem dX1_err_74 : decode cX1_err 74 = .ok (.invokestatic 37, 3) := by decide +kernel
theorem dX1_err_77 : decode cX1_err 77 = .ok (.iinc 5 1, 3) := by decide +kernel
theorem dX1_err_80 : decode cX1_err 80 = .ok (.goto (-68), 3) := by decide +kernel
theorem dX1_err_83 : decode cX1_err 83 = .ok (.aload_n 0, 1) := by decide +kernel
theorem dX1_err_84 : decode cX1_err 84 = .ok (.invokevirtual 41, 3) := by decide +kernel
theorem dX1_err_87 : decode cX1_err 87 = .ok (.return_, 1) := by decide +kernel
set_option maxRecDepth 100000 in
theorem ggX1_sum_X5_cell : GoodIn wsX1_sum wsX5_cell := goodIn_g _ [8] [0] rfl (by decide +kernel)
set_option maxRecDepth 100000 in
theorem gX1_sum_X5_cell_n52 : GoodIn wsX1_sum (wsX5_cell) := ggX1_sum_X5_cell
set_option maxRecDepth 100000 in
theorem ggX1_sum_X5_mark : GoodIn wsX1_sum wsX5_mark := goodIn_g _ [10] [0] rfl (by decide +kernel)
set_option maxRecDepth 100000 in
theorem gX1_sum_X5_mark_n37 : GoodIn wsX1_sum (wsX5_mark) := ggX1_sum_X5_mark
theorem dX1_sum_0 : decode cX1_sum 0 = .ok (.iconst 0, 1) := by decide +kernel
theorem dX1_sum_1 : decode cX1_sum 1 = .ok (.istore_n 1, 1) := by decide +kernel
theorem dX1_sum_2 : decode cX1_sum 2 = .ok (.iconst 1, 1) := by decide +kernel
theorem dX1_sum_3 : decode cX1_sum 3 = .ok (.istore_n 2, 1) := by decide +kernel
theorem dX1_sum_4 : decode cX1_sum 4 = .ok (.iload_n 2, 1) := by decide +kernel
theorem dX1_sum_5 : decode cX1_sum 5 = .ok (.aload_n 0, 1) := by decide +kernel
theorem dX1_sum_6 : decode cX1_sum 6 = .ok (.getfield 9, 3) := by decide +kernel
theorem dX1_sum_9 : decode cX1_sum 9 = .ok (.getfield 44, 3) := by decide +kernel
theorem dX1_sum_12 : decode cX1_sum 12 = .ok (.if_icmp .gt 52, 3) := by decide +kernel
theorem dX1_sum_15 : decode cX1_sum 15 = .ok (.iload_n 1, 1) := by decide +kernel
theorem dX1_sum_16 : decode cX1_sum 16 = .ok (.aload_n 0, 1) := by decide +kernel
theorem dX1_sum_17 : decode cX1_sum 17 = .ok (.getfield 15, 3) := by decide +kernel
theorem dX1_sum_20 : decode cX1_sum 20 = .ok (.iload_n 2, 1) := by decide +kernel
theorem dX1_sum_21 : decode cX1_sum 21 = .ok (.invokestatic 52, 3) := by decide +kernel
theorem dX1_sum_24 : decode cX1_sum 24 = .ok (.aload_n 0, 1) := by decide +kernel
theorem dX1_sum_25 : decode cX1_sum 25 = .ok (.getfield 9, 3) := by decide +kernel
theorem dX1_sum_28 : decode cX1_sum 28 = .ok (.getfield 51, 3) := by decide +kernel
theorem dX1_sum_31 : decode cX1_sum 31 = .ok (.iload_n 2, 1) := by decide +kernel
theorem dX1_sum_32 : decode cX1_sum 32 = .ok (.invokestatic 52, 3) := by decide +kernel
theorem dX1_sum_35 : decode cX1_sum 35 = .ok (.isub, 1) := by decide +kernel
theorem dX1_sum_36 : decode cX1_sum 36 = .ok (.iadd, 1) := by decide +kernel
theorem dX1_sum_37 : decode cX1_sum 37 = .ok (.istore_n 1, 1) := by decide +kernel
theorem dX1_sum_38 : decode cX1_sum 38 = .ok (.aload_n 0, 1) := by decide +kernel
theorem dX1_sum_39 : decode cX1_sum 39 = .ok (.getfield 19, 3) := by decide +kernel
theorem dX1_sum_42 : decode cX1_sum 42 = .ok (.iload_n 2, 1) := by decide +kernel
theorem dX1_sum_43 : decode cX1_sum 43 = .ok (.aload_n 0, 1) := by decide +kernel
theorem dX1_sum_44 : decode cX1_sum 44 = .ok (.getfield 19, 3) := by decide +kernel
theorem dX1_sum_47 : decode cX1_sum 47 = .ok (.iload_n 2, 1) := by decide +kernel
theorem dX1_sum_48 : decode cX1_sum 48 = .ok (.iconst 1, 1) := by decide +kernel
theorem dX1_sum_49 : decode cX1_sum 49 = .ok (.isub, 1) := by decide +kernel
theorem dX1_sum_50 : decode cX1_sum 50 = .ok (.invokestatic 52, 3) := by decide +kernel
theorem dX1_sum_53 : decode cX1_sum 53 = .ok (.iload_n 1, 1) := by decide +kernel
theorem dX1_sum_54 : decode cX1_sum 54 = .ok (.iadd, 1) := by decide +kernel
theorem dX1_sum_55 : decode cX1_sum 55 = .ok (.invokestatic 37, 3) := by decide +kernel
theorem dX1_sum_58 : decode cX1_sum 58 = .ok (.iinc 2 1, 3) := by decide +kernel
theorem dX1_sum_61 : decode cX1_sum 61 = .ok (.goto (-57), 3) := by decide +kernel
theorem dX1_sum_64 : decode cX1_sum 64 = .ok (.return_, 1) := by decide +kernel
set_option maxRecDepth 100000 in
theorem ggX1_slewAt_X5_cell : GoodIn wsX1_slewAt wsX5_cell := goodIn_g _ [4] [0] rfl (by decide +kernel)
set_option maxRecDepth 100000 in
theorem gX1_slewAt_X5_cell_n52 : GoodIn wsX1_slewAt (wsX5_cell) := ggX1_slewAt_X5_cell
theorem dX1_slewAt_0 : decode cX1_slewAt 0 = .ok (.aload_n 0, 1) := by decide +kernel
theorem dX1_slewAt_1 : decode cX1_slewAt 1 = .ok (.getfield 19, 3) := by decide +kernel
theorem dX1_slewAt_4 : decode cX1_slewAt 4 = .ok (.iload_n 1, 1) := by decide +kernel
theorem dX1_slewAt_5 : decode cX1_slewAt 5 = .ok (.invokestatic 52, 3) := by decide +kernel
theorem dX1_slewAt_8 : decode cX1_slewAt 8 = .ok (.ireturn, 1) := by decide +kernel
set_option maxRecDepth 100000 in
theorem ggX1_greatest_X1_slewAt : GoodIn wsX1_greatest wsX1_slewAt := goodIn_g _ [14, 0, 0, 0, 0, 0, 0, 0] [0, 1, 2, 3, 4, 5, 6, 7] rfl (by decide +kernel)
set_option maxRecDepth 100000 in
theorem gX1_greatest_X1_slewAt : GoodIn wsX1_greatest (wsV RX1 56 RX1 yX1_slewAt wsX1_slewAt) := goodIn_app (goodIn_of _ (by decide +kernel)) ggX1_greatest_X1_slewAt
theorem dX1_greatest_0 : decode cX1_greatest 0 = .ok (.iconst 0, 1) := by decide +kernel
theorem dX1_greatest_1 : decode cX1_greatest 1 = .ok (.istore_n 1, 1) := by decide +kernel
theorem dX1_greatest_2 : decode cX1_greatest 2 = .ok (.iconst 1, 1) := by decide +kernel
theorem dX1_greatest_3 : decode cX1_greatest 3 = .ok (.istore_n 2, 1) := by decide +kernel
theorem dX1_greatest_4 : decode cX1_greatest 4 = .ok (.iload_n 2, 1) := by decide +kernel
theorem dX1_greatest_5 : decode cX1_greatest 5 = .ok (.aload_n 0, 1) := by decide +kernel
theorem dX1_greatest_6 : decode cX1_greatest 6 = .ok (.getfield 9, 3) := by decide +kernel
theorem dX1_greatest_9 : decode cX1_greatest 9 = .ok (.getfield 44, 3) := by decide +kernel
theorem dX1_greatest_12 : decode cX1_greatest 12 = .ok (.if_icmp .gt 22, 3) := by decide +kernel
theorem dX1_greatest_15 : decode cX1_greatest 15 = .ok (.iload_n 1, 1) := by decide +kernel
theorem dX1_greatest_16 : decode cX1_greatest 16 = .ok (.aload_n 0, 1) := by decide +kernel
theorem dX1_greatest_17 : decode cX1_greatest 17 = .ok (.iload_n 2, 1) := by decide +kernel
theorem dX1_greatest_18 : decode cX1_greatest 18 = .ok (.invokevirtual 56, 3) := by decide +kernel
theorem dX1_greatest_21 : decode cX1_greatest 21 = .ok (.invokestatic 59, 3) := by decide +kernel
theorem dX1_greatest_24 : decode cX1_greatest 24 = .ok (.invokestatic 34, 3) := by decide +kernel
theorem dX1_greatest_27 : decode cX1_greatest 27 = .ok (.istore_n 1, 1) := by decide +kernel
theorem dX1_greatest_28 : decode cX1_greatest 28 = .ok (.iinc 2 1, 3) := by decide +kernel
theorem dX1_greatest_31 : decode cX1_greatest 31 = .ok (.goto (-27), 3) := by decide +kernel
theorem dX1_greatest_34 : decode cX1_greatest 34 = .ok (.iload_n 1, 1) := by decide +kernel
theorem dX1_greatest_35 : decode cX1_greatest 35 = .ok (.ireturn, 1) := by decide +kernel
set_option maxRecDepth 100000 in
theorem ggX1_widest_X1_greatest : GoodIn wsX1_widest wsX1_greatest := goodIn_g _ [1, 0, 0, 0, 0, 0, 3, 0, 0, 0, 0, 0, 0, 0, 0, 0, 0, 0, 0, 0, 0, 0, 0, 0, 0, 0, 0, 0, 0, 0] [7, 0, 1, 2, 3, 4, 5, 8, 9, 10, 11, 12, 13, 6, 14, 15, 16, 17, 18, 19, 20, 21, 22, 23, 24, 25, 26, 27, 28, 29] rfl (by decide +kernel)
set_option maxRecDepth 100000 in
theorem gX1_widest_X1_greatest : GoodIn wsX1_widest (wsV RX1 62 RX1 yX1_greatest wsX1_greatest) := goodIn_app (goodIn_of _ (by decide +kernel)) ggX1_widest_X1_greatest
set_option maxRecDepth 100000 in
theorem ggX1_widest_X1_slewAt : GoodIn wsX1_widest wsX1_slewAt := goodIn_g _ [18, 0, 0, 0, 0, 0, 0, 0] [0, 1, 2, 3, 4, 5, 6, 7] rfl (by decide +kernel)
set_option maxRecDepth 100000 in
theorem gX1_widest_X1_slewAt : GoodIn wsX1_widest (wsV RX1 56 RX1 yX1_slewAt wsX1_slewAt) := goodIn_app (goodIn_of _ (by decide +kernel)) ggX1_widest_X1_slewAt
theorem dX1_widest_0 : decode cX1_widest 0 = .ok (.aload_n 0, 1) := by decide +kernel
theorem dX1_widest_1 : decode cX1_widest 1 = .ok (.invokevirtual 62, 3) := by decide +kernel
theorem dX1_widest_4 : decode cX1_widest 4 = .ok (.istore_n 1, 1) := by decide +kernel
theorem dX1_widest_5 : decode cX1_widest 5 = .ok (.iconst 1, 1) := by decide +kernel
theorem dX1_widest_6 : decode cX1_widest 6 = .ok (.istore_n 2, 1) := by decide +kernel
theorem dX1_widest_7 : decode cX1_widest 7 = .ok (.iload_n 2, 1) := by decide +kernel
theorem dX1_widest_8 : decode cX1_widest 8 = .ok (.aload_n 0, 1) := by decide +kernel
theorem dX1_widest_9 : decode cX1_widest 9 = .ok (.getfield 9, 3) := by decide +kernel
theorem dX1_widest_12 : decode cX1_widest 12 = .ok (.getfield 44, 3) := by decide +kernel
theorem dX1_widest_15 : decode cX1_widest 15 = .ok (.if_icmp .gt 23, 3) := by decide +kernel
theorem dX1_widest_18 : decode cX1_widest 18 = .ok (.aload_n 0, 1) := by decide +kernel
theorem dX1_widest_19 : decode cX1_widest 19 = .ok (.iload_n 2, 1) := by decide +kernel
theorem dX1_widest_20 : decode cX1_widest 20 = .ok (.invokevirtual 56, 3) := by decide +kernel
theorem dX1_widest_23 : decode cX1_widest 23 = .ok (.invokestatic 59, 3) := by decide +kernel
theorem dX1_widest_26 : decode cX1_widest 26 = .ok (.iload_n 1, 1) := by decide +kernel
theorem dX1_widest_27 : decode cX1_widest 27 = .ok (.if_icmp .ne 5, 3) := by decide +kernel
theorem dX1_widest_30 : decode cX1_widest 30 = .ok (.iload_n 2, 1) := by decide +kernel
theorem dX1_widest_31 : decode cX1_widest 31 = .ok (.ireturn, 1) := by decide +kernel
theorem dX1_widest_32 : decode cX1_widest 32 = .ok (.iinc 2 1, 3) := by decide +kernel
theorem dX1_widest_35 : decode cX1_widest 35 = .ok (.goto (-28), 3) := by decide +kernel
theorem dX1_widest_38 : decode cX1_widest 38 = .ok (.iconst (-1), 1) := by decide +kernel
theorem dX1_widest_39 : decode cX1_widest 39 = .ok (.ireturn, 1) := by decide +kernel
set_option maxRecDepth 100000 in
theorem ggX1_together_X1_slewAt : GoodIn wsX1_together wsX1_slewAt := goodIn_g _ [11, 0, 0, 0, 0, 0, 0, 0] [0, 1, 2, 3, 4, 5, 6, 7] rfl (by decide +kernel)
set_option maxRecDepth 100000 in
theorem gX1_together_X1_slewAt : GoodIn wsX1_together (wsV RX1 56 RX1 yX1_slewAt wsX1_slewAt) := goodIn_app (goodIn_of _ (by decide +kernel)) ggX1_together_X1_slewAt
theorem dX1_together_0 : decode cX1_together 0 = .ok (.lconst 0, 1) := by decide +kernel
theorem dX1_together_1 : decode cX1_together 1 = .ok (.lstore_n 1, 1) := by decide +kernel
theorem dX1_together_2 : decode cX1_together 2 = .ok (.iconst 1, 1) := by decide +kernel
theorem dX1_together_3 : decode cX1_together 3 = .ok (.istore_n 3, 1) := by decide +kernel
theorem dX1_together_4 : decode cX1_together 4 = .ok (.iload_n 3, 1) := by decide +kernel
theorem dX1_together_5 : decode cX1_together 5 = .ok (.aload_n 0, 1) := by decide +kernel
theorem dX1_together_6 : decode cX1_together 6 = .ok (.getfield 9, 3) := by decide +kernel
theorem dX1_together_9 : decode cX1_together 9 = .ok (.getfield 44, 3) := by decide +kernel
theorem dX1_together_12 : decode cX1_together 12 = .ok (.if_icmp .gt 21, 3) := by decide +kernel
theorem dX1_together_15 : decode cX1_together 15 = .ok (.lload_n 1, 1) := by decide +kernel
theorem dX1_together_16 : decode cX1_together 16 = .ok (.aload_n 0, 1) := by decide +kernel
theorem dX1_together_17 : decode cX1_together 17 = .ok (.iload_n 3, 1) := by decide +kernel
theorem dX1_together_18 : decode cX1_together 18 = .ok (.invokevirtual 56, 3) := by decide +kernel
theorem dX1_together_21 : decode cX1_together 21 = .ok (.invokestatic 59, 3) := by decide +kernel
theorem dX1_together_24 : decode cX1_together 24 = .ok (.i2l, 1) := by decide +kernel
theorem dX1_together_25 : decode cX1_together 25 = .ok (.ladd, 1) := by decide +kernel
theorem dX1_together_26 : decode cX1_together 26 = .ok (.lstore_n 1, 1) := by decide +kernel
theorem dX1_together_27 : decode cX1_together 27 = .ok (.iinc 3 1, 3) := by decide +kernel
theorem dX1_together_30 : decode cX1_together 30 = .ok (.goto (-26), 3) := by decide +kernel
theorem dX1_together_33 : decode cX1_together 33 = .ok (.lload_n 1, 1) := by decide +kernel
theorem dX1_together_34 : decode cX1_together 34 = .ok (.lreturn, 1) := by decide +kernel
theorem dX2_init_0 : decode cX2_init 0 = .ok (.aload_n 0, 1) := by decide +kernel
theorem dX2_init_1 : decode cX2_init 1 = .ok (.invokespecial 3, 3) := by decide +kernel
theorem dX2_init_4 : decode cX2_init 4 = .ok (.aload_n 0, 1) := by decide +kernel
theorem dX2_init_5 : decode cX2_init 5 = .ok (.bipush 40, 2) := by decide +kernel
theorem dX2_init_7 : decode cX2_init 7 = .ok (.newarray .int, 2) := by decide +kernel
theorem dX2_init_9 : decode cX2_init 9 = .ok (.putfield 9, 3) := by decide +kernel
theorem dX2_init_12 : decode cX2_init 12 = .ok (.aload_n 0, 1) := by decide +kernel
theorem dX2_init_13 : decode cX2_init 13 = .ok (.iconst 0, 1) := by decide +kernel
theorem dX2_init_14 : decode cX2_init 14 = .ok (.putfield 15, 3) := by decide +kernel
theorem dX2_init_17 : decode cX2_init 17 = .ok (.return_, 1) := by decide +kernel
theorem dX2_has_0 : decode cX2_has 0 = .ok (.iload_n 1, 1) := by decide +kernel
theorem dX2_has_1 : decode cX2_has 1 = .ok (.ifCond .lt 15, 3) := by decide +kernel
theorem dX2_has_4 : decode cX2_has 4 = .ok (.iload_n 1, 1) := by decide +kernel
theorem dX2_has_5 : decode cX2_has 5 = .ok (.aload_n 0, 1) := by decide +kernel
theorem dX2_has_6 : decode cX2_has 6 = .ok (.getfield 15, 3) := by decide +kernel
theorem dX2_has_9 : decode cX2_has 9 = .ok (.if_icmp .ge 7, 3) := by decide +kernel
theorem dX2_has_12 : decode cX2_has 12 = .ok (.iconst 1, 1) := by decide +kernel
theorem dX2_has_13 : decode cX2_has 13 = .ok (.goto 4, 3) := by decide +kernel
theorem dX2_has_16 : decode cX2_has 16 = .ok (.iconst 0, 1) := by decide +kernel
theorem dX2_has_17 : decode cX2_has 17 = .ok (.ireturn, 1) := by decide +kernel
set_option maxRecDepth 100000 in
theorem ggX2_read_X5_cell : GoodIn wsX2_read wsX5_cell := goodIn_g _ [5] [0] rfl (by decide +kernel)
set_option maxRecDepth 100000 in
theorem gX2_read_X5_cell_n19 : GoodIn wsX2_read (wsX5_cell) := ggX2_read_X5_cell
theorem dX2_read_0 : decode cX2_read 0 = .ok (.iload_n 1, 1) := by decide +kernel
theorem dX2_read_1 : decode cX2_read 1 = .ok (.ifCond .lt 11, 3) := by decide +kernel
theorem dX2_read_4 : decode cX2_read 4 = .ok (.iload_n 1, 1) := by decide +kernel
theorem dX2_read_5 : decode cX2_read 5 = .ok (.aload_n 0, 1) := by decide +kernel
theorem dX2_read_6 : decode cX2_read 6 = .ok (.getfield 15, 3) := by decide +kernel
theorem dX2_read_9 : decode cX2_read 9 = .ok (.if_icmp .lt 5, 3) := by decide +kernel
theorem dX2_read_12 : decode cX2_read 12 = .ok (.iconst 0, 1) := by decide +kernel
theorem dX2_read_13 : decode cX2_read 13 = .ok (.ireturn, 1) := by decide +kernel
theorem dX2_read_14 : decode cX2_read 14 = .ok (.aload_n 0, 1) := by decide +kernel
theorem dX2_read_15 : decode cX2_read 15 = .ok (.getfield 9, 3) := by decide +kernel
theorem dX2_read_18 : decode cX2_read 18 = .ok (.iload_n 1, 1) := by decide +kernel
theorem dX2_read_19 : decode cX2_read 19 = .ok (.iconst 4, 1) := by decide +kernel
theorem dX2_read_20 : decode cX2_read 20 = .ok (.imul, 1) := by decide +kernel
theorem dX2_read_21 : decode cX2_read 21 = .ok (.iload_n 2, 1) := by decide +kernel
theorem dX2_read_22 : decode cX2_read 22 = .ok (.iadd, 1) := by decide +kernel
theorem dX2_read_23 : decode cX2_read 23 = .ok (.invokestatic 19, 3) := by decide +kernel
theorem dX2_read_26 : decode cX2_read 26 = .ok (.ireturn, 1) := by decide +kernel
set_option maxRecDepth 100000 in
theorem ggX2_write_X2_has : GoodIn wsX2_write wsX2_has := goodIn_g _ [6, 0, 3, 0] [0, 1, 2, 3] rfl (by decide +kernel)
set_option maxRecDepth 100000 in
theorem gX2_write_X2_has : GoodIn wsX2_write (wsV RX2 23 RX2 yX2_has wsX2_has) := goodIn_app (goodIn_of _ (by decide +kernel)) ggX2_write_X2_has
set_option maxRecDepth 100000 in
theorem ggX2_write_X5_mark : GoodIn wsX2_write wsX5_mark := goodIn_g _ [10] [0] rfl (by decide +kernel)
set_option maxRecDepth 100000 in
theorem gX2_write_X5_mark_n27 : GoodIn wsX2_write (wsX5_mark) := ggX2_write_X5_mark
theorem dX2_write_0 : decode cX2_write 0 = .ok (.aload_n 0, 1) := by decide +kernel
theorem dX2_write_1 : decode cX2_write 1 = .ok (.iload_n 1, 1) := by decide +kernel
theorem dX2_write_2 : decode cX2_write 2 = .ok (.invokevirtual 23, 3) := by decide +kernel
theorem dX2_write_5 : decode cX2_write 5 = .ok (.ifCond .eq 16, 3) := by decide +kernel
theorem dX2_write_8 : decode cX2_write 8 = .ok (.aload_n 0, 1) := by decide +kernel
theorem dX2_write_9 : decode cX2_write 9 = .ok (.getfield 9, 3) := by decide +kernel
theorem dX2_write_12 : decode cX2_write 12 = .ok (.iload_n 1, 1) := by decide +kernel
theorem dX2_write_13 : decode cX2_write 13 = .ok (.iconst 4, 1) := by decide +kernel
theorem dX2_write_14 : decode cX2_write 14 = .ok (.imul, 1) := by decide +kernel
theorem dX2_write_15 : decode cX2_write 15 = .ok (.iload_n 2, 1) := by decide +kernel
theorem dX2_write_16 : decode cX2_write 16 = .ok (.iadd, 1) := by decide +kernel
theorem dX2_write_17 : decode cX2_write 17 = .ok (.iload_n 3, 1) := by decide +kernel
theorem dX2_write_18 : decode cX2_write 18 = .ok (.invokestatic 27, 3) := by decide +kernel
theorem dX2_write_21 : decode cX2_write 21 = .ok (.return_, 1) := by decide +kernel
set_option maxRecDepth 100000 in
theorem ggX2_same_X2_read : GoodIn wsX2_same wsX2_read := goodIn_g _ [5, 0, 0, 0, 0, 0, 0, 0] [0, 1, 2, 3, 4, 5, 6, 7] rfl (by decide +kernel)
set_option maxRecDepth 100000 in
theorem gX2_same_X2_read : GoodIn wsX2_same (wsV RX2 31 RX2 yX2_read wsX2_read) := goodIn_app (goodIn_of _ (by decide +kernel)) ggX2_same_X2_read
theorem dX2_same_0 : decode cX2_same 0 = .ok (.iconst 0, 1) := by decide +kernel
theorem dX2_same_1 : decode cX2_same 1 = .ok (.istore_n 3, 1) := by decide +kernel
theorem dX2_same_2 : decode cX2_same 2 = .ok (.iload_n 3, 1) := by decide +kernel
theorem dX2_same_3 : decode cX2_same 3 = .ok (.iconst 4, 1) := by decide +kernel
theorem dX2_same_4 : decode cX2_same 4 = .ok (.if_icmp .ge 26, 3) := by decide +kernel
theorem dX2_same_7 : decode cX2_same 7 = .ok (.aload_n 0, 1) := by decide +kernel
theorem dX2_same_8 : decode cX2_same 8 = .ok (.iload_n 1, 1) := by decide +kernel
theorem dX2_same_9 : decode cX2_same 9 = .ok (.iload_n 3, 1) := by decide +kernel
theorem dX2_same_10 : decode cX2_same 10 = .ok (.invokevirtual 31, 3) := by decide +kernel
theorem dX2_same_13 : decode cX2_same 13 = .ok (.aload_n 0, 1) := by decide +kernel
theorem dX2_same_14 : decode cX2_same 14 = .ok (.iload_n 2, 1) := by decide +kernel
theorem dX2_same_15 : decode cX2_same 15 = .ok (.iload_n 3, 1) := by decide +kernel
theorem dX2_same_16 : decode cX2_same 16 = .ok (.invokevirtual 31, 3) := by decide +kernel
theorem dX2_same_19 : decode cX2_same 19 = .ok (.if_icmp .eq 5, 3) := by decide +kernel
theorem dX2_same_22 : decode cX2_same 22 = .ok (.iconst 0, 1) := by decide +kernel
theorem dX2_same_23 : decode cX2_same 23 = .ok (.ireturn, 1) := by decide +kernel
theorem dX2_same_24 : decode cX2_same 24 = .ok (.iinc 3 1, 3) := by decide +kernel
theorem dX2_same_27 : decode cX2_same 27 = .ok (.goto (-25), 3) := by decide +kernel
theorem dX2_same_30 : decode cX2_same 30 = .ok (.iconst 1, 1) := by decide +kernel
theorem dX2_same_31 : decode cX2_same 31 = .ok (.ireturn, 1) := by decide +kernel
theorem dX2_takeFrom_0 : decode cX2_takeFrom 0 = .ok (.aload_n 1, 1) := by decide +kernel
theorem dX2_takeFrom_1 : decode cX2_takeFrom 1 = .ok (.getfield 9, 3) := by decide +kernel
theorem dX2_takeFrom_4 : decode cX2_takeFrom 4 = .ok (.iconst 0, 1) := by decide +kernel
theorem dX2_takeFrom_5 : decode cX2_takeFrom 5 = .ok (.aload_n 0, 1) := by decide +kernel
theorem dX2_takeFrom_6 : decode cX2_takeFrom 6 = .ok (.getfield 9, 3) := by decide +kernel
theorem dX2_takeFrom_9 : decode cX2_takeFrom 9 = .ok (.iconst 0, 1) := by decide +kernel
theorem dX2_takeFrom_10 : decode cX2_takeFrom 10 = .ok (.aload_n 0, 1) := by decide +kernel
theorem dX2_takeFrom_11 : decode cX2_takeFrom 11 = .ok (.getfield 9, 3) := by decide +kernel
theorem dX2_takeFrom_14 : decode cX2_takeFrom 14 = .ok (.arraylength, 1) := by decide +kernel
theorem dX2_takeFrom_15 : decode cX2_takeFrom 15 = .ok (.aload_n 1, 1) := by decide +kernel
theorem dX2_takeFrom_16 : decode cX2_takeFrom 16 = .ok (.getfield 9, 3) := by decide +kernel
theorem dX2_takeFrom_19 : decode cX2_takeFrom 19 = .ok (.arraylength, 1) := by decide +kernel
theorem dX2_takeFrom_20 : decode cX2_takeFrom 20 = .ok (.invokestatic 35, 3) := by decide +kernel
theorem dX2_takeFrom_23 : decode cX2_takeFrom 23 = .ok (.invokestatic 40, 3) := by decide +kernel
theorem dX2_takeFrom_26 : decode cX2_takeFrom 26 = .ok (.aload_n 0, 1) := by decide +kernel
theorem dX2_takeFrom_27 : decode cX2_takeFrom 27 = .ok (.aload_n 1, 1) := by decide +kernel
theorem dX2_takeFrom_28 : decode cX2_takeFrom 28 = .ok (.getfield 15, 3) := by decide +kernel
theorem dX2_takeFrom_31 : decode cX2_takeFrom 31 = .ok (.putfield 15, 3) := by decide +kernel
theorem dX2_takeFrom_34 : decode cX2_takeFrom 34 = .ok (.return_, 1) := by decide +kernel
theorem dX3_init_0 : decode cX3_init 0 = .ok (.aload_n 0, 1) := by decide +kernel
theorem dX3_init_1 : decode cX3_init 1 = .ok (.invokespecial 3, 3) := by decide +kernel
theorem dX3_init_4 : decode cX3_init 4 = .ok (.aload_n 0, 1) := by decide +kernel
theorem dX3_init_5 : decode cX3_init 5 = .ok (.bipush 40, 2) := by decide +kernel
theorem dX3_init_7 : decode cX3_init 7 = .ok (.newarray .int, 2) := by decide +kernel
theorem dX3_init_9 : decode cX3_init 9 = .ok (.putfield 9, 3) := by decide +kernel
theorem dX3_init_12 : decode cX3_init 12 = .ok (.aload_n 0, 1) := by decide +kernel
theorem dX3_init_13 : decode cX3_init 13 = .ok (.iconst (-1), 1) := by decide +kernel
theorem dX3_init_14 : decode cX3_init 14 = .ok (.putfield 15, 3) := by decide +kernel
theorem dX3_init_17 : decode cX3_init 17 = .ok (.aload_n 0, 1) := by decide +kernel
theorem dX3_init_18 : decode cX3_init 18 = .ok (.iconst 0, 1) := by decide +kernel
theorem dX3_init_19 : decode cX3_init 19 = .ok (.putfield 19, 3) := by decide +kernel
theorem dX3_init_22 : decode cX3_init 22 = .ok (.return_, 1) := by decide +kernel
theorem dX3_isMissing_0 : decode cX3_isMissing 0 = .ok (.aload_n 0, 1) := by decide +kernel
theorem dX3_isMissing_1 : decode cX3_isMissing 1 = .ok (.getfield 15, 3) := by decide +kernel
theorem dX3_isMissing_4 : decode cX3_isMissing 4 = .ok (.iconst (-1), 1) := by decide +kernel
theorem dX3_isMissing_5 : decode cX3_isMissing 5 = .ok (.if_icmp .ne 7, 3) := by decide +kernel
theorem dX3_isMissing_8 : decode cX3_isMissing 8 = .ok (.iconst 1, 1) := by decide +kernel
theorem dX3_isMissing_9 : decode cX3_isMissing 9 = .ok (.goto 4, 3) := by decide +kernel
theorem dX3_isMissing_12 : decode cX3_isMissing 12 = .ok (.iconst 0, 1) := by decide +kernel
theorem dX3_isMissing_13 : decode cX3_isMissing 13 = .ok (.ireturn, 1) := by decide +kernel
theorem dX3_become_0 : decode cX3_become 0 = .ok (.iconst 0, 1) := by decide +kernel
theorem dX3_become_1 : decode cX3_become 1 = .ok (.istore_n 3, 1) := by decide +kernel
theorem dX3_become_2 : decode cX3_become 2 = .ok (.iload_n 3, 1) := by decide +kernel
theorem dX3_become_3 : decode cX3_become 3 = .ok (.aload_n 0, 1) := by decide +kernel
theorem dX3_become_4 : decode cX3_become 4 = .ok (.getfield 9, 3) := by decide +kernel
theorem dX3_become_7 : decode cX3_become 7 = .ok (.arraylength, 1) := by decide +kernel
theorem dX3_become_8 : decode cX3_become 8 = .ok (.if_icmp .ge 16, 3) := by decide +kernel
theorem dX3_become_11 : decode cX3_become 11 = .ok (.aload_n 0, 1) := by decide +kernel
theorem dX3_become_12 : decode cX3_become 12 = .ok (.getfield 9, 3) := by decide +kernel
theorem dX3_become_15 : decode cX3_become 15 = .ok (.iload_n 3, 1) := by decide +kernel
theorem dX3_become_16 : decode cX3_become 16 = .ok (.iconst 0, 1) := by decide +kernel
theorem dX3_become_17 : decode cX3_become 17 = .ok (.iastore, 1) := by decide +kernel
theorem dX3_become_18 : decode cX3_become 18 = .ok (.iinc 3 1, 3) := by decide +kernel
theorem dX3_become_21 : decode cX3_become 21 = .ok (.goto (-19), 3) := by decide +kernel
theorem dX3_become_24 : decode cX3_become 24 = .ok (.aload_n 0, 1) := by decide +kernel
theorem dX3_become_25 : decode cX3_become 25 = .ok (.iload_n 1, 1) := by decide +kernel
theorem dX3_become_26 : decode cX3_become 26 = .ok (.putfield 15, 3) := by decide +kernel
theorem dX3_become_29 : decode cX3_become 29 = .ok (.aload_n 0, 1) := by decide +kernel
theorem dX3_become_30 : decode cX3_become 30 = .ok (.iload_n 2, 1) := by decide +kernel
theorem dX3_become_31 : decode cX3_become 31 = .ok (.aload_n 0, 1) := by decide +kernel
theorem dX3_become_32 : decode cX3_become 32 = .ok (.getfield 9, 3) := by decide +kernel
theorem dX3_become_35 : decode cX3_become 35 = .ok (.arraylength, 1) := by decide +kernel
theorem dX3_become_36 : decode cX3_become 36 = .ok (.invokestatic 22, 3) := by decide +kernel
theorem dX3_become_39 : decode cX3_become 39 = .ok (.putfield 19, 3) := by decide +kernel
theorem dX3_become_42 : decode cX3_become 42 = .ok (.return_, 1) := by decide +kernel
set_option maxRecDepth 100000 in
theorem ggX3_read_X5_cell : GoodIn wsX3_read wsX5_cell := goodIn_g _ [5] [0] rfl (by decide +kernel)
set_option maxRecDepth 100000 in
theorem gX3_read_X5_cell_n28 : GoodIn wsX3_read (wsX5_cell) := ggX3_read_X5_cell
theorem dX3_read_0 : decode cX3_read 0 = .ok (.iload_n 1, 1) := by decide +kernel
theorem dX3_read_1 : decode cX3_read 1 = .ok (.aload_n 0, 1) := by decide +kernel
theorem dX3_read_2 : decode cX3_read 2 = .ok (.getfield 19, 3) := by decide +kernel
theorem dX3_read_5 : decode cX3_read 5 = .ok (.if_icmp .ge 14, 3) := by decide +kernel
theorem dX3_read_8 : decode cX3_read 8 = .ok (.aload_n 0, 1) := by decide +kernel
theorem dX3_read_9 : decode cX3_read 9 = .ok (.getfield 9, 3) := by decide +kernel
theorem dX3_read_12 : decode cX3_read 12 = .ok (.iload_n 1, 1) := by decide +kernel
theorem dX3_read_13 : decode cX3_read 13 = .ok (.invokestatic 28, 3) := by decide +kernel
theorem dX3_read_16 : decode cX3_read 16 = .ok (.goto 4, 3) := by decide +kernel
theorem dX3_read_19 : decode cX3_read 19 = .ok (.iconst 0, 1) := by decide +kernel
theorem dX3_read_20 : decode cX3_read 20 = .ok (.ireturn, 1) := by decide +kernel
set_option maxRecDepth 100000 in
theorem ggX3_write_X5_mark : GoodIn wsX3_write wsX5_mark := goodIn_g _ [6] [0] rfl (by decide +kernel)
set_option maxRecDepth 100000 in
theorem gX3_write_X5_mark_n32 : GoodIn wsX3_write (wsX5_mark) := ggX3_write_X5_mark
theorem dX3_write_0 : decode cX3_write 0 = .ok (.iload_n 1, 1) := by decide +kernel
theorem dX3_write_1 : decode cX3_write 1 = .ok (.aload_n 0, 1) := by decide +kernel
theorem dX3_write_2 : decode cX3_write 2 = .ok (.getfield 19, 3) := by decide +kernel
theorem dX3_write_5 : decode cX3_write 5 = .ok (.if_icmp .ge 24, 3) := by decide +kernel
theorem dX3_write_8 : decode cX3_write 8 = .ok (.aload_n 0, 1) := by decide +kernel
theorem dX3_write_9 : decode cX3_write 9 = .ok (.getfield 9, 3) := by decide +kernel
theorem dX3_write_12 : decode cX3_write 12 = .ok (.iload_n 1, 1) := by decide +kernel
theorem dX3_write_13 : decode cX3_write 13 = .ok (.aload_n 0, 1) := by decide +kernel
theorem dX3_write_14 : decode cX3_write 14 = .ok (.getfield 15, 3) := by decide +kernel
theorem dX3_write_17 : decode cX3_write 17 = .ok (.ifCond .ne 8, 3) := by decide +kernel
theorem dX3_write_20 : decode cX3_write 20 = .ok (.iload_n 2, 1) := by decide +kernel
theorem dX3_write_21 : decode cX3_write 21 = .ok (.i2s, 1) := by decide +kernel
theorem dX3_write_22 : decode cX3_write 22 = .ok (.goto 4, 3) := by decide +kernel
theorem dX3_write_25 : decode cX3_write 25 = .ok (.iload_n 2, 1) := by decide +kernel
theorem dX3_write_26 : decode cX3_write 26 = .ok (.invokestatic 32, 3) := by decide +kernel
theorem dX3_write_29 : decode cX3_write 29 = .ok (.return_, 1) := by decide +kernel
theorem dX4_init_0 : decode cX4_init 0 = .ok (.aload_n 0, 1) := by decide +kernel
theorem dX4_init_1 : decode cX4_init 1 = .ok (.invokespecial 3, 3) := by decide +kernel
theorem dX4_init_4 : decode cX4_init 4 = .ok (.aload_n 0, 1) := by decide +kernel
theorem dX4_init_5 : decode cX4_init 5 = .ok (.bipush 60, 2) := by decide +kernel
theorem dX4_init_7 : decode cX4_init 7 = .ok (.newarray .int, 2) := by decide +kernel
theorem dX4_init_9 : decode cX4_init 9 = .ok (.putfield 9, 3) := by decide +kernel
theorem dX4_init_12 : decode cX4_init 12 = .ok (.aload_n 0, 1) := by decide +kernel
theorem dX4_init_13 : decode cX4_init 13 = .ok (.bipush 12, 2) := by decide +kernel
theorem dX4_init_15 : decode cX4_init 15 = .ok (.newarray .int, 2) := by decide +kernel
theorem dX4_init_17 : decode cX4_init 17 = .ok (.putfield 15, 3) := by decide +kernel
theorem dX4_init_20 : decode cX4_init 20 = .ok (.aload_n 0, 1) := by decide +kernel
theorem dX4_init_21 : decode cX4_init 21 = .ok (.bipush 48, 2) := by decide +kernel
theorem dX4_init_23 : decode cX4_init 23 = .ok (.newarray .int, 2) := by decide +kernel
theorem dX4_init_25 : decode cX4_init 25 = .ok (.putfield 18, 3) := by decide +kernel
theorem dX4_init_28 : decode cX4_init 28 = .ok (.aload_n 0, 1) := by decide +kernel
theorem dX4_init_29 : decode cX4_init 29 = .ok (.iconst 0, 1) := by decide +kernel
theorem dX4_init_30 : decode cX4_init 30 = .ok (.putfield 21, 3) := by decide +kernel
theorem dX4_init_33 : decode cX4_init 33 = .ok (.aload_n 0, 1) := by decide +kernel
theorem dX4_init_34 : decode cX4_init 34 = .ok (.iconst 0, 1) := by decide +kernel
theorem dX4_init_35 : decode cX4_init 35 = .ok (.putfield 25, 3) := by decide +kernel
theorem dX4_init_38 : decode cX4_init 38 = .ok (.aload_n 0, 1) := by decide +kernel
theorem dX4_init_39 : decode cX4_init 39 = .ok (.iconst 0, 1) := by decide +kernel
theorem dX4_init_40 : decode cX4_init 40 = .ok (.putfield 28, 3) := by decide +kernel
theorem dX4_init_43 : decode cX4_init 43 = .ok (.aload_n 0, 1) := by decide +kernel
theorem dX4_init_44 : decode cX4_init 44 = .ok (.iconst 0, 1) := by decide +kernel
theorem dX4_init_45 : decode cX4_init 45 = .ok (.putfield 31, 3) := by decide +kernel
theorem dX4_init_48 : decode cX4_init 48 = .ok (.aload_n 0, 1) := by decide +kernel
theorem dX4_init_49 : decode cX4_init 49 = .ok (.iconst 3, 1) := by decide +kernel
theorem dX4_init_50 : decode cX4_init 50 = .ok (.putfield 34, 3) := by decide +kernel
theorem dX4_init_53 : decode cX4_init 53 = .ok (.aload_n 0, 1) := by decide +kernel
theorem dX4_init_54 : decode cX4_init 54 = .ok (.iconst 0, 1) := by decide +kernel
theorem dX4_init_55 : decode cX4_init 55 = .ok (.putfield 37, 3) := by decide +kernel
theorem dX4_init_58 : decode cX4_init 58 = .ok (.return_, 1) := by decide +kernel
set_option maxRecDepth 100000 in
theorem ggX4_append_X5_mark : GoodIn wsX4_append wsX5_mark := goodIn_g _ [5] [0] rfl (by decide +kernel)
set_option maxRecDepth 100000 in
theorem gX4_append_X5_mark_n40 : GoodIn wsX4_append (wsX5_mark) := ggX4_append_X5_mark
theorem dX4_append_0 : decode cX4_append 0 = .ok (.aload_n 0, 1) := by decide +kernel
theorem dX4_append_1 : decode cX4_append 1 = .ok (.getfield 9, 3) := by decide +kernel
theorem dX4_append_4 : decode cX4_append 4 = .ok (.aload_n 0, 1) := by decide +kernel
theorem dX4_append_5 : decode cX4_append 5 = .ok (.getfield 21, 3) := by decide +kernel
theorem dX4_append_8 : decode cX4_append 8 = .ok (.iload_n 1, 1) := by decide +kernel
theorem dX4_append_9 : decode cX4_append 9 = .ok (.invokestatic 40, 3) := by decide +kernel
theorem dX4_append_12 : decode cX4_append 12 = .ok (.aload_n 0, 1) := by decide +kernel
theorem dX4_append_13 : decode cX4_append 13 = .ok (.dup, 1) := by decide +kernel
theorem dX4_append_14 : decode cX4_append 14 = .ok (.getfield 21, 3) := by decide +kernel
theorem dX4_append_17 : decode cX4_append 17 = .ok (.iconst 1, 1) := by decide +kernel
theorem dX4_append_18 : decode cX4_append 18 = .ok (.iadd, 1) := by decide +kernel
theorem dX4_append_19 : decode cX4_append 19 = .ok (.putfield 21, 3) := by decide +kernel
theorem dX4_append_22 : decode cX4_append 22 = .ok (.return_, 1) := by decide +kernel
set_option maxRecDepth 100000 in
theorem ggX4_wordOf_X5_cell : GoodIn wsX4_wordOf wsX5_cell := goodIn_g _ [4] [0] rfl (by decide +kernel)
set_option maxRecDepth 100000 in
theorem gX4_wordOf_X5_cell_n44 : GoodIn wsX4_wordOf (wsX5_cell) := ggX4_wordOf_X5_cell
theorem dX4_wordOf_0 : decode cX4_wordOf 0 = .ok (.aload_n 0, 1) := by decide +kernel
theorem dX4_wordOf_1 : decode cX4_wordOf 1 = .ok (.getfield 15, 3) := by decide +kernel
theorem dX4_wordOf_4 : decode cX4_wordOf 4 = .ok (.iload_n 1, 1) := by decide +kernel
theorem dX4_wordOf_5 : decode cX4_wordOf 5 = .ok (.invokestatic 44, 3) := by decide +kernel
theorem dX4_wordOf_8 : decode cX4_wordOf 8 = .ok (.ireturn, 1) := by decide +kernel
set_option maxRecDepth 100000 in
theorem ggX4_numberOf_X5_cell : GoodIn wsX4_numberOf wsX5_cell := goodIn_g _ [4] [0] rfl (by decide +kernel)
set_option maxRecDepth 100000 in
theorem gX4_numberOf_X5_cell_n44 : GoodIn wsX4_numberOf (wsX5_cell) := ggX4_numberOf_X5_cell
theorem dX4_numberOf_0 : decode cX4_numberOf 0 = .ok (.aload_n 0, 1) := by decide +kernel
theorem dX4_numberOf_1 : decode cX4_numberOf 1 = .ok (.getfield 18, 3) := by decide +kernel
theorem dX4_numberOf_4 : decode cX4_numberOf 4 = .ok (.iload_n 1, 1) := by decide +kernel
theorem dX4_numberOf_5 : decode cX4_numberOf 5 = .ok (.iconst 4, 1) := by decide +kernel
theorem dX4_numberOf_6 : decode cX4_numberOf 6 = .ok (.imul, 1) := by decide +kernel
theorem dX4_numberOf_7 : decode cX4_numberOf 7 = .ok (.iload_n 2, 1) := by decide +kernel
theorem dX4_numberOf_8 : decode cX4_numberOf 8 = .ok (.iadd, 1) := by decide +kernel
theorem dX4_numberOf_9 : decode cX4_numberOf 9 = .ok (.invokestatic 44, 3) := by decide +kernel
theorem dX4_numberOf_12 : decode cX4_numberOf 12 = .ok (.ireturn, 1) := by decide +kernel
set_option maxRecDepth 100000 in
theorem ggX4_faultOf_X4_readClause : GoodIn wsX4_faultOf wsX4_readClause := goodIn_g _ [1, 0, 0, 0, 3, 0, 0, 0, 0, 0, 0, 0, 0, 0, 0, 0, 0, 0, 0, 0, 0, 0, 0, 0, 0, 0, 0, 0, 0, 0, 0, 0, 0, 0, 0, 0, 0, 0, 0, 0, 0, 0, 0, 0, 0, 0, 0, 0, 0, 0, 0, 0, 0, 0, 0, 0, 0, 0, 0, 0, 0, 0, 0, 0, 0, 0, 0, 0, 0, 0, 0, 0, 0, 0, 0, 0, 0, 0, 0, 0, 0, 0, 0, 0, 0, 0, 0, 0, 0, 0, 0, 0, 0, 0, 0, 0, 0, 0, 0, 0, 0, 0, 0, 0] [5, 3, 6, 7, 1, 8, 9, 10, 11, 4, 12, 0, 13, 14, 2, 15, 16, 17, 18, 19, 20, 21, 22, 23, 24, 25, 26, 27, 28, 29, 30, 31, 32, 33, 34, 35, 36, 37, 38, 39, 40, 41, 42, 43, 44, 45, 46, 47, 48, 49, 50, 51, 52, 53, 54, 55, 56, 57, 58, 59, 60, 61, 62, 63, 64, 65, 66, 67, 68, 69, 70, 71, 72, 73, 74, 75, 76, 77, 78, 79, 80, 81, 82, 83, 84, 85, 86, 87, 88, 89, 90, 91, 92, 93, 94, 95, 96, 97, 98, 99, 100, 101, 102, 103] rfl (by decide +kernel)
set_option maxRecDepth 100000 in
theorem gX4_faultOf_X4_readClause : GoodIn wsX4_faultOf (wsV RX4 48 RX4 yX4_readClause wsX4_readClause) := goodIn_app (goodIn_of _ (by decide +kernel)) ggX4_faultOf_X4_readClause
set_option maxRecDepth 100000 in
theorem ggX4_faultOf_X4_nextToken : GoodIn wsX4_faultOf wsX4_nextToken := goodIn_g _ [1, 1, 0, 3, 1, 5, 0, 0, 0, 0, 0, 0, 0, 0, 0, 0, 0, 0, 0, 0, 0, 0, 0, 0, 0, 0, 0, 0, 0, 0, 0, 0, 0, 0, 0, 0, 0, 0, 0, 0, 0, 0, 0, 0, 0, 0, 0, 0, 0, 0, 0, 0, 0, 0, 0, 0, 0, 0, 0, 0, 0, 0, 0, 0, 0, 0, 0, 0, 0, 0, 0, 0, 0, 0, 0, 0, 0, 0, 0, 0, 0, 0, 0, 0, 0, 0, 2, 0, 0, 0, 0, 0, 0, 0, 0] [5, 0, 6, 7, 1, 2, 8, 9, 10, 11, 12, 3, 13, 14, 15, 16, 17, 18, 19, 20, 21, 22, 4, 23, 24, 25, 26, 27, 28, 29, 30, 31, 32, 33, 34, 35, 36, 37, 38, 39, 40, 41, 42, 43, 44, 45, 46, 47, 48, 49, 50, 51, 52, 53, 54, 55, 56, 57, 58, 59, 60, 61, 62, 63, 64, 65, 66, 67, 68, 69, 70, 71, 72, 73, 74, 75, 76, 77, 78, 79, 80, 81, 82, 83, 84, 85, 86, 87, 88, 89, 90, 91, 92, 93, 94] rfl (by decide +kernel)
set_option maxRecDepth 100000 in
theorem gX4_faultOf_X4_nextToken : GoodIn wsX4_faultOf (wsV RX4 52 RX4 yX4_nextToken wsX4_nextToken) := goodIn_app (goodIn_of _ (by decide +kernel)) ggX4_faultOf_X4_nextToken
theorem dX4_faultOf_0 : decode cX4_faultOf 0 = .ok (.aload_n 0, 1) := by decide +kernel
theorem dX4_faultOf_1 : decode cX4_faultOf 1 = .ok (.iconst 0, 1) := by decide +kernel
theorem dX4_faultOf_2 : decode cX4_faultOf 2 = .ok (.putfield 28, 3) := by decide +kernel
theorem dX4_faultOf_5 : decode cX4_faultOf 5 = .ok (.aload_n 0, 1) := by decide +kernel
theorem dX4_faultOf_6 : decode cX4_faultOf 6 = .ok (.iconst 0, 1) := by decide +kernel
theorem dX4_faultOf_7 : decode cX4_faultOf 7 = .ok (.putfield 25, 3) := by decide +kernel
theorem dX4_faultOf_10 : decode cX4_faultOf 10 = .ok (.iconst 0, 1) := by decide +kernel
theorem dX4_faultOf_11 : decode cX4_faultOf 11 = .ok (.istore_n 1, 1) := by decide +kernel
theorem dX4_faultOf_12 : decode cX4_faultOf 12 = .ok (.iload_n 1, 1) := by decide +kernel
theorem dX4_faultOf_13 : decode cX4_faultOf 13 = .ok (.bipush 60, 2) := by decide +kernel
theorem dX4_faultOf_15 : decode cX4_faultOf 15 = .ok (.if_icmp .ge 48, 3) := by decide +kernel
theorem dX4_faultOf_18 : decode cX4_faultOf 18 = .ok (.aload_n 0, 1) := by decide +kernel
theorem dX4_faultOf_19 : decode cX4_faultOf 19 = .ok (.invokevirtual 48, 3) := by decide +kernel
theorem dX4_faultOf_22 : decode cX4_faultOf 22 = .ok (.ifCond .ne 8, 3) := by decide +kernel
theorem dX4_faultOf_25 : decode cX4_faultOf 25 = .ok (.aload_n 0, 1) := by decide +kernel
theorem dX4_faultOf_26 : decode cX4_faultOf 26 = .ok (.getfield 31, 3) := by decide +kernel
theorem dX4_faultOf_29 : decode cX4_faultOf 29 = .ok (.ireturn, 1) := by decide +kernel
theorem dX4_faultOf_30 : decode cX4_faultOf 30 = .ok (.aload_n 0, 1) := by decide +kernel
theorem dX4_faultOf_31 : decode cX4_faultOf 31 = .ok (.invokevirtual 52, 3) := by decide +kernel
theorem dX4_faultOf_34 : decode cX4_faultOf 34 = .ok (.aload_n 0, 1) := by decide +kernel
theorem dX4_faultOf_35 : decode cX4_faultOf 35 = .ok (.getfield 34, 3) := by decide +kernel
theorem dX4_faultOf_38 : decode cX4_faultOf 38 = .ok (.iconst 3, 1) := by decide +kernel
theorem dX4_faultOf_39 : decode cX4_faultOf 39 = .ok (.if_icmp .ne 5, 3) := by decide +kernel
theorem dX4_faultOf_42 : decode cX4_faultOf 42 = .ok (.iconst (-1), 1) := by decide +kernel
theorem dX4_faultOf_43 : decode cX4_faultOf 43 = .ok (.ireturn, 1) := by decide +kernel
theorem dX4_faultOf_44 : decode cX4_faultOf 44 = .ok (.aload_n 0, 1) := by decide +kernel
theorem dX4_faultOf_45 : decode cX4_faultOf 45 = .ok (.getfield 34, 3) := by decide +kernel
theorem dX4_faultOf_48 : decode cX4_faultOf 48 = .ok (.iconst 2, 1) := by decide +kernel
theorem dX4_faultOf_49 : decode cX4_faultOf 49 = .ok (.if_icmp .eq 8, 3) := by decide +kernel
theorem dX4_faultOf_52 : decode cX4_faultOf 52 = .ok (.aload_n 0, 1) := by decide +kernel
theorem dX4_faultOf_53 : decode cX4_faultOf 53 = .ok (.getfield 31, 3) := by decide +kernel
theorem dX4_faultOf_56 : decode cX4_faultOf 56 = .ok (.ireturn, 1) := by decide +kernel
theorem dX4_faultOf_57 : decode cX4_faultOf 57 = .ok (.iinc 1 1, 3) := by decide +kernel
theorem dX4_faultOf_60 : decode cX4_faultOf 60 = .ok (.goto (-48), 3) := by decide +kernel
theorem dX4_faultOf_63 : decode cX4_faultOf 63 = .ok (.aload_n 0, 1) := by decide +kernel
theorem dX4_faultOf_64 : decode cX4_faultOf 64 = .ok (.getfield 31, 3) := by decide +kernel
theorem dX4_faultOf_67 : decode cX4_faultOf 67 = .ok (.ireturn, 1) := by decide +kernel
set_option maxRecDepth 100000 in
theorem ggX4_readClause_X4_nextToken : GoodIn wsX4_readClause wsX4_nextToken := goodIn_g _ [1, 0, 6, 0, 0, 0, 0, 0, 0, 0, 0, 0, 0, 0, 0, 0, 0, 0, 0, 0, 0, 0, 0, 0, 0, 0, 0, 0, 0, 0, 0, 0, 0, 0, 0, 0, 0, 0, 0, 0, 0, 0, 0, 0, 0, 0, 0, 0, 0, 0, 0, 0, 0, 0, 0, 0, 0, 0, 0, 0, 0, 0, 0, 0, 0, 0, 0, 0, 0, 0, 0, 0, 0, 0, 0, 0, 0, 0, 0, 0, 0, 0, 0, 0, 0, 0, 2, 0, 0, 0, 0, 0, 0, 0, 0] [3, 4, 5, 6, 7, 0, 8, 9, 10, 11, 12, 2, 13, 14, 15, 16, 17, 18, 19, 20, 21, 22, 1, 23, 24, 25, 26, 27, 28, 29, 30, 31, 32, 33, 34, 35, 36, 37, 38, 39, 40, 41, 42, 43, 44, 45, 46, 47, 48, 49, 50, 51, 52, 53, 54, 55, 56, 57, 58, 59, 60, 61, 62, 63, 64, 65, 66, 67, 68, 69, 70, 71, 72, 73, 74, 75, 76, 77, 78, 79, 80, 81, 82, 83, 84, 85, 86, 87, 88, 89, 90, 91, 92, 93, 94] rfl (by decide +kernel)
set_option maxRecDepth 100000 in
theorem gX4_readClause_X4_nextToken : GoodIn wsX4_readClause (wsV RX4 52 RX4 yX4_nextToken wsX4_nextToken) := goodIn_app (goodIn_of _ (by decide +kernel)) ggX4_readClause_X4_nextToken
set_option maxRecDepth 100000 in
theorem ggX4_readClause_X5_mark : GoodIn wsX4_readClause wsX5_mark := goodIn_g _ [94] [0] rfl (by decide +kernel)
set_option maxRecDepth 100000 in
theorem gX4_readClause_X5_mark_n40 : GoodIn wsX4_readClause (wsX5_mark) := ggX4_readClause_X5_mark
set_option maxRecDepth 100000 in
theorem ggX4_readClause_X5_cell : GoodIn wsX4_readClause wsX5_cell := goodIn_g _ [17] [0] rfl (by decide +kernel)
set_option maxRecDepth 100000 in
theorem gX4_readClause_X5_cell_n44 : GoodIn wsX4_readClause (wsX5_cell) := ggX4_readClause_X5_cell
theorem dX4_readClause_0 : decode cX4_readClause 0 = .ok (.aload_n 0, 1) := by decide +kernel
theorem dX4_readClause_1 : decode cX4_readClause 1 = .ok (.invokevirtual 52, 3) := by decide +kernel
theorem dX4_readClause_4 : decode cX4_readClause 4 = .ok (.aload_n 0, 1) := by decide +kernel
theorem dX4_readClause_5 : decode cX4_readClause 5 = .ok (.getfield 34, 3) := by decide +kernel
theorem dX4_readClause_8 : decode cX4_readClause 8 = .ok (.ifCond .eq 5, 3) := by decide +kernel
theorem dX4_readClause_11 : decode cX4_readClause 11 = .ok (.iconst 0, 1) := by decide +kernel
theorem dX4_readClause_12 : decode cX4_readClause 12 = .ok (.ireturn, 1) := by decide +kernel
theorem dX4_readClause_13 : decode cX4_readClause 13 = .ok (.aload_n 0, 1) := by decide +kernel
theorem dX4_readClause_14 : decode cX4_readClause 14 = .ok (.getfield 37, 3) := by decide +kernel
theorem dX4_readClause_17 : decode cX4_readClause 17 = .ok (.istore_n 1, 1) := by decide +kernel
theorem dX4_readClause_18 : decode cX4_readClause 18 = .ok (.aload_n 0, 1) := by decide +kernel
theorem dX4_readClause_19 : decode cX4_readClause 19 = .ok (.getfield 15, 3) := by decide +kernel
theorem dX4_readClause_22 : decode cX4_readClause 22 = .ok (.aload_n 0, 1) := by decide +kernel
theorem dX4_readClause_23 : decode cX4_readClause 23 = .ok (.getfield 25, 3) := by decide +kernel
theorem dX4_readClause_26 : decode cX4_readClause 26 = .ok (.iload_n 1, 1) := by decide +kernel
theorem dX4_readClause_27 : decode cX4_readClause 27 = .ok (.invokestatic 40, 3) := by decide +kernel
theorem dX4_readClause_30 : decode cX4_readClause 30 = .ok (.getstatic 55, 3) := by decide +kernel
theorem dX4_readClause_33 : decode cX4_readClause 33 = .ok (.iload_n 1, 1) := by decide +kernel
theorem dX4_readClause_34 : decode cX4_readClause 34 = .ok (.invokestatic 44, 3) := by decide +kernel
theorem dX4_readClause_37 : decode cX4_readClause 37 = .ok (.istore_n 2, 1) := by decide +kernel
theorem dX4_readClause_38 : decode cX4_readClause 38 = .ok (.iconst 0, 1) := by decide +kernel
theorem dX4_readClause_39 : decode cX4_readClause 39 = .ok (.istore_n 3, 1) := by decide +kernel
theorem dX4_readClause_40 : decode cX4_readClause 40 = .ok (.iload_n 3, 1) := by decide +kernel
theorem dX4_readClause_41 : decode cX4_readClause 41 = .ok (.iload_n 2, 1) := by decide +kernel
theorem dX4_readClause_42 : decode cX4_readClause 42 = .ok (.if_icmp .ge 42, 3) := by decide +kernel
theorem dX4_readClause_45 : decode cX4_readClause 45 = .ok (.aload_n 0, 1) := by decide +kernel
theorem dX4_readClause_46 : decode cX4_readClause 46 = .ok (.invokevirtual 52, 3) := by decide +kernel
theorem dX4_readClause_49 : decode cX4_readClause 49 = .ok (.aload_n 0, 1) := by decide +kernel
theorem dX4_readClause_50 : decode cX4_readClause 50 = .ok (.getfield 34, 3) := by decide +kernel
theorem dX4_readClause_53 : decode cX4_readClause 53 = .ok (.iconst 1, 1) := by decide +kernel
theorem dX4_readClause_54 : decode cX4_readClause 54 = .ok (.if_icmp .eq 5, 3) := by decide +kernel
theorem dX4_readClause_57 : decode cX4_readClause 57 = .ok (.iconst 0, 1) := by decide +kernel
theorem dX4_readClause_58 : decode cX4_readClause 58 = .ok (.ireturn, 1) := by decide +kernel
theorem dX4_readClause_59 : decode cX4_readClause 59 = .ok (.aload_n 0, 1) := by decide +kernel
theorem dX4_readClause_60 : decode cX4_readClause 60 = .ok (.getfield 18, 3) := by decide +kernel
theorem dX4_readClause_63 : decode cX4_readClause 63 = .ok (.aload_n 0, 1) := by decide +kernel
theorem dX4_readClause_64 : decode cX4_readClause 64 = .ok (.getfield 25, 3) := by decide +kernel
theorem dX4_readClause_67 : decode cX4_readClause 67 = .ok (.iconst 4, 1) := by decide +kernel
theorem dX4_readClause_68 : decode cX4_readClause 68 = .ok (.imul, 1) := by decide +kernel
theorem dX4_readClause_69 : decode cX4_readClause 69 = .ok (.iload_n 3, 1) := by decide +kernel
theorem dX4_readClause_70 : decode cX4_readClause 70 = .ok (.iadd, 1) := by decide +kernel
theorem dX4_readClause_71 : decode cX4_readClause 71 = .ok (.aload_n 0, 1) := by decide +kernel
theorem dX4_readClause_72 : decode cX4_readClause 72 = .ok (.getfield 37, 3) := by decide +kernel
theorem dX4_readClause_75 : decode cX4_readClause 75 = .ok (.invokestatic 40, 3) := by decide +kernel
theorem dX4_readClause_78 : decode cX4_readClause 78 = .ok (.iinc 3 1, 3) := by decide +kernel
theorem dX4_readClause_81 : decode cX4_readClause 81 = .ok (.goto (-41), 3) := by decide +kernel
theorem dX4_readClause_84 : decode cX4_readClause 84 = .ok (.aload_n 0, 1) := by decide +kernel
theorem dX4_readClause_85 : decode cX4_readClause 85 = .ok (.dup, 1) := by decide +kernel
theorem dX4_readClause_86 : decode cX4_readClause 86 = .ok (.getfield 25, 3) := by decide +kernel
theorem dX4_readClause_89 : decode cX4_readClause 89 = .ok (.iconst 1, 1) := by decide +kernel
theorem dX4_readClause_90 : decode cX4_readClause 90 = .ok (.iadd, 1) := by decide +kernel
theorem dX4_readClause_91 : decode cX4_readClause 91 = .ok (.putfield 25, 3) := by decide +kernel
theorem dX4_readClause_94 : decode cX4_readClause 94 = .ok (.iconst 1, 1) := by decide +kernel
theorem dX4_readClause_95 : decode cX4_readClause 95 = .ok (.ireturn, 1) := by decide +kernel
set_option maxRecDepth 100000 in
theorem ggX4_nextToken_X5_cell : GoodIn wsX4_nextToken wsX5_cell := goodIn_g _ [8] [0] rfl (by decide +kernel)
set_option maxRecDepth 100000 in
theorem gX4_nextToken_X5_cell_n44 : GoodIn wsX4_nextToken (wsX5_cell) := ggX4_nextToken_X5_cell
set_option maxRecDepth 100000 in
theorem ggX4_nextToken_X4_isBlank : GoodIn wsX4_nextToken wsX4_isBlank := goodIn_g _ [12] [0] rfl (by decide +kernel)
set_option maxRecDepth 100000 in
theorem gX4_nextToken_X4_isBlank : GoodIn wsX4_nextToken (va_wsS RX4 58 yX4_isBlank wsX4_isBlank) := goodIn_app (goodIn_of _ (by decide +kernel)) ggX4_nextToken_X4_isBlank
set_option maxRecDepth 100000 in
theorem ggX4_nextToken_X4_isLetter : GoodIn wsX4_nextToken wsX4_isLetter := goodIn_g _ [7, 7, 0, 0] [1, 2, 0, 3] rfl (by decide +kernel)
set_option maxRecDepth 100000 in
theorem gX4_nextToken_X4_isLetter : GoodIn wsX4_nextToken (va_wsS RX4 62 yX4_isLetter wsX4_isLetter) := goodIn_app (goodIn_of _ (by decide +kernel)) ggX4_nextToken_X4_isLetter
set_option maxRecDepth 100000 in
theorem ggX4_nextToken_X4_readWord : GoodIn wsX4_nextToken wsX4_readWord := goodIn_g _ [1, 0, 0, 0, 0, 0, 0, 0, 2, 1, 0, 0, 0, 0, 3, 0, 0, 0, 0, 0, 0, 0, 0, 0, 0, 0, 0, 0, 0, 0, 0, 0, 0, 0, 0, 0, 0, 0, 0, 0, 0, 0, 0, 0, 0, 0, 0, 0, 0, 0, 0, 0, 0, 0, 0, 0, 0, 0, 0, 0, 0, 0, 0, 0, 0, 0, 0, 0, 0, 0, 0, 0, 7, 0, 0, 0, 0, 0, 0, 0, 0] [14, 0, 1, 2, 4, 15, 5, 6, 7, 9, 10, 8, 11, 12, 13, 16, 17, 18, 19, 20, 21, 22, 3, 23, 24, 25, 26, 27, 28, 29, 30, 31, 32, 33, 34, 35, 36, 37, 38, 39, 40, 41, 42, 43, 44, 45, 46, 47, 48, 49, 50, 51, 52, 53, 54, 55, 56, 57, 58, 59, 60, 61, 62, 63, 64, 65, 66, 67, 68, 69, 70, 71, 72, 73, 74, 75, 76, 77, 78, 79, 80] rfl (by decide +kernel)
set_option maxRecDepth 100000 in
theorem gX4_nextToken_X4_readWord : GoodIn wsX4_nextToken (wsV RX4 65 RX4 yX4_readWord wsX4_readWord) := goodIn_app (goodIn_of _ (by decide +kernel)) ggX4_nextToken_X4_readWord
set_option maxRecDepth 100000 in
theorem ggX4_nextToken_X4_isDigit : GoodIn wsX4_nextToken wsX4_isDigit := goodIn_g _ [7, 8, 0, 63] [3, 1, 0, 2] rfl (by decide +kernel)
set_option maxRecDepth 100000 in
theorem gX4_nextToken_X4_isDigit : GoodIn wsX4_nextToken (va_wsS RX4 68 yX4_isDigit wsX4_isDigit) := goodIn_app (goodIn_of _ (by decide +kernel)) ggX4_nextToken_X4_isDigit
set_option maxRecDepth 100000 in
theorem ggX4_nextToken_X4_readNumber : GoodIn wsX4_nextToken wsX4_readNumber := goodIn_g _ [1, 0, 0, 1, 0, 0, 0, 2, 4, 0, 4, 56, 0, 0, 3, 0, 0, 0, 0, 0, 0, 0, 0, 0] [14, 2, 0, 1, 3, 10, 4, 5, 6, 11, 12, 7, 13, 8, 9, 15, 16, 17, 18, 19, 20, 21, 22, 23] rfl (by decide +kernel)
set_option maxRecDepth 100000 in
theorem gX4_nextToken_X4_readNumber : GoodIn wsX4_nextToken (wsV RX4 71 RX4 yX4_readNumber wsX4_readNumber) := goodIn_app (goodIn_of _ (by decide +kernel)) ggX4_nextToken_X4_readNumber
theorem dX4_nextToken_0 : decode cX4_nextToken 0 = .ok (.aload_n 0, 1) := by decide +kernel
theorem dX4_nextToken_1 : decode cX4_nextToken 1 = .ok (.getfield 28, 3) := by decide +kernel
theorem dX4_nextToken_4 : decode cX4_nextToken 4 = .ok (.aload_n 0, 1) := by decide +kernel
theorem dX4_nextToken_5 : decode cX4_nextToken 5 = .ok (.getfield 21, 3) := by decide +kernel
theorem dX4_nextToken_8 : decode cX4_nextToken 8 = .ok (.if_icmp .ge 33, 3) := by decide +kernel
theorem dX4_nextToken_11 : decode cX4_nextToken 11 = .ok (.aload_n 0, 1) := by decide +kernel
theorem dX4_nextToken_12 : decode cX4_nextToken 12 = .ok (.getfield 9, 3) := by decide +kernel
theorem dX4_nextToken_15 : decode cX4_nextToken 15 = .ok (.aload_n 0, 1) := by decide +kernel
theorem dX4_nextToken_16 : decode cX4_nextToken 16 = .ok (.getfield 28, 3) := by decide +kernel
theorem dX4_nextToken_19 : decode cX4_nextToken 19 = .ok (.invokestatic 44, 3) := by decide +kernel
theorem dX4_nextToken_22 : decode cX4_nextToken 22 = .ok (.invokestatic 58, 3) := by decide +kernel
theorem dX4_nextToken_25 : decode cX4_nextToken 25 = .ok (.ifCond .eq 16, 3) := by decide +kernel
theorem dX4_nextToken_28 : decode cX4_nextToken 28 = .ok (.aload_n 0, 1) := by decide +kernel
theorem dX4_nextToken_29 : decode cX4_nextToken 29 = .ok (.dup, 1) := by decide +kernel
theorem dX4_nextToken_30 : decode cX4_nextToken 30 = .ok (.getfield 28, 3) := by decide +kernel
theorem dX4_nextToken_33 : decode cX4_nextToken 33 = .ok (.iconst 1, 1) := by decide +kernel
theorem dX4_nextToken_34 : decode cX4_nextToken 34 = .ok (.iadd, 1) := by decide +kernel
theorem dX4_nextToken_35 : decode cX4_nextToken 35 = .ok (.putfield 28, 3) := by decide +kernel
theorem dX4_nextToken_38 : decode cX4_nextToken 38 = .ok (.goto (-38), 3) := by decide +kernel
theorem dX4_nextToken_41 : decode cX4_nextToken 41 = .ok (.aload_n 0, 1) := by decide +kernel
theorem dX4_nextToken_42 : decode cX4_nextToken 42 = .ok (.aload_n 0, 1) := by decide +kernel
theorem dX4_nextToken_43 : decode cX4_nextToken 43 = .ok (.getfield 28, 3) := by decide +kernel
theorem dX4_nextToken_46 : decode cX4_nextToken 46 = .ok (.putfield 31, 3) := by decide +kernel
theorem dX4_nextToken_49 : decode cX4_nextToken 49 = .ok (.aload_n 0, 1) := by decide +kernel
theorem dX4_nextToken_50 : decode cX4_nextToken 50 = .ok (.getfield 28, 3) := by decide +kernel
theorem dX4_nextToken_53 : decode cX4_nextToken 53 = .ok (.aload_n 0, 1) := by decide +kernel
theorem dX4_nextToken_54 : decode cX4_nextToken 54 = .ok (.getfield 21, 3) := by decide +kernel
theorem dX4_nextToken_57 : decode cX4_nextToken 57 = .ok (.if_icmp .lt 9, 3) := by decide +kernel
theorem dX4_nextToken_60 : decode cX4_nextToken 60 = .ok (.aload_n 0, 1) := by decide +kernel
theorem dX4_nextToken_61 : decode cX4_nextToken 61 = .ok (.iconst 3, 1) := by decide +kernel
theorem dX4_nextToken_62 : decode cX4_nextToken 62 = .ok (.putfield 34, 3) := by decide +kernel
theorem dX4_nextToken_65 : decode cX4_nextToken 65 = .ok (.return_, 1) := by decide +kernel
theorem dX4_nextToken_66 : decode cX4_nextToken 66 = .ok (.aload_n 0, 1) := by decide +kernel
theorem dX4_nextToken_67 : decode cX4_nextToken 67 = .ok (.getfield 9, 3) := by decide +kernel
theorem dX4_nextToken_70 : decode cX4_nextToken 70 = .ok (.aload_n 0, 1) := by decide +kernel
theorem dX4_nextToken_71 : decode cX4_nextToken 71 = .ok (.getfield 28, 3) := by decide +kernel
theorem dX4_nextToken_74 : decode cX4_nextToken 74 = .ok (.invokestatic 44, 3) := by decide +kernel
theorem dX4_nextToken_77 : decode cX4_nextToken 77 = .ok (.istore_n 1, 1) := by decide +kernel
theorem dX4_nextToken_78 : decode cX4_nextToken 78 = .ok (.iload_n 1, 1) := by decide +kernel
theorem dX4_nextToken_79 : decode cX4_nextToken 79 = .ok (.invokestatic 62, 3) := by decide +kernel
theorem dX4_nextToken_82 : decode cX4_nextToken 82 = .ok (.ifCond .eq 10, 3) := by decide +kernel
theorem dX4_nextToken_85 : decode cX4_nextToken 85 = .ok (.aload_n 0, 1) := by decide +kernel
theorem dX4_nextToken_86 : decode cX4_nextToken 86 = .ok (.invokevirtual 65, 3) := by decide +kernel
theorem dX4_nextToken_89 : decode cX4_nextToken 89 = .ok (.goto 48, 3) := by decide +kernel
theorem dX4_nextToken_92 : decode cX4_nextToken 92 = .ok (.iload_n 1, 1) := by decide +kernel
theorem dX4_nextToken_93 : decode cX4_nextToken 93 = .ok (.bipush 45, 2) := by decide +kernel
theorem dX4_nextToken_95 : decode cX4_nextToken 95 = .ok (.if_icmp .eq 10, 3) := by decide +kernel
theorem dX4_nextToken_98 : decode cX4_nextToken 98 = .ok (.iload_n 1, 1) := by decide +kernel
theorem dX4_nextToken_99 : decode cX4_nextToken 99 = .ok (.invokestatic 68, 3) := by decide +kernel
theorem dX4_nextToken_102 : decode cX4_nextToken 102 = .ok (.ifCond .eq 10, 3) := by decide +kernel
theorem dX4_nextToken_105 : decode cX4_nextToken 105 = .ok (.aload_n 0, 1) := by decide +kernel
theorem dX4_nextToken_106 : decode cX4_nextToken 106 = .ok (.invokevirtual 71, 3) := by decide +kernel
theorem dX4_nextToken_109 : decode cX4_nextToken 109 = .ok (.goto 28, 3) := by decide +kernel
theorem dX4_nextToken_112 : decode cX4_nextToken 112 = .ok (.aload_n 0, 1) := by decide +kernel
theorem dX4_nextToken_113 : decode cX4_nextToken 113 = .ok (.iload_n 1, 1) := by decide +kernel
theorem dX4_nextToken_114 : decode cX4_nextToken 114 = .ok (.bipush 59, 2) := by decide +kernel
theorem dX4_nextToken_116 : decode cX4_nextToken 116 = .ok (.if_icmp .ne 7, 3) := by decide +kernel
theorem dX4_nextToken_119 : decode cX4_nextToken 119 = .ok (.iconst 2, 1) := by decide +kernel
theorem dX4_nextToken_120 : decode cX4_nextToken 120 = .ok (.goto 4, 3) := by decide +kernel
theorem dX4_nextToken_123 : decode cX4_nextToken 123 = .ok (.iconst 4, 1) := by decide +kernel
theorem dX4_nextToken_124 : decode cX4_nextToken 124 = .ok (.putfield 34, 3) := by decide +kernel
theorem dX4_nextToken_127 : decode cX4_nextToken 127 = .ok (.aload_n 0, 1) := by decide +kernel
theorem dX4_nextToken_128 : decode cX4_nextToken 128 = .ok (.dup, 1) := by decide +kernel
theorem dX4_nextToken_129 : decode cX4_nextToken 129 = .ok (.getfield 28, 3) := by decide +kernel
theorem dX4_nextToken_132 : decode cX4_nextToken 132 = .ok (.iconst 1, 1) := by decide +kernel
theorem dX4_nextToken_133 : decode cX4_nextToken 133 = .ok (.iadd, 1) := by decide +kernel
theorem dX4_nextToken_134 : decode cX4_nextToken 134 = .ok (.putfield 28, 3) := by decide +kernel
theorem dX4_nextToken_137 : decode cX4_nextToken 137 = .ok (.return_, 1) := by decide +kernel
set_option maxRecDepth 100000 in
theorem ggX4_readWord_X5_cell : GoodIn wsX4_readWord wsX5_cell := goodIn_g _ [8] [0] rfl (by decide +kernel)
set_option maxRecDepth 100000 in
theorem gX4_readWord_X5_cell_n44 : GoodIn wsX4_readWord (wsX5_cell) := ggX4_readWord_X5_cell
set_option maxRecDepth 100000 in
theorem ggX4_readWord_X4_isLetter : GoodIn wsX4_readWord wsX4_isLetter := goodIn_g _ [7, 4, 0, 0] [1, 2, 0, 3] rfl (by decide +kernel)
set_option maxRecDepth 100000 in
theorem gX4_readWord_X4_isLetter : GoodIn wsX4_readWord (va_wsS RX4 62 yX4_isLetter wsX4_isLetter) := goodIn_app (goodIn_of _ (by decide +kernel)) ggX4_readWord_X4_isLetter
set_option maxRecDepth 100000 in
theorem ggX4_readWord_X4_nameOf : GoodIn wsX4_readWord wsX4_nameOf := goodIn_g _ [17] [0] rfl (by decide +kernel)
set_option maxRecDepth 100000 in
theorem gX4_readWord_X4_nameOf : GoodIn wsX4_readWord (va_wsS RX4 74 yX4_nameOf wsX4_nameOf) := goodIn_app (goodIn_of _ (by decide +kernel)) ggX4_readWord_X4_nameOf
set_option maxRecDepth 100000 in
theorem ggX4_readWord_X4_spells : GoodIn wsX4_readWord wsX4_spells := goodIn_g _ [1, 1, 2, 0, 0, 12, 0, 0, 0, 0, 0, 0, 0, 0, 0, 0, 0, 0, 0, 0, 0, 0, 0, 0, 0, 0, 0, 0, 0, 0, 0, 0, 0, 0, 0, 0, 0, 0, 0, 0, 0, 0, 0, 0, 0, 0, 0, 0, 0, 0, 0, 0, 0, 0, 0, 0, 0, 0, 0, 0, 0, 0, 0, 0, 0] [5, 0, 6, 1, 7, 8, 9, 10, 11, 12, 13, 14, 15, 16, 17, 18, 2, 3, 4, 19, 20, 21, 22, 23, 24, 25, 26, 27, 28, 29, 30, 31, 32, 33, 34, 35, 36, 37, 38, 39, 40, 41, 42, 43, 44, 45, 46, 47, 48, 49, 50, 51, 52, 53, 54, 55, 56, 57, 58, 59, 60, 61, 62, 63, 64] rfl (by decide +kernel)
set_option maxRecDepth 100000 in
theorem gX4_readWord_X4_spells : GoodIn wsX4_readWord (wsV RX4 78 RX4 yX4_spells wsX4_spells) := goodIn_app (goodIn_of _ (by decide +kernel)) ggX4_readWord_X4_spells
theorem dX4_readWord_0 : decode cX4_readWord 0 = .ok (.aload_n 0, 1) := by decide +kernel
theorem dX4_readWord_1 : decode cX4_readWord 1 = .ok (.getfield 28, 3) := by decide +kernel
theorem dX4_readWord_4 : decode cX4_readWord 4 = .ok (.aload_n 0, 1) := by decide +kernel
theorem dX4_readWord_5 : decode cX4_readWord 5 = .ok (.getfield 21, 3) := by decide +kernel
theorem dX4_readWord_8 : decode cX4_readWord 8 = .ok (.if_icmp .ge 33, 3) := by decide +kernel
theorem dX4_readWord_11 : decode cX4_readWord 11 = .ok (.aload_n 0, 1) := by decide +kernel
theorem dX4_readWord_12 : decode cX4_readWord 12 = .ok (.getfield 9, 3) := by decide +kernel
theorem dX4_readWord_15 : decode cX4_readWord 15 = .ok (.aload_n 0, 1) := by decide +kernel
theorem dX4_readWord_16 : decode cX4_readWord 16 = .ok (.getfield 28, 3) := by decide +kernel
theorem dX4_readWord_19 : decode cX4_readWord 19 = .ok (.invokestatic 44, 3) := by decide +kernel
theorem dX4_readWord_22 : decode cX4_readWord 22 = .ok (.invokestatic 62, 3) := by decide +kernel
theorem dX4_readWord_25 : decode cX4_readWord 25 = .ok (.ifCond .eq 16, 3) := by decide +kernel
theorem dX4_readWord_28 : decode cX4_readWord 28 = .ok (.aload_n 0, 1) := by decide +kernel
theorem dX4_readWord_29 : decode cX4_readWord 29 = .ok (.dup, 1) := by decide +kernel
theorem dX4_readWord_30 : decode cX4_readWord 30 = .ok (.getfield 28, 3) := by decide +kernel
theorem dX4_readWord_33 : decode cX4_readWord 33 = .ok (.iconst 1, 1) := by decide +kernel
theorem dX4_readWord_34 : decode cX4_readWord 34 = .ok (.iadd, 1) := by decide +kernel
theorem dX4_readWord_35 : decode cX4_readWord 35 = .ok (.putfield 28, 3) := by decide +kernel
theorem dX4_readWord_38 : decode cX4_readWord 38 = .ok (.goto (-38), 3) := by decide +kernel
theorem dX4_readWord_41 : decode cX4_readWord 41 = .ok (.aload_n 0, 1) := by decide +kernel
theorem dX4_readWord_42 : decode cX4_readWord 42 = .ok (.iconst 4, 1) := by decide +kernel
theorem dX4_readWord_43 : decode cX4_readWord 43 = .ok (.putfield 34, 3) := by decide +kernel
theorem dX4_readWord_46 : decode cX4_readWord 46 = .ok (.iconst 0, 1) := by decide +kernel
theorem dX4_readWord_47 : decode cX4_readWord 47 = .ok (.istore_n 1, 1) := by decide +kernel
theorem dX4_readWord_48 : decode cX4_readWord 48 = .ok (.iload_n 1, 1) := by decide +kernel
theorem dX4_readWord_49 : decode cX4_readWord 49 = .ok (.getstatic 55, 3) := by decide +kernel
theorem dX4_readWord_52 : decode cX4_readWord 52 = .ok (.arraylength, 1) := by decide +kernel
theorem dX4_readWord_53 : decode cX4_readWord 53 = .ok (.if_icmp .ge 30, 3) := by decide +kernel
theorem dX4_readWord_56 : decode cX4_readWord 56 = .ok (.aload_n 0, 1) := by decide +kernel
theorem dX4_readWord_57 : decode cX4_readWord 57 = .ok (.iload_n 1, 1) := by decide +kernel
theorem dX4_readWord_58 : decode cX4_readWord 58 = .ok (.invokestatic 74, 3) := by decide +kernel
theorem dX4_readWord_61 : decode cX4_readWord 61 = .ok (.invokevirtual 78, 3) := by decide +kernel
theorem dX4_readWord_64 : decode cX4_readWord 64 = .ok (.ifCond .eq 13, 3) := by decide +kernel
theorem dX4_readWord_67 : decode cX4_readWord 67 = .ok (.aload_n 0, 1) := by decide +kernel
theorem dX4_readWord_68 : decode cX4_readWord 68 = .ok (.iconst 0, 1) := by decide +kernel
theorem dX4_readWord_69 : decode cX4_readWord 69 = .ok (.putfield 34, 3) := by decide +kernel
theorem dX4_readWord_72 : decode cX4_readWord 72 = .ok (.aload_n 0, 1) := by decide +kernel
theorem dX4_readWord_73 : decode cX4_readWord 73 = .ok (.iload_n 1, 1) := by decide +kernel
theorem dX4_readWord_74 : decode cX4_readWord 74 = .ok (.putfield 37, 3) := by decide +kernel
theorem dX4_readWord_77 : decode cX4_readWord 77 = .ok (.iinc 1 1, 3) := by decide +kernel
theorem dX4_readWord_80 : decode cX4_readWord 80 = .ok (.goto (-32), 3) := by decide +kernel
theorem dX4_readWord_83 : decode cX4_readWord 83 = .ok (.return_, 1) := by decide +kernel
set_option maxRecDepth 100000 in
theorem ggX4_readNumber_X5_cell : GoodIn wsX4_readNumber wsX5_cell := goodIn_g _ [8] [0] rfl (by decide +kernel)
set_option maxRecDepth 100000 in
theorem gX4_readNumber_X5_cell_n44 : GoodIn wsX4_readNumber (wsX5_cell) := ggX4_readNumber_X5_cell
set_option maxRecDepth 100000 in
theorem ggX4_readNumber_X4_isDigit : GoodIn wsX4_readNumber wsX4_isDigit := goodIn_g _ [7, 4, 0, 0] [1, 2, 0, 3] rfl (by decide +kernel)
set_option maxRecDepth 100000 in
theorem gX4_readNumber_X4_isDigit : GoodIn wsX4_readNumber (va_wsS RX4 68 yX4_isDigit wsX4_isDigit) := goodIn_app (goodIn_of _ (by decide +kernel)) ggX4_readNumber_X4_isDigit
set_option maxRecDepth 100000 in
theorem ggX4_readNumber_X5_within : GoodIn wsX4_readNumber wsX5_within := goodIn_g _ [14] [0] rfl (by decide +kernel)
set_option maxRecDepth 100000 in
theorem gX4_readNumber_X5_within_n82 : GoodIn wsX4_readNumber (wsX5_within) := ggX4_readNumber_X5_within
theorem dX4_readNumber_0 : decode cX4_readNumber 0 = .ok (.aload_n 0, 1) := by decide +kernel
theorem dX4_readNumber_1 : decode cX4_readNumber 1 = .ok (.getfield 9, 3) := by decide +kernel
theorem dX4_readNumber_4 : decode cX4_readNumber 4 = .ok (.aload_n 0, 1) := by decide +kernel
theorem dX4_readNumber_5 : decode cX4_readNumber 5 = .ok (.getfield 28, 3) := by decide +kernel
theorem dX4_readNumber_8 : decode cX4_readNumber 8 = .ok (.invokestatic 44, 3) := by decide +kernel
theorem dX4_readNumber_11 : decode cX4_readNumber 11 = .ok (.bipush 45, 2) := by decide +kernel
theorem dX4_readNumber_13 : decode cX4_readNumber 13 = .ok (.if_icmp .ne 7, 3) := by decide +kernel
theorem dX4_readNumber_16 : decode cX4_readNumber 16 = .ok (.iconst 1, 1) := by decide +kernel
theorem dX4_readNumber_17 : decode cX4_readNumber 17 = .ok (.goto 4, 3) := by decide +kernel
theorem dX4_readNumber_20 : decode cX4_readNumber 20 = .ok (.iconst 0, 1) := by decide +kernel
theorem dX4_readNumber_21 : decode cX4_readNumber 21 = .ok (.istore_n 1, 1) := by decide +kernel
theorem dX4_readNumber_22 : decode cX4_readNumber 22 = .ok (.iload_n 1, 1) := by decide +kernel
theorem dX4_readNumber_23 : decode cX4_readNumber 23 = .ok (.ifCond .eq 13, 3) := by decide +kernel
theorem dX4_readNumber_26 : decode cX4_readNumber 26 = .ok (.aload_n 0, 1) := by decide +kernel
theorem dX4_readNumber_27 : decode cX4_readNumber 27 = .ok (.dup, 1) := by decide +kernel
theorem dX4_readNumber_28 : decode cX4_readNumber 28 = .ok (.getfield 28, 3) := by decide +kernel
theorem dX4_readNumber_31 : decode cX4_readNumber 31 = .ok (.iconst 1, 1) := by decide +kernel
theorem dX4_readNumber_32 : decode cX4_readNumber 32 = .ok (.iadd, 1) := by decide +kernel
theorem dX4_readNumber_33 : decode cX4_readNumber 33 = .ok (.putfield 28, 3) := by decide +kernel
theorem dX4_readNumber_36 : decode cX4_readNumber 36 = .ok (.aload_n 0, 1) := by decide +kernel
theorem dX4_readNumber_37 : decode cX4_readNumber 37 = .ok (.getfield 28, 3) := by decide +kernel
theorem dX4_readNumber_40 : decode cX4_readNumber 40 = .ok (.istore_n 2, 1) := by decide +kernel
theorem dX4_readNumber_41 : decode cX4_readNumber 41 = .ok (.iconst 0, 1) := by decide +kernel
theorem dX4_readNumber_42 : decode cX4_readNumber 42 = .ok (.istore_n 3, 1) := by decide +kernel
theorem dX4_readNumber_43 : decode cX4_readNumber 43 = .ok (.aload_n 0, 1) := by decide +kernel
theorem dX4_readNumber_44 : decode cX4_readNumber 44 = .ok (.getfield 28, 3) := by decide +kernel
theorem dX4_readNumber_47 : decode cX4_readNumber 47 = .ok (.aload_n 0, 1) := by decide +kernel
theorem dX4_readNumber_48 : decode cX4_readNumber 48 = .ok (.getfield 21, 3) := by decide +kernel
theorem dX4_readNumber_51 : decode cX4_readNumber 51 = .ok (.if_icmp .ge 53, 3) := by decide +kernel
theorem dX4_readNumber_54 : decode cX4_readNumber 54 = .ok (.aload_n 0, 1) := by decide +kernel
theorem dX4_readNumber_55 : decode cX4_readNumber 55 = .ok (.getfield 9, 3) := by decide +kernel
theorem dX4_readNumber_58 : decode cX4_readNumber 58 = .ok (.aload_n 0, 1) := by decide +kernel
theorem dX4_readNumber_59 : decode cX4_readNumber 59 = .ok (.getfield 28, 3) := by decide +kernel
theorem dX4_readNumber_62 : decode cX4_readNumber 62 = .ok (.invokestatic 44, 3) := by decide +kernel
theorem dX4_readNumber_65 : decode cX4_readNumber 65 = .ok (.invokestatic 68, 3) := by decide +kernel
theorem dX4_readNumber_68 : decode cX4_readNumber 68 = .ok (.ifCond .eq 36, 3) := by decide +kernel
theorem dX4_readNumber_71 : decode cX4_readNumber 71 = .ok (.iload_n 3, 1) := by decide +kernel
theorem dX4_readNumber_72 : decode cX4_readNumber 72 = .ok (.bipush 10, 2) := by decide +kernel
theorem dX4_readNumber_74 : decode cX4_readNumber 74 = .ok (.imul, 1) := by decide +kernel
theorem dX4_readNumber_75 : decode cX4_readNumber 75 = .ok (.aload_n 0, 1) := by decide +kernel
theorem dX4_readNumber_76 : decode cX4_readNumber 76 = .ok (.getfield 9, 3) := by decide +kernel
theorem dX4_readNumber_79 : decode cX4_readNumber 79 = .ok (.aload_n 0, 1) := by decide +kernel
theorem dX4_readNumber_80 : decode cX4_readNumber 80 = .ok (.getfield 28, 3) := by decide +kernel
theorem dX4_readNumber_83 : decode cX4_readNumber 83 = .ok (.invokestatic 44, 3) := by decide +kernel
theorem dX4_readNumber_86 : decode cX4_readNumber 86 = .ok (.iadd, 1) := by decide +kernel
theorem dX4_readNumber_87 : decode cX4_readNumber 87 = .ok (.bipush 48, 2) := by decide +kernel
theorem dX4_readNumber_89 : decode cX4_readNumber 89 = .ok (.isub, 1) := by decide +kernel
theorem dX4_readNumber_90 : decode cX4_readNumber 90 = .ok (.istore_n 3, 1) := by decide +kernel
theorem dX4_readNumber_91 : decode cX4_readNumber 91 = .ok (.aload_n 0, 1) := by decide +kernel
theorem dX4_readNumber_92 : decode cX4_readNumber 92 = .ok (.dup, 1) := by decide +kernel
theorem dX4_readNumber_93 : decode cX4_readNumber 93 = .ok (.getfield 28, 3) := by decide +kernel
theorem dX4_readNumber_96 : decode cX4_readNumber 96 = .ok (.iconst 1, 1) := by decide +kernel
theorem dX4_readNumber_97 : decode cX4_readNumber 97 = .ok (.iadd, 1) := by decide +kernel
theorem dX4_readNumber_98 : decode cX4_readNumber 98 = .ok (.putfield 28, 3) := by decide +kernel
theorem dX4_readNumber_101 : decode cX4_readNumber 101 = .ok (.goto (-58), 3) := by decide +kernel
theorem dX4_readNumber_104 : decode cX4_readNumber 104 = .ok (.aload_n 0, 1) := by decide +kernel
theorem dX4_readNumber_105 : decode cX4_readNumber 105 = .ok (.getfield 28, 3) := by decide +kernel
theorem dX4_readNumber_108 : decode cX4_readNumber 108 = .ok (.iload_n 2, 1) := by decide +kernel
theorem dX4_readNumber_109 : decode cX4_readNumber 109 = .ok (.isub, 1) := by decide +kernel
theorem dX4_readNumber_110 : decode cX4_readNumber 110 = .ok (.istore 4, 2) := by decide +kernel
theorem dX4_readNumber_112 : decode cX4_readNumber 112 = .ok (.aload_n 0, 1) := by decide +kernel
theorem dX4_readNumber_113 : decode cX4_readNumber 113 = .ok (.iload 4, 2) := by decide +kernel
theorem dX4_readNumber_115 : decode cX4_readNumber 115 = .ok (.iconst 1, 1) := by decide +kernel
theorem dX4_readNumber_116 : decode cX4_readNumber 116 = .ok (.iconst 3, 1) := by decide +kernel
theorem dX4_readNumber_117 : decode cX4_readNumber 117 = .ok (.invokestatic 82, 3) := by decide +kernel
theorem dX4_readNumber_120 : decode cX4_readNumber 120 = .ok (.ifCond .eq 7, 3) := by decide +kernel
theorem dX4_readNumber_123 : decode cX4_readNumber 123 = .ok (.iconst 1, 1) := by decide +kernel
theorem dX4_readNumber_124 : decode cX4_readNumber 124 = .ok (.goto 4, 3) := by decide +kernel
theorem dX4_readNumber_127 : decode cX4_readNumber 127 = .ok (.iconst 4, 1) := by decide +kernel
theorem dX4_readNumber_128 : decode cX4_readNumber 128 = .ok (.putfield 34, 3) := by decide +kernel
theorem dX4_readNumber_131 : decode cX4_readNumber 131 = .ok (.aload_n 0, 1) := by decide +kernel
theorem dX4_readNumber_132 : decode cX4_readNumber 132 = .ok (.iload_n 1, 1) := by decide +kernel
theorem dX4_readNumber_133 : decode cX4_readNumber 133 = .ok (.ifCond .eq 8, 3) := by decide +kernel
theorem dX4_readNumber_136 : decode cX4_readNumber 136 = .ok (.iload_n 3, 1) := by decide +kernel
theorem dX4_readNumber_137 : decode cX4_readNumber 137 = .ok (.ineg, 1) := by decide +kernel
theorem dX4_readNumber_138 : decode cX4_readNumber 138 = .ok (.goto 4, 3) := by decide +kernel
theorem dX4_readNumber_141 : decode cX4_readNumber 141 = .ok (.iload_n 3, 1) := by decide +kernel
theorem dX4_readNumber_142 : decode cX4_readNumber 142 = .ok (.putfield 37, 3) := by decide +kernel
theorem dX4_readNumber_145 : decode cX4_readNumber 145 = .ok (.return_, 1) := by decide +kernel
set_option maxRecDepth 100000 in
theorem ggX4_spells_J0_length_8abf5 : GoodIn wsX4_spells wsJ0_length_8abf5 := goodIn_g _ [7, 0, 0, 0, 0, 0, 0, 0, 0] [1, 2, 3, 4, 5, 0, 6, 7, 8] rfl (by decide +kernel)
set_option maxRecDepth 100000 in
theorem gX4_spells_J0_length_8abf5 : GoodIn wsX4_spells (wsV RX4 86 RJ0 yJ0_length_8abf5 wsJ0_length_8abf5) := goodIn_app (goodIn_of _ (by decide +kernel)) ggX4_spells_J0_length_8abf5
set_option maxRecDepth 100000 in
theorem ggX4_spells_X5_cell : GoodIn wsX4_spells wsX5_cell := goodIn_g _ [18] [0] rfl (by decide +kernel)
set_option maxRecDepth 100000 in
theorem gX4_spells_X5_cell_n44 : GoodIn wsX4_spells (wsX5_cell) := ggX4_spells_X5_cell
set_option maxRecDepth 100000 in
theorem ggX4_spells_J0_charAt_5068e : GoodIn wsX4_spells wsJ0_charAt_5068e := goodIn_g _ [7, 1, 4, 0, 6, 0, 0, 0, 0, 0, 0, 0, 0, 0, 0, 0, 0, 0, 0, 0, 0, 0, 0, 0, 0, 0, 0, 0, 0, 0, 0, 0, 0, 0, 0, 0, 0, 0] [4, 1, 5, 6, 7, 0, 8, 2, 3, 9, 10, 11, 12, 13, 14, 15, 16, 17, 18, 19, 20, 21, 22, 23, 24, 25, 26, 27, 28, 29, 30, 31, 32, 33, 34, 35, 36, 37] rfl (by decide +kernel)
set_option maxRecDepth 100000 in
theorem gX4_spells_J0_charAt_5068e : GoodIn wsX4_spells (wsV RX4 92 RJ0 yJ0_charAt_5068e wsJ0_charAt_5068e) := goodIn_app (goodIn_of _ (by decide +kernel)) ggX4_spells_J0_charAt_5068e
theorem dX4_spells_0 : decode cX4_spells 0 = .ok (.aload_n 0, 1) := by decide +kernel
theorem dX4_spells_1 : decode cX4_spells 1 = .ok (.getfield 28, 3) := by decide +kernel
theorem dX4_spells_4 : decode cX4_spells 4 = .ok (.aload_n 0, 1) := by decide +kernel
theorem dX4_spells_5 : decode cX4_spells 5 = .ok (.getfield 31, 3) := by decide +kernel
theorem dX4_spells_8 : decode cX4_spells 8 = .ok (.isub, 1) := by decide +kernel
theorem dX4_spells_9 : decode cX4_spells 9 = .ok (.aload_n 1, 1) := by decide +kernel
theorem dX4_spells_10 : decode cX4_spells 10 = .ok (.invokevirtual 86, 3) := by decide +kernel
theorem dX4_spells_13 : decode cX4_spells 13 = .ok (.if_icmp .eq 5, 3) := by decide +kernel
theorem dX4_spells_16 : decode cX4_spells 16 = .ok (.iconst 0, 1) := by decide +kernel
theorem dX4_spells_17 : decode cX4_spells 17 = .ok (.ireturn, 1) := by decide +kernel
theorem dX4_spells_18 : decode cX4_spells 18 = .ok (.iconst 0, 1) := by decide +kernel
theorem dX4_spells_19 : decode cX4_spells 19 = .ok (.istore_n 2, 1) := by decide +kernel
theorem dX4_spells_20 : decode cX4_spells 20 = .ok (.iload_n 2, 1) := by decide +kernel
theorem dX4_spells_21 : decode cX4_spells 21 = .ok (.aload_n 1, 1) := by decide +kernel
theorem dX4_spells_22 : decode cX4_spells 22 = .ok (.invokevirtual 86, 3) := by decide +kernel
theorem dX4_spells_25 : decode cX4_spells 25 = .ok (.if_icmp .ge 32, 3) := by decide +kernel
theorem dX4_spells_28 : decode cX4_spells 28 = .ok (.aload_n 0, 1) := by decide +kernel
theorem dX4_spells_29 : decode cX4_spells 29 = .ok (.getfield 9, 3) := by decide +kernel
theorem dX4_spells_32 : decode cX4_spells 32 = .ok (.aload_n 0, 1) := by decide +kernel
theorem dX4_spells_33 : decode cX4_spells 33 = .ok (.getfield 31, 3) := by decide +kernel
theorem dX4_spells_36 : decode cX4_spells 36 = .ok (.iload_n 2, 1) := by decide +kernel
theorem dX4_spells_37 : decode cX4_spells 37 = .ok (.iadd, 1) := by decide +kernel
theorem dX4_spells_38 : decode cX4_spells 38 = .ok (.invokestatic 44, 3) := by decide +kernel
theorem dX4_spells_41 : decode cX4_spells 41 = .ok (.aload_n 1, 1) := by decide +kernel
theorem dX4_spells_42 : decode cX4_spells 42 = .ok (.iload_n 2, 1) := by decide +kernel
theorem dX4_spells_43 : decode cX4_spells 43 = .ok (.invokevirtual 92, 3) := by decide +kernel
theorem dX4_spells_46 : decode cX4_spells 46 = .ok (.if_icmp .eq 5, 3) := by decide +kernel
theorem dX4_spells_49 : decode cX4_spells 49 = .ok (.iconst 0, 1) := by decide +kernel
theorem dX4_spells_50 : decode cX4_spells 50 = .ok (.ireturn, 1) := by decide +kernel
theorem dX4_spells_51 : decode cX4_spells 51 = .ok (.iinc 2 1, 3) := by decide +kernel
theorem dX4_spells_54 : decode cX4_spells 54 = .ok (.goto (-34), 3) := by decide +kernel
theorem dX4_spells_57 : decode cX4_spells 57 = .ok (.iconst 1, 1) := by decide +kernel
theorem dX4_spells_58 : decode cX4_spells 58 = .ok (.ireturn, 1) := by decide +kernel
theorem dX4_nameOf_0 : decode cX4_nameOf 0 = .ok (.iload_n 0, 1) := by decide +kernel
theorem dX4_nameOf_1 : decode cX4_nameOf 1 = .ok (.tableswitch 43 0 3 #[31, 34, 37, 40], 31) := by decide +kernel
theorem dX4_nameOf_32 : decode cX4_nameOf 32 = .ok (.ldc 96, 2) := by decide +kernel
theorem dX4_nameOf_34 : decode cX4_nameOf 34 = .ok (.areturn, 1) := by decide +kernel
theorem dX4_nameOf_35 : decode cX4_nameOf 35 = .ok (.ldc 98, 2) := by decide +kernel
theorem dX4_nameOf_37 : decode cX4_nameOf 37 = .ok (.areturn, 1) := by decide +kernel
theorem dX4_nameOf_38 : decode cX4_nameOf 38 = .ok (.ldc 100, 2) := by decide +kernel
theorem dX4_nameOf_40 : decode cX4_nameOf 40 = .ok (.areturn, 1) := by decide +kernel
theorem dX4_nameOf_41 : decode cX4_nameOf 41 = .ok (.ldc 102, 2) := by decide +kernel
theorem dX4_nameOf_43 : decode cX4_nameOf 43 = .ok (.areturn, 1) := by decide +kernel
theorem dX4_nameOf_44 : decode cX4_nameOf 44 = .ok (.ldc 104, 2) := by decide +kernel
theorem dX4_nameOf_46 : decode cX4_nameOf 46 = .ok (.areturn, 1) := by decide +kernel
theorem dX4_isBlank_0 : decode cX4_isBlank 0 = .ok (.iload_n 0, 1) := by decide +kernel
theorem dX4_isBlank_1 : decode cX4_isBlank 1 = .ok (.bipush 32, 2) := by decide +kernel
theorem dX4_isBlank_3 : decode cX4_isBlank 3 = .ok (.if_icmp .eq 9, 3) := by decide +kernel
theorem dX4_isBlank_6 : decode cX4_isBlank 6 = .ok (.iload_n 0, 1) := by decide +kernel
theorem dX4_isBlank_7 : decode cX4_isBlank 7 = .ok (.bipush 10, 2) := by decide +kernel
theorem dX4_isBlank_9 : decode cX4_isBlank 9 = .ok (.if_icmp .ne 7, 3) := by decide +kernel
theorem dX4_isBlank_12 : decode cX4_isBlank 12 = .ok (.iconst 1, 1) := by decide +kernel
theorem dX4_isBlank_13 : decode cX4_isBlank 13 = .ok (.goto 4, 3) := by decide +kernel
theorem dX4_isBlank_16 : decode cX4_isBlank 16 = .ok (.iconst 0, 1) := by decide +kernel
theorem dX4_isBlank_17 : decode cX4_isBlank 17 = .ok (.ireturn, 1) := by decide +kernel
set_option maxRecDepth 100000 in
theorem ggX4_isLetter_X5_within : GoodIn wsX4_isLetter wsX5_within := goodIn_g _ [3] [0] rfl (by decide +kernel)
set_option maxRecDepth 100000 in
theorem gX4_isLetter_X5_within_n82 : GoodIn wsX4_isLetter (wsX5_within) := ggX4_isLetter_X5_within
theorem dX4_isLetter_0 : decode cX4_isLetter 0 = .ok (.iload_n 0, 1) := by decide +kernel
theorem dX4_isLetter_1 : decode cX4_isLetter 1 = .ok (.bipush 97, 2) := by decide +kernel
theorem dX4_isLetter_3 : decode cX4_isLetter 3 = .ok (.bipush 122, 2) := by decide +kernel
theorem dX4_isLetter_5 : decode cX4_isLetter 5 = .ok (.invokestatic 82, 3) := by decide +kernel
theorem dX4_isLetter_8 : decode cX4_isLetter 8 = .ok (.ireturn, 1) := by decide +kernel
set_option maxRecDepth 100000 in
theorem ggX4_isDigit_X5_within : GoodIn wsX4_isDigit wsX5_within := goodIn_g _ [3] [0] rfl (by decide +kernel)
set_option maxRecDepth 100000 in
theorem gX4_isDigit_X5_within_n82 : GoodIn wsX4_isDigit (wsX5_within) := ggX4_isDigit_X5_within
theorem dX4_isDigit_0 : decode cX4_isDigit 0 = .ok (.iload_n 0, 1) := by decide +kernel
theorem dX4_isDigit_1 : decode cX4_isDigit 1 = .ok (.bipush 48, 2) := by decide +kernel
theorem dX4_isDigit_3 : decode cX4_isDigit 3 = .ok (.bipush 57, 2) := by decide +kernel
theorem dX4_isDigit_5 : decode cX4_isDigit 5 = .ok (.invokestatic 82, 3) := by decide +kernel
theorem dX4_isDigit_8 : decode cX4_isDigit 8 = .ok (.ireturn, 1) := by decide +kernel
theorem dJ9_abs_0f7a4_0 : decode cJ9_abs_0f7a4 0 = .ok (.iload_n 0, 1) := by decide +kernel
theorem dJ9_abs_0f7a4_1 : decode cJ9_abs_0f7a4 1 = .ok (.ifCond .ge 8, 3) := by decide +kernel
theorem dJ9_abs_0f7a4_4 : decode cJ9_abs_0f7a4 4 = .ok (.iload_n 0, 1) := by decide +kernel
theorem dJ9_abs_0f7a4_5 : decode cJ9_abs_0f7a4 5 = .ok (.ineg, 1) := by decide +kernel
theorem dJ9_abs_0f7a4_6 : decode cJ9_abs_0f7a4 6 = .ok (.goto 4, 3) := by decide +kernel
theorem dJ9_abs_0f7a4_9 : decode cJ9_abs_0f7a4 9 = .ok (.iload_n 0, 1) := by decide +kernel
theorem dJ9_abs_0f7a4_10 : decode cJ9_abs_0f7a4 10 = .ok (.ireturn, 1) := by decide +kernel
theorem dJ9_max_7cf53_0 : decode cJ9_max_7cf53 0 = .ok (.iload_n 0, 1) := by decide +kernel
theorem dJ9_max_7cf53_1 : decode cJ9_max_7cf53 1 = .ok (.iload_n 1, 1) := by decide +kernel
theorem dJ9_max_7cf53_2 : decode cJ9_max_7cf53 2 = .ok (.if_icmp .lt 7, 3) := by decide +kernel
theorem dJ9_max_7cf53_5 : decode cJ9_max_7cf53 5 = .ok (.iload_n 0, 1) := by decide +kernel
theorem dJ9_max_7cf53_6 : decode cJ9_max_7cf53 6 = .ok (.goto 4, 3) := by decide +kernel
theorem dJ9_max_7cf53_9 : decode cJ9_max_7cf53 9 = .ok (.iload_n 1, 1) := by decide +kernel
theorem dJ9_max_7cf53_10 : decode cJ9_max_7cf53 10 = .ok (.ireturn, 1) := by decide +kernel
theorem dJ9_min_7cf53_0 : decode cJ9_min_7cf53 0 = .ok (.iload_n 0, 1) := by decide +kernel
theorem dJ9_min_7cf53_1 : decode cJ9_min_7cf53 1 = .ok (.iload_n 1, 1) := by decide +kernel
theorem dJ9_min_7cf53_2 : decode cJ9_min_7cf53 2 = .ok (.if_icmp .gt 7, 3) := by decide +kernel
theorem dJ9_min_7cf53_5 : decode cJ9_min_7cf53 5 = .ok (.iload_n 0, 1) := by decide +kernel
theorem dJ9_min_7cf53_6 : decode cJ9_min_7cf53 6 = .ok (.goto 4, 3) := by decide +kernel
theorem dJ9_min_7cf53_9 : decode cJ9_min_7cf53 9 = .ok (.iload_n 1, 1) := by decide +kernel
theorem dJ9_min_7cf53_10 : decode cJ9_min_7cf53 10 = .ok (.ireturn, 1) := by decide +kernel
set_option maxRecDepth 100000 in
theorem ggJ0_length_8abf5_J0_coder_7d493 : GoodIn wsJ0_length_8abf5 wsJ0_coder_7d493 := goodIn_g _ [6, 0, 0] [0, 1, 2] rfl (by decide +kernel)
set_option maxRecDepth 100000 in
theorem gJ0_length_8abf5_J0_coder_7d493 : GoodIn wsJ0_length_8abf5 (wsV RJ0 335 RJ0 yJ0_coder_7d493 wsJ0_coder_7d493) := goodIn_app (goodIn_of _ (by decide +kernel)) ggJ0_length_8abf5_J0_coder_7d493
theorem dJ0_length_8abf5_0 : decode cJ0_length_8abf5 0 = .ok (.aload_n 0, 1) := by decide +kernel
theorem dJ0_length_8abf5_1 : decode cJ0_length_8abf5 1 = .ok (.getfield 9, 3) := by decide +kernel
theorem dJ0_length_8abf5_4 : decode cJ0_length_8abf5 4 = .ok (.arraylength, 1) := by decide +kernel
theorem dJ0_length_8abf5_5 : decode cJ0_length_8abf5 5 = .ok (.aload_n 0, 1) := by decide +kernel
theorem dJ0_length_8abf5_6 : decode cJ0_length_8abf5 6 = .ok (.invokevirtual 335, 3) := by decide +kernel
theorem dJ0_length_8abf5_9 : decode cJ0_length_8abf5 9 = .ok (.ishr, 1) := by decide +kernel
theorem dJ0_length_8abf5_10 : decode cJ0_length_8abf5 10 = .ok (.ireturn, 1) := by decide +kernel
set_option maxRecDepth 100000 in
theorem ggJ0_charAt_5068e_J0_isLatin1_aae02 : GoodIn wsJ0_charAt_5068e wsJ0_isLatin1_aae02 := goodIn_g _ [6, 0, 0] [0, 1, 2] rfl (by decide +kernel)
set_option maxRecDepth 100000 in
theorem gJ0_charAt_5068e_J0_isLatin1_aae02 : GoodIn wsJ0_charAt_5068e (wsV RJ0 492 RJ0 yJ0_isLatin1_aae02 wsJ0_isLatin1_aae02) := goodIn_app (goodIn_of _ (by decide +kernel)) ggJ0_charAt_5068e_J0_isLatin1_aae02
set_option maxRecDepth 100000 in
theorem ggJ0_charAt_5068e_J1_charAt_3b067 : GoodIn wsJ0_charAt_5068e wsJ1_charAt_3b067 := goodIn_g _ [5, 6, 0, 0, 0, 0, 0, 0, 0, 0] [1, 2, 3, 0, 4, 5, 6, 7, 8, 9] rfl (by decide +kernel)
set_option maxRecDepth 100000 in
theorem gJ0_charAt_5068e_J1_charAt_3b067 : GoodIn wsJ0_charAt_5068e (va_wsS RJ0 495 yJ1_charAt_3b067 wsJ1_charAt_3b067) := goodIn_app (goodIn_of _ (by decide +kernel)) ggJ0_charAt_5068e_J1_charAt_3b067
set_option maxRecDepth 100000 in
theorem ggJ0_charAt_5068e_J2_charAt_3b067 : GoodIn wsJ0_charAt_5068e wsJ2_charAt_3b067 := goodIn_g _ [5, 8, 0, 0, 0, 0, 0, 0, 2, 0, 0, 0, 0, 0, 0, 0, 0, 0, 0, 0, 0, 0, 0] [9, 10, 11, 8, 12, 13, 14, 15, 16, 1, 0, 2, 3, 4, 5, 6, 7, 17, 18, 19, 20, 21, 22] rfl (by decide +kernel)
set_option maxRecDepth 100000 in
theorem gJ0_charAt_5068e_J2_charAt_3b067 : GoodIn wsJ0_charAt_5068e (va_wsS RJ0 498 yJ2_charAt_3b067 wsJ2_charAt_3b067) := goodIn_app (goodIn_of _ (by decide +kernel)) ggJ0_charAt_5068e_J2_charAt_3b067
theorem dJ0_charAt_5068e_0 : decode cJ0_charAt_5068e 0 = .ok (.aload_n 0, 1) := by decide +kernel
theorem dJ0_charAt_5068e_1 : decode cJ0_charAt_5068e 1 = .ok (.invokevirtual 492, 3) := by decide +kernel
theorem dJ0_charAt_5068e_4 : decode cJ0_charAt_5068e 4 = .ok (.ifCond .eq 12, 3) := by decide +kernel
theorem dJ0_charAt_5068e_7 : decode cJ0_charAt_5068e 7 = .ok (.aload_n 0, 1) := by decide +kernel
theorem dJ0_charAt_5068e_8 : decode cJ0_charAt_5068e 8 = .ok (.getfield 9, 3) := by decide +kernel
theorem dJ0_charAt_5068e_11 : decode cJ0_charAt_5068e 11 = .ok (.iload_n 1, 1) := by decide +kernel
theorem dJ0_charAt_5068e_12 : decode cJ0_charAt_5068e 12 = .ok (.invokestatic 495, 3) := by decide +kernel
theorem dJ0_charAt_5068e_15 : decode cJ0_charAt_5068e 15 = .ok (.ireturn, 1) := by decide +kernel
theorem dJ0_charAt_5068e_16 : decode cJ0_charAt_5068e 16 = .ok (.aload_n 0, 1) := by decide +kernel
theorem dJ0_charAt_5068e_17 : decode cJ0_charAt_5068e 17 = .ok (.getfield 9, 3) := by decide +kernel
theorem dJ0_charAt_5068e_20 : decode cJ0_charAt_5068e 20 = .ok (.iload_n 1, 1) := by decide +kernel
theorem dJ0_charAt_5068e_21 : decode cJ0_charAt_5068e 21 = .ok (.invokestatic 498, 3) := by decide +kernel
theorem dJ0_charAt_5068e_24 : decode cJ0_charAt_5068e 24 = .ok (.ireturn, 1) := by decide +kernel
theorem dJ0_coder_7d493_0 : decode cJ0_coder_7d493 0 = .ok (.getstatic 38, 3) := by decide +kernel
theorem dJ0_coder_7d493_3 : decode cJ0_coder_7d493 3 = .ok (.ifCond .eq 10, 3) := by decide +kernel
theorem dJ0_coder_7d493_6 : decode cJ0_coder_7d493 6 = .ok (.aload_n 0, 1) := by decide +kernel
theorem dJ0_coder_7d493_7 : decode cJ0_coder_7d493 7 = .ok (.getfield 15, 3) := by decide +kernel
theorem dJ0_coder_7d493_10 : decode cJ0_coder_7d493 10 = .ok (.goto 4, 3) := by decide +kernel
theorem dJ0_coder_7d493_13 : decode cJ0_coder_7d493 13 = .ok (.iconst 1, 1) := by decide +kernel
theorem dJ0_coder_7d493_14 : decode cJ0_coder_7d493 14 = .ok (.ireturn, 1) := by decide +kernel
theorem dJ0_isLatin1_aae02_0 : decode cJ0_isLatin1_aae02 0 = .ok (.getstatic 38, 3) := by decide +kernel
theorem dJ0_isLatin1_aae02_3 : decode cJ0_isLatin1_aae02 3 = .ok (.ifCond .eq 14, 3) := by decide +kernel
theorem dJ0_isLatin1_aae02_6 : decode cJ0_isLatin1_aae02 6 = .ok (.aload_n 0, 1) := by decide +kernel
theorem dJ0_isLatin1_aae02_7 : decode cJ0_isLatin1_aae02 7 = .ok (.getfield 15, 3) := by decide +kernel
theorem dJ0_isLatin1_aae02_10 : decode cJ0_isLatin1_aae02 10 = .ok (.ifCond .ne 7, 3) := by decide +kernel
theorem dJ0_isLatin1_aae02_13 : decode cJ0_isLatin1_aae02 13 = .ok (.iconst 1, 1) := by decide +kernel
theorem dJ0_isLatin1_aae02_14 : decode cJ0_isLatin1_aae02 14 = .ok (.goto 4, 3) := by decide +kernel
theorem dJ0_isLatin1_aae02_17 : decode cJ0_isLatin1_aae02 17 = .ok (.iconst 0, 1) := by decide +kernel
theorem dJ0_isLatin1_aae02_18 : decode cJ0_isLatin1_aae02 18 = .ok (.ireturn, 1) := by decide +kernel
set_option maxRecDepth 100000 in
theorem ggJ0_checkIndex_df160_J3_checkIndex_8e157 : GoodIn wsJ0_checkIndex_df160 wsJ3_checkIndex_8e157 := goodIn_g _ [5] [0] rfl (by decide +kernel)
set_option maxRecDepth 100000 in
theorem gJ0_checkIndex_df160_J3_checkIndex_8e157 : GoodIn wsJ0_checkIndex_df160 (va_wsS RJ0 1059 yJ3_checkIndex_8e157 wsJ3_checkIndex_8e157) := goodIn_app (goodIn_of _ (by decide +kernel)) ggJ0_checkIndex_df160_J3_checkIndex_8e157
theorem dJ0_checkIndex_df160_0 : decode cJ0_checkIndex_df160 0 = .ok (.iload_n 0, 1) := by decide +kernel
theorem dJ0_checkIndex_df160_1 : decode cJ0_checkIndex_df160 1 = .ok (.iload_n 1, 1) := by decide +kernel
theorem dJ0_checkIndex_df160_2 : decode cJ0_checkIndex_df160 2 = .ok (.getstatic 1053, 3) := by decide +kernel
theorem dJ0_checkIndex_df160_5 : decode cJ0_checkIndex_df160 5 = .ok (.invokestatic 1059, 3) := by decide +kernel
theorem dJ0_checkIndex_df160_8 : decode cJ0_checkIndex_df160 8 = .ok (.pop, 1) := by decide +kernel
theorem dJ0_checkIndex_df160_9 : decode cJ0_checkIndex_df160 9 = .ok (.return_, 1) := by decide +kernel
set_option maxRecDepth 100000 in
theorem ggJ1_charAt_3b067_J0_checkIndex_df160 : GoodIn wsJ1_charAt_3b067 wsJ0_checkIndex_df160 := goodIn_g _ [4, 0, 0, 0, 0, 0] [0, 1, 2, 3, 4, 5] rfl (by decide +kernel)
set_option maxRecDepth 100000 in
theorem gJ1_charAt_3b067_J0_checkIndex_df160 : GoodIn wsJ1_charAt_3b067 (va_wsS RJ1 9 yJ0_checkIndex_df160 wsJ0_checkIndex_df160) := goodIn_app (goodIn_of _ (by decide +kernel)) ggJ1_charAt_3b067_J0_checkIndex_df160
theorem dJ1_charAt_3b067_0 : decode cJ1_charAt_3b067 0 = .ok (.iload_n 1, 1) := by decide +kernel
theorem dJ1_charAt_3b067_1 : decode cJ1_charAt_3b067 1 = .ok (.aload_n 0, 1) := by decide +kernel
theorem dJ1_charAt_3b067_2 : decode cJ1_charAt_3b067 2 = .ok (.arraylength, 1) := by decide +kernel
theorem dJ1_charAt_3b067_3 : decode cJ1_charAt_3b067 3 = .ok (.invokestatic 9, 3) := by decide +kernel
theorem dJ1_charAt_3b067_6 : decode cJ1_charAt_3b067 6 = .ok (.aload_n 0, 1) := by decide +kernel
theorem dJ1_charAt_3b067_7 : decode cJ1_charAt_3b067 7 = .ok (.iload_n 1, 1) := by decide +kernel
theorem dJ1_charAt_3b067_8 : decode cJ1_charAt_3b067 8 = .ok (.baload, 1) := by decide +kernel
theorem dJ1_charAt_3b067_9 : decode cJ1_charAt_3b067 9 = .ok (.sipush 255, 3) := by decide +kernel
theorem dJ1_charAt_3b067_12 : decode cJ1_charAt_3b067 12 = .ok (.iand, 1) := by decide +kernel
theorem dJ1_charAt_3b067_13 : decode cJ1_charAt_3b067 13 = .ok (.i2c, 1) := by decide +kernel
theorem dJ1_charAt_3b067_14 : decode cJ1_charAt_3b067 14 = .ok (.ireturn, 1) := by decide +kernel
set_option maxRecDepth 100000 in
theorem ggJ2_getChar_3b067_J2_length_9d52b : GoodIn wsJ2_getChar_3b067 wsJ2_length_9d52b := goodIn_g _ [7] [0] rfl (by decide +kernel)
set_option maxRecDepth 100000 in
theorem gJ2_getChar_3b067_J2_length_9d52b : GoodIn wsJ2_getChar_3b067 (va_wsS RJ2 48 yJ2_length_9d52b wsJ2_length_9d52b) := goodIn_app (goodIn_of _ (by decide +kernel)) ggJ2_getChar_3b067_J2_length_9d52b
theorem dJ2_getChar_3b067_0 : decode cJ2_getChar_3b067 0 = .ok (.getstatic 44, 3) := by decide +kernel
theorem dJ2_getChar_3b067_3 : decode cJ2_getChar_3b067 3 = .ok (.ifCond .ne 25, 3) := by decide +kernel
theorem dJ2_getChar_3b067_6 : decode cJ2_getChar_3b067 6 = .ok (.iload_n 1, 1) := by decide +kernel
theorem dJ2_getChar_3b067_7 : decode cJ2_getChar_3b067 7 = .ok (.ifCond .lt 11, 3) := by decide +kernel
theorem dJ2_getChar_3b067_10 : decode cJ2_getChar_3b067 10 = .ok (.iload_n 1, 1) := by decide +kernel
theorem dJ2_getChar_3b067_11 : decode cJ2_getChar_3b067 11 = .ok (.aload_n 0, 1) := by decide +kernel
theorem dJ2_getChar_3b067_12 : decode cJ2_getChar_3b067 12 = .ok (.invokestatic 48, 3) := by decide +kernel
theorem dJ2_getChar_3b067_15 : decode cJ2_getChar_3b067 15 = .ok (.if_icmp .lt 13, 3) := by decide +kernel
theorem dJ2_getChar_3b067_18 : decode cJ2_getChar_3b067 18 = .ok (.new 52, 3) := by decide +kernel
theorem dJ2_getChar_3b067_21 : decode cJ2_getChar_3b067 21 = .ok (.dup, 1) := by decide +kernel
theorem dJ2_getChar_3b067_22 : decode cJ2_getChar_3b067 22 = .ok (.ldc 54, 2) := by decide +kernel
theorem dJ2_getChar_3b067_24 : decode cJ2_getChar_3b067 24 = .ok (.invokespecial 56, 3) := by decide +kernel
theorem dJ2_getChar_3b067_27 : decode cJ2_getChar_3b067 27 = .ok (.athrow, 1) := by decide +kernel
theorem dJ2_getChar_3b067_28 : decode cJ2_getChar_3b067 28 = .ok (.iload_n 1, 1) := by decide +kernel
theorem dJ2_getChar_3b067_29 : decode cJ2_getChar_3b067 29 = .ok (.iconst 1, 1) := by decide +kernel
theorem dJ2_getChar_3b067_30 : decode cJ2_getChar_3b067 30 = .ok (.ishl, 1) := by decide +kernel
theorem dJ2_getChar_3b067_31 : decode cJ2_getChar_3b067 31 = .ok (.istore_n 1, 1) := by decide +kernel
theorem dJ2_getChar_3b067_32 : decode cJ2_getChar_3b067 32 = .ok (.aload_n 0, 1) := by decide +kernel
theorem dJ2_getChar_3b067_33 : decode cJ2_getChar_3b067 33 = .ok (.iload_n 1, 1) := by decide +kernel
theorem dJ2_getChar_3b067_34 : decode cJ2_getChar_3b067 34 = .ok (.iinc 1 1, 3) := by decide +kernel
theorem dJ2_getChar_3b067_37 : decode cJ2_getChar_3b067 37 = .ok (.baload, 1) := by decide +kernel
theorem dJ2_getChar_3b067_38 : decode cJ2_getChar_3b067 38 = .ok (.sipush 255, 3) := by decide +kernel
theorem dJ2_getChar_3b067_41 : decode cJ2_getChar_3b067 41 = .ok (.iand, 1) := by decide +kernel
theorem dJ2_getChar_3b067_42 : decode cJ2_getChar_3b067 42 = .ok (.getstatic 59, 3) := by decide +kernel
theorem dJ2_getChar_3b067_45 : decode cJ2_getChar_3b067 45 = .ok (.ishl, 1) := by decide +kernel
theorem dJ2_getChar_3b067_46 : decode cJ2_getChar_3b067 46 = .ok (.aload_n 0, 1) := by decide +kernel
theorem dJ2_getChar_3b067_47 : decode cJ2_getChar_3b067 47 = .ok (.iload_n 1, 1) := by decide +kernel
theorem dJ2_getChar_3b067_48 : decode cJ2_getChar_3b067 48 = .ok (.baload, 1) := by decide +kernel
theorem dJ2_getChar_3b067_49 : decode cJ2_getChar_3b067 49 = .ok (.sipush 255, 3) := by decide +kernel
theorem dJ2_getChar_3b067_52 : decode cJ2_getChar_3b067 52 = .ok (.iand, 1) := by decide +kernel
theorem dJ2_getChar_3b067_53 : decode cJ2_getChar_3b067 53 = .ok (.getstatic 63, 3) := by decide +kernel
theorem dJ2_getChar_3b067_56 : decode cJ2_getChar_3b067 56 = .ok (.ishl, 1) := by decide +kernel
theorem dJ2_getChar_3b067_57 : decode cJ2_getChar_3b067 57 = .ok (.ior, 1) := by decide +kernel
theorem dJ2_getChar_3b067_58 : decode cJ2_getChar_3b067 58 = .ok (.i2c, 1) := by decide +kernel
theorem dJ2_getChar_3b067_59 : decode cJ2_getChar_3b067 59 = .ok (.ireturn, 1) := by decide +kernel
theorem dJ2_length_9d52b_0 : decode cJ2_length_9d52b 0 = .ok (.aload_n 0, 1) := by decide +kernel
theorem dJ2_length_9d52b_1 : decode cJ2_length_9d52b 1 = .ok (.arraylength, 1) := by decide +kernel
theorem dJ2_length_9d52b_2 : decode cJ2_length_9d52b 2 = .ok (.iconst 1, 1) := by decide +kernel
theorem dJ2_length_9d52b_3 : decode cJ2_length_9d52b 3 = .ok (.ishr, 1) := by decide +kernel
theorem dJ2_length_9d52b_4 : decode cJ2_length_9d52b 4 = .ok (.ireturn, 1) := by decide +kernel
set_option maxRecDepth 100000 in
theorem ggJ2_charAt_3b067_J2_checkIndex_2214a : GoodIn wsJ2_charAt_3b067 wsJ2_checkIndex_2214a := goodIn_g _ [3, 0, 0, 0, 0, 0, 0, 0, 0, 0, 0, 0, 0, 0] [1, 2, 3, 0, 4, 5, 6, 7, 8, 9, 10, 11, 12, 13] rfl (by decide +kernel)
set_option maxRecDepth 100000 in
theorem gJ2_charAt_3b067_J2_checkIndex_2214a : GoodIn wsJ2_charAt_3b067 (va_wsS RJ2 67 yJ2_checkIndex_2214a wsJ2_checkIndex_2214a) := goodIn_app (goodIn_of _ (by decide +kernel)) ggJ2_charAt_3b067_J2_checkIndex_2214a
set_option maxRecDepth 100000 in
theorem ggJ2_charAt_3b067_J2_getChar_3b067 : GoodIn wsJ2_charAt_3b067 wsJ2_getChar_3b067 := goodIn_g _ [3, 1, 0, 0, 11, 0, 0, 0] [4, 5, 6, 7, 1, 2, 0, 3] rfl (by decide +kernel)
set_option maxRecDepth 100000 in
theorem gJ2_charAt_3b067_J2_getChar_3b067 : GoodIn wsJ2_charAt_3b067 (va_wsS RJ2 71 yJ2_getChar_3b067 wsJ2_getChar_3b067) := goodIn_app (goodIn_of _ (by decide +kernel)) ggJ2_charAt_3b067_J2_getChar_3b067
theorem dJ2_charAt_3b067_0 : decode cJ2_charAt_3b067 0 = .ok (.iload_n 1, 1) := by decide +kernel
theorem dJ2_charAt_3b067_1 : decode cJ2_charAt_3b067 1 = .ok (.aload_n 0, 1) := by decide +kernel
theorem dJ2_charAt_3b067_2 : decode cJ2_charAt_3b067 2 = .ok (.invokestatic 67, 3) := by decide +kernel
theorem dJ2_charAt_3b067_5 : decode cJ2_charAt_3b067 5 = .ok (.aload_n 0, 1) := by decide +kernel
theorem dJ2_charAt_3b067_6 : decode cJ2_charAt_3b067 6 = .ok (.iload_n 1, 1) := by decide +kernel
theorem dJ2_charAt_3b067_7 : decode cJ2_charAt_3b067 7 = .ok (.invokestatic 71, 3) := by decide +kernel
theorem dJ2_charAt_3b067_10 : decode cJ2_charAt_3b067 10 = .ok (.ireturn, 1) := by decide +kernel
set_option maxRecDepth 100000 in
theorem ggJ2_checkIndex_2214a_J2_length_9d52b : GoodIn wsJ2_checkIndex_2214a wsJ2_length_9d52b := goodIn_g _ [4] [0] rfl (by decide +kernel)
set_option maxRecDepth 100000 in
theorem gJ2_checkIndex_2214a_J2_length_9d52b : GoodIn wsJ2_checkIndex_2214a (va_wsS RJ2 48 yJ2_length_9d52b wsJ2_length_9d52b) := goodIn_app (goodIn_of _ (by decide +kernel)) ggJ2_checkIndex_2214a_J2_length_9d52b
set_option maxRecDepth 100000 in
theorem ggJ2_checkIndex_2214a_J0_checkIndex_df160 : GoodIn wsJ2_checkIndex_2214a wsJ0_checkIndex_df160 := goodIn_g _ [8, 0, 0, 0, 0, 0] [0, 1, 2, 3, 4, 5] rfl (by decide +kernel)
set_option maxRecDepth 100000 in
theorem gJ2_checkIndex_2214a_J0_checkIndex_df160 : GoodIn wsJ2_checkIndex_2214a (va_wsS RJ2 414 yJ0_checkIndex_df160 wsJ0_checkIndex_df160) := goodIn_app (goodIn_of _ (by decide +kernel)) ggJ2_checkIndex_2214a_J0_checkIndex_df160
theorem dJ2_checkIndex_2214a_0 : decode cJ2_checkIndex_2214a 0 = .ok (.iload_n 0, 1) := by decide +kernel
theorem dJ2_checkIndex_2214a_1 : decode cJ2_checkIndex_2214a 1 = .ok (.aload_n 1, 1) := by decide +kernel
theorem dJ2_checkIndex_2214a_2 : decode cJ2_checkIndex_2214a 2 = .ok (.invokestatic 48, 3) := by decide +kernel
theorem dJ2_checkIndex_2214a_5 : decode cJ2_checkIndex_2214a 5 = .ok (.invokestatic 414, 3) := by decide +kernel
theorem dJ2_checkIndex_2214a_8 : decode cJ2_checkIndex_2214a 8 = .ok (.return_, 1) := by decide +kernel
theorem dJ3_checkIndex_8e157_0 : decode cJ3_checkIndex_8e157 0 = .ok (.iload_n 0, 1) := by decide +kernel
theorem dJ3_checkIndex_8e157_1 : decode cJ3_checkIndex_8e157 1 = .ok (.ifCond .lt 8, 3) := by decide +kernel
theorem dJ3_checkIndex_8e157_4 : decode cJ3_checkIndex_8e157 4 = .ok (.iload_n 0, 1) := by decide +kernel
theorem dJ3_checkIndex_8e157_5 : decode cJ3_checkIndex_8e157 5 = .ok (.iload_n 1, 1) := by decide +kernel
theorem dJ3_checkIndex_8e157_6 : decode cJ3_checkIndex_8e157 6 = .ok (.if_icmp .lt 10, 3) := by decide +kernel
theorem dJ3_checkIndex_8e157_9 : decode cJ3_checkIndex_8e157 9 = .ok (.aload_n 2, 1) := by decide +kernel
theorem dJ3_checkIndex_8e157_10 : decode cJ3_checkIndex_8e157 10 = .ok (.iload_n 0, 1) := by decide +kernel
theorem dJ3_checkIndex_8e157_11 : decode cJ3_checkIndex_8e157 11 = .ok (.iload_n 1, 1) := by decide +kernel
theorem dJ3_checkIndex_8e157_12 : decode cJ3_checkIndex_8e157 12 = .ok (.invokestatic 95, 3) := by decide +kernel
theorem dJ3_checkIndex_8e157_15 : decode cJ3_checkIndex_8e157 15 = .ok (.athrow, 1) := by decide +kernel
theorem dJ3_checkIndex_8e157_16 : decode cJ3_checkIndex_8e157 16 = .ok (.iload_n 0, 1) := by decide +kernel
theorem dJ3_checkIndex_8e157_17 : decode cJ3_checkIndex_8e157 17 = .ok (.ireturn, 1) := by decide +kernel
