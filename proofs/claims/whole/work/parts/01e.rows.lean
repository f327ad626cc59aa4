theorem dX0_init_0 : decode cX0_init 0 = .ok (.aload_n 0, 1) := by decide +kernel
theorem dX0_init_1 : decode cX0_init 1 = .ok (.invokespecial 3, 3) := by decide +kernel
theorem dX0_init_4 : decode cX0_init 4 = .ok (.aload_n 0, 1) := by decide +kernel
theorem dX0_init_5 : decode cX0_init 5 = .ok (.sipush 169, 3) := by decide +kernel
theorem dX0_init_8 : decode cX0_init 8 = .ok (.newarray .int, 2) := by decide +kernel
theorem dX0_init_10 : decode cX0_init 10 = .ok (.putfield 9, 3) := by decide +kernel
theorem dX0_init_13 : decode cX0_init 13 = .ok (.return_, 1) := by decide +kernel
set_option maxRecDepth 20000 in
theorem ggX0_lineBefore_X0_countCommons : GoodIn wsX0_lineBefore wsX0_countCommons := goodIn_r _ [6, 1, 7, 8, 9, 10, 11, 12, 13, 14, 15, 16, 17, 18, 19, 20, 21, 22, 23, 24, 25, 26, 27, 28, 29, 30, 31, 32, 33, 34, 35] (by decide +kernel) (by decide +kernel)
set_option maxRecDepth 20000 in
theorem gX0_lineBefore_X0_countCommons : GoodIn wsX0_lineBefore (wsV RX0 15 RX0 yX0_countCommons wsX0_countCommons) := goodIn_app (goodIn_of _ (by decide +kernel)) ggX0_lineBefore_X0_countCommons
set_option maxRecDepth 20000 in
theorem ggX0_lineBefore_X5_size : GoodIn wsX0_lineBefore wsX5_size := goodIn_r _ [15, 16, 34, 35] (by decide +kernel) (by decide +kernel)
set_option maxRecDepth 20000 in
theorem gX0_lineBefore_X5_size : GoodIn wsX0_lineBefore (wsV RX0 19 RX5 yX5_size wsX5_size) := goodIn_app (goodIn_of _ (by decide +kernel)) ggX0_lineBefore_X5_size
set_option maxRecDepth 20000 in
theorem ggX0_lineBefore_X5_has : GoodIn wsX0_lineBefore wsX5_has := goodIn_r _ [20, 16, 34, 35] (by decide +kernel) (by decide +kernel)
set_option maxRecDepth 20000 in
theorem gX0_lineBefore_X5_has : GoodIn wsX0_lineBefore (wsV RX0 25 RX5 yX5_has wsX5_has) := goodIn_app (goodIn_of _ (by decide +kernel)) ggX0_lineBefore_X5_has
set_option maxRecDepth 20000 in
theorem ggX0_lineBefore_X5_at : GoodIn wsX0_lineBefore wsX5_at := goodIn_r _ [24, 16, 25, 34, 35] (by decide +kernel) (by decide +kernel)
set_option maxRecDepth 20000 in
theorem gX0_lineBefore_X5_at : GoodIn wsX0_lineBefore (wsV RX0 29 RX5 yX5_at wsX5_at) := goodIn_app (goodIn_of _ (by decide +kernel)) ggX0_lineBefore_X5_at
set_option maxRecDepth 20000 in
theorem ggX0_lineBefore_X7_place : GoodIn wsX0_lineBefore wsX7_place := goodIn_r _ [28] (by decide +kernel) (by decide +kernel)
set_option maxRecDepth 20000 in
theorem gX0_lineBefore_X7_place_n33 : GoodIn wsX0_lineBefore (wsX7_place) := ggX0_lineBefore_X7_place
set_option maxRecDepth 20000 in
theorem ggX0_lineBefore_X7_cell : GoodIn wsX0_lineBefore wsX7_cell := goodIn_r _ [30] (by decide +kernel) (by decide +kernel)
set_option maxRecDepth 20000 in
theorem gX0_lineBefore_X7_cell_n37 : GoodIn wsX0_lineBefore (wsX7_cell) := ggX0_lineBefore_X7_cell
theorem dX0_lineBefore_0 : decode cX0_lineBefore 0 = .ok (.aload_n 0, 1) := by decide +kernel
theorem dX0_lineBefore_1 : decode cX0_lineBefore 1 = .ok (.aload_n 1, 1) := by decide +kernel
theorem dX0_lineBefore_2 : decode cX0_lineBefore 2 = .ok (.aload_n 2, 1) := by decide +kernel
theorem dX0_lineBefore_3 : decode cX0_lineBefore 3 = .ok (.invokevirtual 15, 3) := by decide +kernel
theorem dX0_lineBefore_6 : decode cX0_lineBefore 6 = .ok (.iconst 0, 1) := by decide +kernel
theorem dX0_lineBefore_7 : decode cX0_lineBefore 7 = .ok (.istore 4, 2) := by decide +kernel
theorem dX0_lineBefore_9 : decode cX0_lineBefore 9 = .ok (.iconst 0, 1) := by decide +kernel
theorem dX0_lineBefore_10 : decode cX0_lineBefore 10 = .ok (.istore 5, 2) := by decide +kernel
theorem dX0_lineBefore_12 : decode cX0_lineBefore 12 = .ok (.iconst 0, 1) := by decide +kernel
theorem dX0_lineBefore_13 : decode cX0_lineBefore 13 = .ok (.istore 6, 2) := by decide +kernel
theorem dX0_lineBefore_15 : decode cX0_lineBefore 15 = .ok (.iload 6, 2) := by decide +kernel
theorem dX0_lineBefore_17 : decode cX0_lineBefore 17 = .ok (.aload_n 1, 1) := by decide +kernel
theorem dX0_lineBefore_18 : decode cX0_lineBefore 18 = .ok (.invokevirtual 19, 3) := by decide +kernel
theorem dX0_lineBefore_21 : decode cX0_lineBefore 21 = .ok (.aload_n 2, 1) := by decide +kernel
theorem dX0_lineBefore_22 : decode cX0_lineBefore 22 = .ok (.invokevirtual 19, 3) := by decide +kernel
theorem dX0_lineBefore_25 : decode cX0_lineBefore 25 = .ok (.iadd, 1) := by decide +kernel
theorem dX0_lineBefore_26 : decode cX0_lineBefore 26 = .ok (.if_icmp .ge 101, 3) := by decide +kernel
theorem dX0_lineBefore_29 : decode cX0_lineBefore 29 = .ok (.aload_n 1, 1) := by decide +kernel
theorem dX0_lineBefore_30 : decode cX0_lineBefore 30 = .ok (.iload 4, 2) := by decide +kernel
theorem dX0_lineBefore_32 : decode cX0_lineBefore 32 = .ok (.invokevirtual 25, 3) := by decide +kernel
theorem dX0_lineBefore_35 : decode cX0_lineBefore 35 = .ok (.ifCond .eq 92, 3) := by decide +kernel
theorem dX0_lineBefore_38 : decode cX0_lineBefore 38 = .ok (.iload 5, 2) := by decide +kernel
theorem dX0_lineBefore_40 : decode cX0_lineBefore 40 = .ok (.iload_n 3, 1) := by decide +kernel
theorem dX0_lineBefore_41 : decode cX0_lineBefore 41 = .ok (.if_icmp .gt 86, 3) := by decide +kernel
theorem dX0_lineBefore_44 : decode cX0_lineBefore 44 = .ok (.aload_n 1, 1) := by decide +kernel
theorem dX0_lineBefore_45 : decode cX0_lineBefore 45 = .ok (.iload 4, 2) := by decide +kernel
theorem dX0_lineBefore_47 : decode cX0_lineBefore 47 = .ok (.invokevirtual 29, 3) := by decide +kernel
theorem dX0_lineBefore_50 : decode cX0_lineBefore 50 = .ok (.aload_n 2, 1) := by decide +kernel
theorem dX0_lineBefore_51 : decode cX0_lineBefore 51 = .ok (.iload 5, 2) := by decide +kernel
theorem dX0_lineBefore_53 : decode cX0_lineBefore 53 = .ok (.invokevirtual 29, 3) := by decide +kernel
theorem dX0_lineBefore_56 : decode cX0_lineBefore 56 = .ok (.if_icmp .ne 21, 3) := by decide +kernel
theorem dX0_lineBefore_59 : decode cX0_lineBefore 59 = .ok (.iload 5, 2) := by decide +kernel
theorem dX0_lineBefore_61 : decode cX0_lineBefore 61 = .ok (.iload_n 3, 1) := by decide +kernel
theorem dX0_lineBefore_62 : decode cX0_lineBefore 62 = .ok (.if_icmp .ne 6, 3) := by decide +kernel
theorem dX0_lineBefore_65 : decode cX0_lineBefore 65 = .ok (.iload 4, 2) := by decide +kernel
theorem dX0_lineBefore_67 : decode cX0_lineBefore 67 = .ok (.ireturn, 1) := by decide +kernel
theorem dX0_lineBefore_68 : decode cX0_lineBefore 68 = .ok (.iinc 4 1, 3) := by decide +kernel
theorem dX0_lineBefore_71 : decode cX0_lineBefore 71 = .ok (.iinc 5 1, 3) := by decide +kernel
theorem dX0_lineBefore_74 : decode cX0_lineBefore 74 = .ok (.goto 47, 3) := by decide +kernel
theorem dX0_lineBefore_77 : decode cX0_lineBefore 77 = .ok (.aload_n 0, 1) := by decide +kernel
theorem dX0_lineBefore_78 : decode cX0_lineBefore 78 = .ok (.getfield 9, 3) := by decide +kernel
theorem dX0_lineBefore_81 : decode cX0_lineBefore 81 = .ok (.iload 4, 2) := by decide +kernel
theorem dX0_lineBefore_83 : decode cX0_lineBefore 83 = .ok (.iconst 1, 1) := by decide +kernel
theorem dX0_lineBefore_84 : decode cX0_lineBefore 84 = .ok (.iadd, 1) := by decide +kernel
theorem dX0_lineBefore_85 : decode cX0_lineBefore 85 = .ok (.iload 5, 2) := by decide +kernel
theorem dX0_lineBefore_87 : decode cX0_lineBefore 87 = .ok (.invokestatic 33, 3) := by decide +kernel
theorem dX0_lineBefore_90 : decode cX0_lineBefore 90 = .ok (.invokestatic 37, 3) := by decide +kernel
theorem dX0_lineBefore_93 : decode cX0_lineBefore 93 = .ok (.aload_n 0, 1) := by decide +kernel
theorem dX0_lineBefore_94 : decode cX0_lineBefore 94 = .ok (.getfield 9, 3) := by decide +kernel
theorem dX0_lineBefore_97 : decode cX0_lineBefore 97 = .ok (.iload 4, 2) := by decide +kernel
theorem dX0_lineBefore_99 : decode cX0_lineBefore 99 = .ok (.iload 5, 2) := by decide +kernel
theorem dX0_lineBefore_101 : decode cX0_lineBefore 101 = .ok (.iconst 1, 1) := by decide +kernel
theorem dX0_lineBefore_102 : decode cX0_lineBefore 102 = .ok (.iadd, 1) := by decide +kernel
theorem dX0_lineBefore_103 : decode cX0_lineBefore 103 = .ok (.invokestatic 33, 3) := by decide +kernel
theorem dX0_lineBefore_106 : decode cX0_lineBefore 106 = .ok (.invokestatic 37, 3) := by decide +kernel
theorem dX0_lineBefore_109 : decode cX0_lineBefore 109 = .ok (.if_icmp .lt 9, 3) := by decide +kernel
theorem dX0_lineBefore_112 : decode cX0_lineBefore 112 = .ok (.iinc 4 1, 3) := by decide +kernel
theorem dX0_lineBefore_115 : decode cX0_lineBefore 115 = .ok (.goto 6, 3) := by decide +kernel
theorem dX0_lineBefore_118 : decode cX0_lineBefore 118 = .ok (.iinc 5 1, 3) := by decide +kernel
theorem dX0_lineBefore_121 : decode cX0_lineBefore 121 = .ok (.iinc 6 1, 3) := by decide +kernel
theorem dX0_lineBefore_124 : decode cX0_lineBefore 124 = .ok (.goto (-109), 3) := by decide +kernel
theorem dX0_lineBefore_127 : decode cX0_lineBefore 127 = .ok (.iconst (-1), 1) := by decide +kernel
theorem dX0_lineBefore_128 : decode cX0_lineBefore 128 = .ok (.ireturn, 1) := by decide +kernel
set_option maxRecDepth 20000 in
theorem ggX0_countCommons_X5_size : GoodIn wsX0_countCommons wsX5_size := goodIn_r _ [10, 11, 29, 30] (by decide +kernel) (by decide +kernel)
set_option maxRecDepth 20000 in
theorem gX0_countCommons_X5_size : GoodIn wsX0_countCommons (wsV RX0 19 RX5 yX5_size wsX5_size) := goodIn_app (goodIn_of _ (by decide +kernel)) ggX0_countCommons_X5_size
set_option maxRecDepth 20000 in
theorem ggX0_countCommons_X5_has : GoodIn wsX0_countCommons wsX5_has := goodIn_r _ [15, 11, 29, 30] (by decide +kernel) (by decide +kernel)
set_option maxRecDepth 20000 in
theorem gX0_countCommons_X5_has : GoodIn wsX0_countCommons (wsV RX0 25 RX5 yX5_has wsX5_has) := goodIn_app (goodIn_of _ (by decide +kernel)) ggX0_countCommons_X5_has
set_option maxRecDepth 20000 in
theorem ggX0_countCommons_X5_at : GoodIn wsX0_countCommons wsX5_at := goodIn_r _ [19, 11, 20, 29, 30] (by decide +kernel) (by decide +kernel)
set_option maxRecDepth 20000 in
theorem gX0_countCommons_X5_at : GoodIn wsX0_countCommons (wsV RX0 29 RX5 yX5_at wsX5_at) := goodIn_app (goodIn_of _ (by decide +kernel)) ggX0_countCommons_X5_at
set_option maxRecDepth 20000 in
theorem ggX0_countCommons_X7_place : GoodIn wsX0_countCommons wsX7_place := goodIn_r _ [23] (by decide +kernel) (by decide +kernel)
set_option maxRecDepth 20000 in
theorem gX0_countCommons_X7_place_n33 : GoodIn wsX0_countCommons (wsX7_place) := ggX0_countCommons_X7_place
set_option maxRecDepth 20000 in
theorem ggX0_countCommons_X7_cell : GoodIn wsX0_countCommons wsX7_cell := goodIn_r _ [25] (by decide +kernel) (by decide +kernel)
set_option maxRecDepth 20000 in
theorem gX0_countCommons_X7_cell_n37 : GoodIn wsX0_countCommons (wsX7_cell) := ggX0_countCommons_X7_cell
set_option maxRecDepth 20000 in
theorem ggX0_countCommons_X7_put : GoodIn wsX0_countCommons wsX7_put := goodIn_r _ [27] (by decide +kernel) (by decide +kernel)
set_option maxRecDepth 20000 in
theorem gX0_countCommons_X7_put_n46 : GoodIn wsX0_countCommons (wsX7_put) := ggX0_countCommons_X7_put
theorem dX0_countCommons_0 : decode cX0_countCommons 0 = .ok (.aload_n 1, 1) := by decide +kernel
theorem dX0_countCommons_1 : decode cX0_countCommons 1 = .ok (.invokevirtual 19, 3) := by decide +kernel
theorem dX0_countCommons_4 : decode cX0_countCommons 4 = .ok (.istore_n 3, 1) := by decide +kernel
theorem dX0_countCommons_5 : decode cX0_countCommons 5 = .ok (.iload_n 3, 1) := by decide +kernel
theorem dX0_countCommons_6 : decode cX0_countCommons 6 = .ok (.ifCond .lt 132, 3) := by decide +kernel
theorem dX0_countCommons_9 : decode cX0_countCommons 9 = .ok (.aload_n 2, 1) := by decide +kernel
theorem dX0_countCommons_10 : decode cX0_countCommons 10 = .ok (.invokevirtual 19, 3) := by decide +kernel
theorem dX0_countCommons_13 : decode cX0_countCommons 13 = .ok (.istore 4, 2) := by decide +kernel
theorem dX0_countCommons_15 : decode cX0_countCommons 15 = .ok (.iload 4, 2) := by decide +kernel
theorem dX0_countCommons_17 : decode cX0_countCommons 17 = .ok (.ifCond .lt 115, 3) := by decide +kernel
theorem dX0_countCommons_20 : decode cX0_countCommons 20 = .ok (.iconst 0, 1) := by decide +kernel
theorem dX0_countCommons_21 : decode cX0_countCommons 21 = .ok (.istore 5, 2) := by decide +kernel
theorem dX0_countCommons_23 : decode cX0_countCommons 23 = .ok (.aload_n 1, 1) := by decide +kernel
theorem dX0_countCommons_24 : decode cX0_countCommons 24 = .ok (.iload_n 3, 1) := by decide +kernel
theorem dX0_countCommons_25 : decode cX0_countCommons 25 = .ok (.invokevirtual 25, 3) := by decide +kernel
theorem dX0_countCommons_28 : decode cX0_countCommons 28 = .ok (.ifCond .eq 83, 3) := by decide +kernel
theorem dX0_countCommons_31 : decode cX0_countCommons 31 = .ok (.aload_n 2, 1) := by decide +kernel
theorem dX0_countCommons_32 : decode cX0_countCommons 32 = .ok (.iload 4, 2) := by decide +kernel
theorem dX0_countCommons_34 : decode cX0_countCommons 34 = .ok (.invokevirtual 25, 3) := by decide +kernel
theorem dX0_countCommons_37 : decode cX0_countCommons 37 = .ok (.ifCond .eq 74, 3) := by decide +kernel
theorem dX0_countCommons_40 : decode cX0_countCommons 40 = .ok (.aload_n 1, 1) := by decide +kernel
theorem dX0_countCommons_41 : decode cX0_countCommons 41 = .ok (.iload_n 3, 1) := by decide +kernel
theorem dX0_countCommons_42 : decode cX0_countCommons 42 = .ok (.invokevirtual 29, 3) := by decide +kernel
theorem dX0_countCommons_45 : decode cX0_countCommons 45 = .ok (.aload_n 2, 1) := by decide +kernel
theorem dX0_countCommons_46 : decode cX0_countCommons 46 = .ok (.iload 4, 2) := by decide +kernel
theorem dX0_countCommons_48 : decode cX0_countCommons 48 = .ok (.invokevirtual 29, 3) := by decide +kernel
theorem dX0_countCommons_51 : decode cX0_countCommons 51 = .ok (.if_icmp .ne 25, 3) := by decide +kernel
theorem dX0_countCommons_54 : decode cX0_countCommons 54 = .ok (.iconst 1, 1) := by decide +kernel
theorem dX0_countCommons_55 : decode cX0_countCommons 55 = .ok (.aload_n 0, 1) := by decide +kernel
theorem dX0_countCommons_56 : decode cX0_countCommons 56 = .ok (.getfield 9, 3) := by decide +kernel
theorem dX0_countCommons_59 : decode cX0_countCommons 59 = .ok (.iload_n 3, 1) := by decide +kernel
theorem dX0_countCommons_60 : decode cX0_countCommons 60 = .ok (.iconst 1, 1) := by decide +kernel
theorem dX0_countCommons_61 : decode cX0_countCommons 61 = .ok (.iadd, 1) := by decide +kernel
theorem dX0_countCommons_62 : decode cX0_countCommons 62 = .ok (.iload 4, 2) := by decide +kernel
theorem dX0_countCommons_64 : decode cX0_countCommons 64 = .ok (.iconst 1, 1) := by decide +kernel
theorem dX0_countCommons_65 : decode cX0_countCommons 65 = .ok (.iadd, 1) := by decide +kernel
theorem dX0_countCommons_66 : decode cX0_countCommons 66 = .ok (.invokestatic 33, 3) := by decide +kernel
theorem dX0_countCommons_69 : decode cX0_countCommons 69 = .ok (.invokestatic 37, 3) := by decide +kernel
theorem dX0_countCommons_72 : decode cX0_countCommons 72 = .ok (.iadd, 1) := by decide +kernel
theorem dX0_countCommons_73 : decode cX0_countCommons 73 = .ok (.goto 36, 3) := by decide +kernel
theorem dX0_countCommons_76 : decode cX0_countCommons 76 = .ok (.aload_n 0, 1) := by decide +kernel
theorem dX0_countCommons_77 : decode cX0_countCommons 77 = .ok (.getfield 9, 3) := by decide +kernel
theorem dX0_countCommons_80 : decode cX0_countCommons 80 = .ok (.iload_n 3, 1) := by decide +kernel
theorem dX0_countCommons_81 : decode cX0_countCommons 81 = .ok (.iconst 1, 1) := by decide +kernel
theorem dX0_countCommons_82 : decode cX0_countCommons 82 = .ok (.iadd, 1) := by decide +kernel
theorem dX0_countCommons_83 : decode cX0_countCommons 83 = .ok (.iload 4, 2) := by decide +kernel
theorem dX0_countCommons_85 : decode cX0_countCommons 85 = .ok (.invokestatic 33, 3) := by decide +kernel
theorem dX0_countCommons_88 : decode cX0_countCommons 88 = .ok (.invokestatic 37, 3) := by decide +kernel
theorem dX0_countCommons_91 : decode cX0_countCommons 91 = .ok (.aload_n 0, 1) := by decide +kernel
theorem dX0_countCommons_92 : decode cX0_countCommons 92 = .ok (.getfield 9, 3) := by decide +kernel
theorem dX0_countCommons_95 : decode cX0_countCommons 95 = .ok (.iload_n 3, 1) := by decide +kernel
theorem dX0_countCommons_96 : decode cX0_countCommons 96 = .ok (.iload 4, 2) := by decide +kernel
theorem dX0_countCommons_98 : decode cX0_countCommons 98 = .ok (.iconst 1, 1) := by decide +kernel
theorem dX0_countCommons_99 : decode cX0_countCommons 99 = .ok (.iadd, 1) := by decide +kernel
theorem dX0_countCommons_100 : decode cX0_countCommons 100 = .ok (.invokestatic 33, 3) := by decide +kernel
theorem dX0_countCommons_103 : decode cX0_countCommons 103 = .ok (.invokestatic 37, 3) := by decide +kernel
theorem dX0_countCommons_106 : decode cX0_countCommons 106 = .ok (.invokestatic 41, 3) := by decide +kernel
theorem dX0_countCommons_109 : decode cX0_countCommons 109 = .ok (.istore 5, 2) := by decide +kernel
theorem dX0_countCommons_111 : decode cX0_countCommons 111 = .ok (.aload_n 0, 1) := by decide +kernel
theorem dX0_countCommons_112 : decode cX0_countCommons 112 = .ok (.getfield 9, 3) := by decide +kernel
theorem dX0_countCommons_115 : decode cX0_countCommons 115 = .ok (.iload_n 3, 1) := by decide +kernel
theorem dX0_countCommons_116 : decode cX0_countCommons 116 = .ok (.iload 4, 2) := by decide +kernel
theorem dX0_countCommons_118 : decode cX0_countCommons 118 = .ok (.invokestatic 33, 3) := by decide +kernel
theorem dX0_countCommons_121 : decode cX0_countCommons 121 = .ok (.iload 5, 2) := by decide +kernel
theorem dX0_countCommons_123 : decode cX0_countCommons 123 = .ok (.invokestatic 46, 3) := by decide +kernel
theorem dX0_countCommons_126 : decode cX0_countCommons 126 = .ok (.iinc 4 (-1), 3) := by decide +kernel
theorem dX0_countCommons_129 : decode cX0_countCommons 129 = .ok (.goto (-114), 3) := by decide +kernel
theorem dX0_countCommons_132 : decode cX0_countCommons 132 = .ok (.iinc 3 (-1), 3) := by decide +kernel
theorem dX0_countCommons_135 : decode cX0_countCommons 135 = .ok (.goto (-130), 3) := by decide +kernel
theorem dX0_countCommons_138 : decode cX0_countCommons 138 = .ok (.return_, 1) := by decide +kernel
set_option maxRecDepth 20000 in
theorem ggX1_init_X5_init : GoodIn wsX1_init wsX5_init := goodIn_r _ [16, 17, 2, 3, 11, 18, 51, 52] (by decide +kernel) (by decide +kernel)
set_option maxRecDepth 20000 in
theorem gX1_init_X5_init_n11 : GoodIn wsX1_init (wsX5_init) := ggX1_init_X5_init
set_option maxRecDepth 20000 in
theorem ggX1_init_X5_copy : GoodIn wsX1_init wsX5_copy := goodIn_r _ [22, 23, 24, 25, 26, 6, 27, 28, 29, 30, 31, 32, 33, 34, 35, 36, 37, 38, 39, 18, 40, 41, 42, 43, 44, 45, 46, 51, 52] (by decide +kernel) (by decide +kernel)
set_option maxRecDepth 20000 in
theorem gX1_init_X5_copy : GoodIn wsX1_init (wsV RX1 39 RX5 yX5_copy wsX5_copy) := goodIn_app (goodIn_of _ (by decide +kernel)) ggX1_init_X5_copy
set_option maxRecDepth 20000 in
theorem ggX1_init_J7_fill_53178 : GoodIn wsX1_init wsJ7_fill_53178 := goodIn_r _ [50] (by decide +kernel) (by decide +kernel)
set_option maxRecDepth 20000 in
theorem gX1_init_J7_fill_53178 : GoodIn wsX1_init (va_wsS RX1 43 yJ7_fill_53178 wsJ7_fill_53178) := goodIn_app (goodIn_of _ (by decide +kernel)) ggX1_init_J7_fill_53178
theorem dX1_init_0 : decode cX1_init 0 = .ok (.aload_n 0, 1) := by decide +kernel
theorem dX1_init_1 : decode cX1_init 1 = .ok (.invokespecial 3, 3) := by decide +kernel
theorem dX1_init_4 : decode cX1_init 4 = .ok (.aload_n 0, 1) := by decide +kernel
theorem dX1_init_5 : decode cX1_init 5 = .ok (.new 9, 3) := by decide +kernel
theorem dX1_init_8 : decode cX1_init 8 = .ok (.dup, 1) := by decide +kernel
theorem dX1_init_9 : decode cX1_init 9 = .ok (.invokespecial 11, 3) := by decide +kernel
theorem dX1_init_12 : decode cX1_init 12 = .ok (.putfield 12, 3) := by decide +kernel
theorem dX1_init_15 : decode cX1_init 15 = .ok (.aload_n 0, 1) := by decide +kernel
theorem dX1_init_16 : decode cX1_init 16 = .ok (.new 9, 3) := by decide +kernel
theorem dX1_init_19 : decode cX1_init 19 = .ok (.dup, 1) := by decide +kernel
theorem dX1_init_20 : decode cX1_init 20 = .ok (.invokespecial 11, 3) := by decide +kernel
theorem dX1_init_23 : decode cX1_init 23 = .ok (.putfield 18, 3) := by decide +kernel
theorem dX1_init_26 : decode cX1_init 26 = .ok (.aload_n 0, 1) := by decide +kernel
theorem dX1_init_27 : decode cX1_init 27 = .ok (.iconst 4, 1) := by decide +kernel
theorem dX1_init_28 : decode cX1_init 28 = .ok (.anewarray 9, 3) := by decide +kernel
theorem dX1_init_31 : decode cX1_init 31 = .ok (.putfield 21, 3) := by decide +kernel
theorem dX1_init_34 : decode cX1_init 34 = .ok (.aload_n 0, 1) := by decide +kernel
theorem dX1_init_35 : decode cX1_init 35 = .ok (.new 9, 3) := by decide +kernel
theorem dX1_init_38 : decode cX1_init 38 = .ok (.dup, 1) := by decide +kernel
theorem dX1_init_39 : decode cX1_init 39 = .ok (.invokespecial 11, 3) := by decide +kernel
theorem dX1_init_42 : decode cX1_init 42 = .ok (.putfield 25, 3) := by decide +kernel
theorem dX1_init_45 : decode cX1_init 45 = .ok (.aload_n 0, 1) := by decide +kernel
theorem dX1_init_46 : decode cX1_init 46 = .ok (.iconst 5, 1) := by decide +kernel
theorem dX1_init_47 : decode cX1_init 47 = .ok (.newarray .int, 2) := by decide +kernel
theorem dX1_init_49 : decode cX1_init 49 = .ok (.putfield 28, 3) := by decide +kernel
theorem dX1_init_52 : decode cX1_init 52 = .ok (.aload_n 0, 1) := by decide +kernel
theorem dX1_init_53 : decode cX1_init 53 = .ok (.iload_n 1, 1) := by decide +kernel
theorem dX1_init_54 : decode cX1_init 54 = .ok (.putfield 32, 3) := by decide +kernel
theorem dX1_init_57 : decode cX1_init 57 = .ok (.aload_n 0, 1) := by decide +kernel
theorem dX1_init_58 : decode cX1_init 58 = .ok (.iload_n 2, 1) := by decide +kernel
theorem dX1_init_59 : decode cX1_init 59 = .ok (.putfield 36, 3) := by decide +kernel
theorem dX1_init_62 : decode cX1_init 62 = .ok (.aload_n 0, 1) := by decide +kernel
theorem dX1_init_63 : decode cX1_init 63 = .ok (.getfield 12, 3) := by decide +kernel
theorem dX1_init_66 : decode cX1_init 66 = .ok (.aload_n 3, 1) := by decide +kernel
theorem dX1_init_67 : decode cX1_init 67 = .ok (.invokevirtual 39, 3) := by decide +kernel
theorem dX1_init_70 : decode cX1_init 70 = .ok (.aload_n 0, 1) := by decide +kernel
theorem dX1_init_71 : decode cX1_init 71 = .ok (.getfield 28, 3) := by decide +kernel
theorem dX1_init_74 : decode cX1_init 74 = .ok (.iconst (-1), 1) := by decide +kernel
theorem dX1_init_75 : decode cX1_init 75 = .ok (.invokestatic 43, 3) := by decide +kernel
theorem dX1_init_78 : decode cX1_init 78 = .ok (.return_, 1) := by decide +kernel
set_option maxRecDepth 20000 in
theorem ggX1_addRound_X5_init : GoodIn wsX1_addRound wsX5_init := goodIn_r _ [8, 9, 10, 11, 12, 13, 54, 55] (by decide +kernel) (by decide +kernel)
set_option maxRecDepth 20000 in
theorem gX1_addRound_X5_init_n11 : GoodIn wsX1_addRound (wsX5_init) := ggX1_addRound_X5_init
set_option maxRecDepth 20000 in
theorem ggX1_addRound_X5_copy : GoodIn wsX1_addRound wsX5_copy := goodIn_r _ [17, 18, 19, 20, 21, 5, 22, 23, 24, 25, 26, 27, 28, 29, 30, 31, 32, 33, 34, 13, 35, 36, 37, 38, 39, 40, 41, 54, 55] (by decide +kernel) (by decide +kernel)
set_option maxRecDepth 20000 in
theorem gX1_addRound_X5_copy : GoodIn wsX1_addRound (wsV RX1 39 RX5 yX5_copy wsX5_copy) := goodIn_app (goodIn_of _ (by decide +kernel)) ggX1_addRound_X5_copy
set_option maxRecDepth 20000 in
theorem ggX1_addRound_X5_clear : GoodIn wsX1_addRound wsX5_clear := goodIn_r _ [26, 18, 54, 55] (by decide +kernel) (by decide +kernel)
set_option maxRecDepth 20000 in
theorem gX1_addRound_X5_clear : GoodIn wsX1_addRound (wsV RX1 52 RX5 yX5_clear wsX5_clear) := goodIn_app (goodIn_of _ (by decide +kernel)) ggX1_addRound_X5_clear
theorem dX1_addRound_0 : decode cX1_addRound 0 = .ok (.aload_n 0, 1) := by decide +kernel
theorem dX1_addRound_1 : decode cX1_addRound 1 = .ok (.getfield 49, 3) := by decide +kernel
theorem dX1_addRound_4 : decode cX1_addRound 4 = .ok (.aload_n 0, 1) := by decide +kernel
theorem dX1_addRound_5 : decode cX1_addRound 5 = .ok (.getfield 21, 3) := by decide +kernel
theorem dX1_addRound_8 : decode cX1_addRound 8 = .ok (.arraylength, 1) := by decide +kernel
theorem dX1_addRound_9 : decode cX1_addRound 9 = .ok (.if_icmp .ge 46, 3) := by decide +kernel
theorem dX1_addRound_12 : decode cX1_addRound 12 = .ok (.new 9, 3) := by decide +kernel
theorem dX1_addRound_15 : decode cX1_addRound 15 = .ok (.dup, 1) := by decide +kernel
theorem dX1_addRound_16 : decode cX1_addRound 16 = .ok (.invokespecial 11, 3) := by decide +kernel
theorem dX1_addRound_19 : decode cX1_addRound 19 = .ok (.astore_n 1, 1) := by decide +kernel
theorem dX1_addRound_20 : decode cX1_addRound 20 = .ok (.aload_n 1, 1) := by decide +kernel
theorem dX1_addRound_21 : decode cX1_addRound 21 = .ok (.aload_n 0, 1) := by decide +kernel
theorem dX1_addRound_22 : decode cX1_addRound 22 = .ok (.getfield 18, 3) := by decide +kernel
theorem dX1_addRound_25 : decode cX1_addRound 25 = .ok (.invokevirtual 39, 3) := by decide +kernel
theorem dX1_addRound_28 : decode cX1_addRound 28 = .ok (.aload_n 0, 1) := by decide +kernel
theorem dX1_addRound_29 : decode cX1_addRound 29 = .ok (.getfield 21, 3) := by decide +kernel
theorem dX1_addRound_32 : decode cX1_addRound 32 = .ok (.aload_n 0, 1) := by decide +kernel
theorem dX1_addRound_33 : decode cX1_addRound 33 = .ok (.getfield 49, 3) := by decide +kernel
theorem dX1_addRound_36 : decode cX1_addRound 36 = .ok (.aload_n 1, 1) := by decide +kernel
theorem dX1_addRound_37 : decode cX1_addRound 37 = .ok (.aastore, 1) := by decide +kernel
theorem dX1_addRound_38 : decode cX1_addRound 38 = .ok (.aload_n 0, 1) := by decide +kernel
theorem dX1_addRound_39 : decode cX1_addRound 39 = .ok (.dup, 1) := by decide +kernel
theorem dX1_addRound_40 : decode cX1_addRound 40 = .ok (.getfield 49, 3) := by decide +kernel
theorem dX1_addRound_43 : decode cX1_addRound 43 = .ok (.iconst 1, 1) := by decide +kernel
theorem dX1_addRound_44 : decode cX1_addRound 44 = .ok (.iadd, 1) := by decide +kernel
theorem dX1_addRound_45 : decode cX1_addRound 45 = .ok (.putfield 49, 3) := by decide +kernel
theorem dX1_addRound_48 : decode cX1_addRound 48 = .ok (.aload_n 0, 1) := by decide +kernel
theorem dX1_addRound_49 : decode cX1_addRound 49 = .ok (.getfield 18, 3) := by decide +kernel
theorem dX1_addRound_52 : decode cX1_addRound 52 = .ok (.invokevirtual 52, 3) := by decide +kernel
theorem dX1_addRound_55 : decode cX1_addRound 55 = .ok (.return_, 1) := by decide +kernel
theorem dX1_textOf_0 : decode cX1_textOf 0 = .ok (.iload_n 1, 1) := by decide +kernel
theorem dX1_textOf_1 : decode cX1_textOf 1 = .ok (.ifCond .lt 21, 3) := by decide +kernel
theorem dX1_textOf_4 : decode cX1_textOf 4 = .ok (.iload_n 1, 1) := by decide +kernel
theorem dX1_textOf_5 : decode cX1_textOf 5 = .ok (.aload_n 0, 1) := by decide +kernel
theorem dX1_textOf_6 : decode cX1_textOf 6 = .ok (.getfield 21, 3) := by decide +kernel
theorem dX1_textOf_9 : decode cX1_textOf 9 = .ok (.arraylength, 1) := by decide +kernel
theorem dX1_textOf_10 : decode cX1_textOf 10 = .ok (.if_icmp .ge 12, 3) := by decide +kernel
theorem dX1_textOf_13 : decode cX1_textOf 13 = .ok (.aload_n 0, 1) := by decide +kernel
theorem dX1_textOf_14 : decode cX1_textOf 14 = .ok (.getfield 21, 3) := by decide +kernel
theorem dX1_textOf_17 : decode cX1_textOf 17 = .ok (.iload_n 1, 1) := by decide +kernel
theorem dX1_textOf_18 : decode cX1_textOf 18 = .ok (.aaload, 1) := by decide +kernel
theorem dX1_textOf_19 : decode cX1_textOf 19 = .ok (.goto 4, 3) := by decide +kernel
theorem dX1_textOf_22 : decode cX1_textOf 22 = .ok (.aconst_null, 1) := by decide +kernel
theorem dX1_textOf_23 : decode cX1_textOf 23 = .ok (.astore_n 2, 1) := by decide +kernel
theorem dX1_textOf_24 : decode cX1_textOf 24 = .ok (.aload_n 2, 1) := by decide +kernel
theorem dX1_textOf_25 : decode cX1_textOf 25 = .ok (.ifnonnull 10, 3) := by decide +kernel
theorem dX1_textOf_28 : decode cX1_textOf 28 = .ok (.aload_n 0, 1) := by decide +kernel
theorem dX1_textOf_29 : decode cX1_textOf 29 = .ok (.getfield 25, 3) := by decide +kernel
theorem dX1_textOf_32 : decode cX1_textOf 32 = .ok (.goto 4, 3) := by decide +kernel
theorem dX1_textOf_35 : decode cX1_textOf 35 = .ok (.aload_n 2, 1) := by decide +kernel
theorem dX1_textOf_36 : decode cX1_textOf 36 = .ok (.areturn, 1) := by decide +kernel
set_option maxRecDepth 20000 in
theorem ggX1_presentText_X1_textOf : GoodIn wsX1_presentText wsX1_textOf := goodIn_r _ [6, 7, 8, 9, 10, 11, 12, 13, 14, 15, 16, 17, 18, 19] (by decide +kernel) (by decide +kernel)
set_option maxRecDepth 20000 in
theorem gX1_presentText_X1_textOf : GoodIn wsX1_presentText (wsV RX1 55 RX1 yX1_textOf wsX1_textOf) := goodIn_app (goodIn_of _ (by decide +kernel)) ggX1_presentText_X1_textOf
theorem dX1_presentText_0 : decode cX1_presentText 0 = .ok (.aload_n 0, 1) := by decide +kernel
theorem dX1_presentText_1 : decode cX1_presentText 1 = .ok (.aload_n 0, 1) := by decide +kernel
theorem dX1_presentText_2 : decode cX1_presentText 2 = .ok (.getfield 49, 3) := by decide +kernel
theorem dX1_presentText_5 : decode cX1_presentText 5 = .ok (.iconst 1, 1) := by decide +kernel
theorem dX1_presentText_6 : decode cX1_presentText 6 = .ok (.isub, 1) := by decide +kernel
theorem dX1_presentText_7 : decode cX1_presentText 7 = .ok (.invokevirtual 55, 3) := by decide +kernel
theorem dX1_presentText_10 : decode cX1_presentText 10 = .ok (.areturn, 1) := by decide +kernel
set_option maxRecDepth 20000 in
theorem ggX1_isApprovedBy_X7_cell : GoodIn wsX1_isApprovedBy wsX7_cell := goodIn_r _ [4] (by decide +kernel) (by decide +kernel)
set_option maxRecDepth 20000 in
theorem gX1_isApprovedBy_X7_cell_n59 : GoodIn wsX1_isApprovedBy (wsX7_cell) := ggX1_isApprovedBy_X7_cell
theorem dX1_isApprovedBy_0 : decode cX1_isApprovedBy 0 = .ok (.aload_n 0, 1) := by decide +kernel
theorem dX1_isApprovedBy_1 : decode cX1_isApprovedBy 1 = .ok (.getfield 28, 3) := by decide +kernel
theorem dX1_isApprovedBy_4 : decode cX1_isApprovedBy 4 = .ok (.iload_n 1, 1) := by decide +kernel
theorem dX1_isApprovedBy_5 : decode cX1_isApprovedBy 5 = .ok (.invokestatic 59, 3) := by decide +kernel
theorem dX1_isApprovedBy_8 : decode cX1_isApprovedBy 8 = .ok (.iconst (-1), 1) := by decide +kernel
theorem dX1_isApprovedBy_9 : decode cX1_isApprovedBy 9 = .ok (.if_icmp .eq 7, 3) := by decide +kernel
theorem dX1_isApprovedBy_12 : decode cX1_isApprovedBy 12 = .ok (.iconst 1, 1) := by decide +kernel
theorem dX1_isApprovedBy_13 : decode cX1_isApprovedBy 13 = .ok (.goto 4, 3) := by decide +kernel
theorem dX1_isApprovedBy_16 : decode cX1_isApprovedBy 16 = .ok (.iconst 0, 1) := by decide +kernel
theorem dX1_isApprovedBy_17 : decode cX1_isApprovedBy 17 = .ok (.ireturn, 1) := by decide +kernel
set_option maxRecDepth 20000 in
theorem ggX1_approversOf_X7_cell : GoodIn wsX1_approversOf wsX7_cell := goodIn_r _ [4] (by decide +kernel) (by decide +kernel)
set_option maxRecDepth 20000 in
theorem gX1_approversOf_X7_cell_n59 : GoodIn wsX1_approversOf (wsX7_cell) := ggX1_approversOf_X7_cell
set_option maxRecDepth 20000 in
theorem ggX1_approversOf_X7_withBit : GoodIn wsX1_approversOf wsX7_withBit := goodIn_r _ [6] (by decide +kernel) (by decide +kernel)
set_option maxRecDepth 20000 in
theorem gX1_approversOf_X7_withBit_n63 : GoodIn wsX1_approversOf (wsX7_withBit) := ggX1_approversOf_X7_withBit
theorem dX1_approversOf_0 : decode cX1_approversOf 0 = .ok (.iconst 0, 1) := by decide +kernel
theorem dX1_approversOf_1 : decode cX1_approversOf 1 = .ok (.istore_n 2, 1) := by decide +kernel
theorem dX1_approversOf_2 : decode cX1_approversOf 2 = .ok (.iconst 0, 1) := by decide +kernel
theorem dX1_approversOf_3 : decode cX1_approversOf 3 = .ok (.istore_n 3, 1) := by decide +kernel
theorem dX1_approversOf_4 : decode cX1_approversOf 4 = .ok (.iload_n 3, 1) := by decide +kernel
theorem dX1_approversOf_5 : decode cX1_approversOf 5 = .ok (.iconst 5, 1) := by decide +kernel
theorem dX1_approversOf_6 : decode cX1_approversOf 6 = .ok (.if_icmp .ge 27, 3) := by decide +kernel
theorem dX1_approversOf_9 : decode cX1_approversOf 9 = .ok (.aload_n 0, 1) := by decide +kernel
theorem dX1_approversOf_10 : decode cX1_approversOf 10 = .ok (.getfield 28, 3) := by decide +kernel
theorem dX1_approversOf_13 : decode cX1_approversOf 13 = .ok (.iload_n 3, 1) := by decide +kernel
theorem dX1_approversOf_14 : decode cX1_approversOf 14 = .ok (.invokestatic 59, 3) := by decide +kernel
theorem dX1_approversOf_17 : decode cX1_approversOf 17 = .ok (.iload_n 1, 1) := by decide +kernel
theorem dX1_approversOf_18 : decode cX1_approversOf 18 = .ok (.if_icmp .ne 9, 3) := by decide +kernel
theorem dX1_approversOf_21 : decode cX1_approversOf 21 = .ok (.iload_n 2, 1) := by decide +kernel
theorem dX1_approversOf_22 : decode cX1_approversOf 22 = .ok (.iload_n 3, 1) := by decide +kernel
theorem dX1_approversOf_23 : decode cX1_approversOf 23 = .ok (.invokestatic 63, 3) := by decide +kernel
theorem dX1_approversOf_26 : decode cX1_approversOf 26 = .ok (.istore_n 2, 1) := by decide +kernel
theorem dX1_approversOf_27 : decode cX1_approversOf 27 = .ok (.iinc 3 1, 3) := by decide +kernel
theorem dX1_approversOf_30 : decode cX1_approversOf 30 = .ok (.goto (-26), 3) := by decide +kernel
theorem dX1_approversOf_33 : decode cX1_approversOf 33 = .ok (.iload_n 2, 1) := by decide +kernel
theorem dX1_approversOf_34 : decode cX1_approversOf 34 = .ok (.ireturn, 1) := by decide +kernel
set_option maxRecDepth 20000 in
theorem ggX2_init_X4_init : GoodIn wsX2_init wsX4_init := goodIn_r _ [17, 18, 2, 3, 19, 20, 21, 22, 27, 28, 29, 30] (by decide +kernel) (by decide +kernel)
set_option maxRecDepth 20000 in
theorem gX2_init_X4_init_n11 : GoodIn wsX2_init (wsX4_init) := ggX2_init_X4_init
set_option maxRecDepth 20000 in
theorem ggX2_init_X5_init : GoodIn wsX2_init wsX5_init := goodIn_r _ [24, 25, 2, 3, 19, 26, 38, 39] (by decide +kernel) (by decide +kernel)
set_option maxRecDepth 20000 in
theorem gX2_init_X5_init_n23 : GoodIn wsX2_init (wsX5_init) := ggX2_init_X5_init
theorem dX2_init_0 : decode cX2_init 0 = .ok (.aload_n 0, 1) := by decide +kernel
theorem dX2_init_1 : decode cX2_init 1 = .ok (.invokespecial 3, 3) := by decide +kernel
theorem dX2_init_4 : decode cX2_init 4 = .ok (.aload_n 0, 1) := by decide +kernel
theorem dX2_init_5 : decode cX2_init 5 = .ok (.new 9, 3) := by decide +kernel
theorem dX2_init_8 : decode cX2_init 8 = .ok (.dup, 1) := by decide +kernel
theorem dX2_init_9 : decode cX2_init 9 = .ok (.invokespecial 11, 3) := by decide +kernel
theorem dX2_init_12 : decode cX2_init 12 = .ok (.putfield 12, 3) := by decide +kernel
theorem dX2_init_15 : decode cX2_init 15 = .ok (.aload_n 0, 1) := by decide +kernel
theorem dX2_init_16 : decode cX2_init 16 = .ok (.new 9, 3) := by decide +kernel
theorem dX2_init_19 : decode cX2_init 19 = .ok (.dup, 1) := by decide +kernel
theorem dX2_init_20 : decode cX2_init 20 = .ok (.invokespecial 11, 3) := by decide +kernel
theorem dX2_init_23 : decode cX2_init 23 = .ok (.putfield 18, 3) := by decide +kernel
theorem dX2_init_26 : decode cX2_init 26 = .ok (.aload_n 0, 1) := by decide +kernel
theorem dX2_init_27 : decode cX2_init 27 = .ok (.new 21, 3) := by decide +kernel
theorem dX2_init_30 : decode cX2_init 30 = .ok (.dup, 1) := by decide +kernel
theorem dX2_init_31 : decode cX2_init 31 = .ok (.invokespecial 23, 3) := by decide +kernel
theorem dX2_init_34 : decode cX2_init 34 = .ok (.putfield 24, 3) := by decide +kernel
theorem dX2_init_37 : decode cX2_init 37 = .ok (.aload_n 0, 1) := by decide +kernel
theorem dX2_init_38 : decode cX2_init 38 = .ok (.new 21, 3) := by decide +kernel
theorem dX2_init_41 : decode cX2_init 41 = .ok (.dup, 1) := by decide +kernel
theorem dX2_init_42 : decode cX2_init 42 = .ok (.invokespecial 23, 3) := by decide +kernel
theorem dX2_init_45 : decode cX2_init 45 = .ok (.putfield 28, 3) := by decide +kernel
theorem dX2_init_48 : decode cX2_init 48 = .ok (.aload_n 0, 1) := by decide +kernel
theorem dX2_init_49 : decode cX2_init 49 = .ok (.new 21, 3) := by decide +kernel
theorem dX2_init_52 : decode cX2_init 52 = .ok (.dup, 1) := by decide +kernel
theorem dX2_init_53 : decode cX2_init 53 = .ok (.invokespecial 23, 3) := by decide +kernel
theorem dX2_init_56 : decode cX2_init 56 = .ok (.putfield 31, 3) := by decide +kernel
theorem dX2_init_59 : decode cX2_init 59 = .ok (.aload_n 0, 1) := by decide +kernel
theorem dX2_init_60 : decode cX2_init 60 = .ok (.new 21, 3) := by decide +kernel
theorem dX2_init_63 : decode cX2_init 63 = .ok (.dup, 1) := by decide +kernel
theorem dX2_init_64 : decode cX2_init 64 = .ok (.invokespecial 23, 3) := by decide +kernel
theorem dX2_init_67 : decode cX2_init 67 = .ok (.putfield 34, 3) := by decide +kernel
theorem dX2_init_70 : decode cX2_init 70 = .ok (.return_, 1) := by decide +kernel
set_option maxRecDepth 20000 in
theorem ggX2_merge_X4_find : GoodIn wsX2_merge wsX4_find := goodIn_r _ [12, 13, 14, 15, 11, 16, 17, 18, 19, 20, 21, 22, 23, 24, 25, 26, 27, 28, 29, 30, 31, 32, 33, 34, 35, 36, 37, 38, 39, 40, 41, 42, 43, 44, 45, 46, 47, 48, 49, 50, 51, 52, 53, 54, 55, 56, 57, 58, 101, 102, 103, 104, 105, 106] (by decide +kernel) (by decide +kernel)
set_option maxRecDepth 20000 in
theorem gX2_merge_X4_find : GoodIn wsX2_merge (wsV RX2 37 RX4 yX4_find wsX4_find) := goodIn_app (goodIn_of _ (by decide +kernel)) ggX2_merge_X4_find
set_option maxRecDepth 20000 in
theorem ggX2_merge_X5_clear : GoodIn wsX2_merge wsX5_clear := goodIn_r _ [62, 27, 105, 106] (by decide +kernel) (by decide +kernel)
set_option maxRecDepth 20000 in
theorem gX2_merge_X5_clear : GoodIn wsX2_merge (wsV RX2 41 RX5 yX5_clear wsX5_clear) := goodIn_app (goodIn_of _ (by decide +kernel)) ggX2_merge_X5_clear
set_option maxRecDepth 20000 in
theorem ggX2_merge_X5_size : GoodIn wsX2_merge wsX5_size := goodIn_r _ [26, 27, 105, 106] (by decide +kernel) (by decide +kernel)
set_option maxRecDepth 20000 in
theorem gX2_merge_X5_size : GoodIn wsX2_merge (wsV RX2 48 RX5 yX5_size wsX5_size) := goodIn_app (goodIn_of _ (by decide +kernel)) ggX2_merge_X5_size
set_option maxRecDepth 20000 in
theorem ggX2_merge_X4_keptAs : GoodIn wsX2_merge wsX4_keptAs := goodIn_r _ [67, 45, 36, 34, 37, 101, 102, 103, 104] (by decide +kernel) (by decide +kernel)
set_option maxRecDepth 20000 in
theorem gX2_merge_X4_keptAs : GoodIn wsX2_merge (wsV RX2 52 RX4 yX4_keptAs wsX4_keptAs) := goodIn_app (goodIn_of _ (by decide +kernel)) ggX2_merge_X4_keptAs
set_option maxRecDepth 20000 in
theorem ggX2_merge_X5_copyRow : GoodIn wsX2_merge wsX5_copyRow := goodIn_r _ [71, 72, 60, 61, 25, 62, 27, 73, 74, 75, 76, 77, 29, 30, 31, 32, 78, 79, 80, 81, 38, 34, 39, 105, 106] (by decide +kernel) (by decide +kernel)
set_option maxRecDepth 20000 in
theorem gX2_merge_X5_copyRow : GoodIn wsX2_merge (wsV RX2 56 RX5 yX5_copyRow wsX5_copyRow) := goodIn_app (goodIn_of _ (by decide +kernel)) ggX2_merge_X5_copyRow
set_option maxRecDepth 20000 in
theorem ggX2_merge_X2_mergeRows : GoodIn wsX2_merge wsX2_mergeRows := goodIn_r _ [86, 6, 5, 3, 7, 4, 87, 88, 89, 25, 90, 27, 77, 29, 30, 31, 32, 63, 23, 24, 26, 91, 74, 75, 76, 78, 79, 80, 81, 38, 34, 39, 94, 95, 96, 97, 98, 99, 100, 105, 106] (by decide +kernel) (by decide +kernel)
set_option maxRecDepth 20000 in
theorem gX2_merge_X2_mergeRows : GoodIn wsX2_merge (wsV RX2 60 RX2 yX2_mergeRows wsX2_mergeRows) := goodIn_app (goodIn_of _ (by decide +kernel)) ggX2_merge_X2_mergeRows
set_option maxRecDepth 20000 in
theorem ggX2_merge_X5_at : GoodIn wsX2_merge wsX5_at := goodIn_r _ [31, 27, 32, 105, 106] (by decide +kernel) (by decide +kernel)
set_option maxRecDepth 20000 in
theorem gX2_merge_X5_at : GoodIn wsX2_merge (wsV RX2 63 RX5 yX5_at wsX5_at) := goodIn_app (goodIn_of _ (by decide +kernel)) ggX2_merge_X5_at
set_option maxRecDepth 20000 in
theorem ggX2_merge_X5_append : GoodIn wsX2_merge wsX5_append := goodIn_r _ [81, 27, 32, 38, 34, 39, 105, 106] (by decide +kernel) (by decide +kernel)
set_option maxRecDepth 20000 in
theorem gX2_merge_X5_append : GoodIn wsX2_merge (wsV RX2 66 RX5 yX5_append wsX5_append) := goodIn_app (goodIn_of _ (by decide +kernel)) ggX2_merge_X5_append
theorem dX2_merge_0 : decode cX2_merge 0 = .ok (.aload_n 0, 1) := by decide +kernel
theorem dX2_merge_1 : decode cX2_merge 1 = .ok (.getfield 12, 3) := by decide +kernel
theorem dX2_merge_4 : decode cX2_merge 4 = .ok (.aload_n 1, 1) := by decide +kernel
theorem dX2_merge_5 : decode cX2_merge 5 = .ok (.aload_n 2, 1) := by decide +kernel
theorem dX2_merge_6 : decode cX2_merge 6 = .ok (.invokevirtual 37, 3) := by decide +kernel
theorem dX2_merge_9 : decode cX2_merge 9 = .ok (.aload_n 0, 1) := by decide +kernel
theorem dX2_merge_10 : decode cX2_merge 10 = .ok (.getfield 18, 3) := by decide +kernel
theorem dX2_merge_13 : decode cX2_merge 13 = .ok (.aload_n 1, 1) := by decide +kernel
theorem dX2_merge_14 : decode cX2_merge 14 = .ok (.aload_n 3, 1) := by decide +kernel
theorem dX2_merge_15 : decode cX2_merge 15 = .ok (.invokevirtual 37, 3) := by decide +kernel
theorem dX2_merge_18 : decode cX2_merge 18 = .ok (.aload_n 0, 1) := by decide +kernel
theorem dX2_merge_19 : decode cX2_merge 19 = .ok (.getfield 34, 3) := by decide +kernel
theorem dX2_merge_22 : decode cX2_merge 22 = .ok (.invokevirtual 41, 3) := by decide +kernel
theorem dX2_merge_25 : decode cX2_merge 25 = .ok (.aload_n 0, 1) := by decide +kernel
theorem dX2_merge_26 : decode cX2_merge 26 = .ok (.iconst 0, 1) := by decide +kernel
theorem dX2_merge_27 : decode cX2_merge 27 = .ok (.putfield 44, 3) := by decide +kernel
theorem dX2_merge_30 : decode cX2_merge 30 = .ok (.iconst 0, 1) := by decide +kernel
theorem dX2_merge_31 : decode cX2_merge 31 = .ok (.istore 4, 2) := by decide +kernel
theorem dX2_merge_33 : decode cX2_merge 33 = .ok (.iconst 0, 1) := by decide +kernel
theorem dX2_merge_34 : decode cX2_merge 34 = .ok (.istore 5, 2) := by decide +kernel
theorem dX2_merge_36 : decode cX2_merge 36 = .ok (.iconst 0, 1) := by decide +kernel
theorem dX2_merge_37 : decode cX2_merge 37 = .ok (.istore 6, 2) := by decide +kernel
theorem dX2_merge_39 : decode cX2_merge 39 = .ok (.iconst 0, 1) := by decide +kernel
theorem dX2_merge_40 : decode cX2_merge 40 = .ok (.istore 7, 2) := by decide +kernel
theorem dX2_merge_42 : decode cX2_merge 42 = .ok (.iload 7, 2) := by decide +kernel
theorem dX2_merge_44 : decode cX2_merge 44 = .ok (.aload_n 1, 1) := by decide +kernel
theorem dX2_merge_45 : decode cX2_merge 45 = .ok (.invokevirtual 48, 3) := by decide +kernel
theorem dX2_merge_48 : decode cX2_merge 48 = .ok (.if_icmp .ge 114, 3) := by decide +kernel
theorem dX2_merge_51 : decode cX2_merge 51 = .ok (.aload_n 0, 1) := by decide +kernel
theorem dX2_merge_52 : decode cX2_merge 52 = .ok (.getfield 12, 3) := by decide +kernel
theorem dX2_merge_55 : decode cX2_merge 55 = .ok (.iload 7, 2) := by decide +kernel
theorem dX2_merge_57 : decode cX2_merge 57 = .ok (.invokevirtual 52, 3) := by decide +kernel
theorem dX2_merge_60 : decode cX2_merge 60 = .ok (.istore 8, 2) := by decide +kernel
theorem dX2_merge_62 : decode cX2_merge 62 = .ok (.aload_n 0, 1) := by decide +kernel
theorem dX2_merge_63 : decode cX2_merge 63 = .ok (.getfield 18, 3) := by decide +kernel
theorem dX2_merge_66 : decode cX2_merge 66 = .ok (.iload 7, 2) := by decide +kernel
theorem dX2_merge_68 : decode cX2_merge 68 = .ok (.invokevirtual 52, 3) := by decide +kernel
theorem dX2_merge_71 : decode cX2_merge 71 = .ok (.istore 9, 2) := by decide +kernel
theorem dX2_merge_73 : decode cX2_merge 73 = .ok (.iload 8, 2) := by decide +kernel
theorem dX2_merge_75 : decode cX2_merge 75 = .ok (.iconst (-1), 1) := by decide +kernel
theorem dX2_merge_76 : decode cX2_merge 76 = .ok (.if_icmp .eq 80, 3) := by decide +kernel
theorem dX2_merge_79 : decode cX2_merge 79 = .ok (.iload 9, 2) := by decide +kernel
theorem dX2_merge_81 : decode cX2_merge 81 = .ok (.iconst (-1), 1) := by decide +kernel
theorem dX2_merge_82 : decode cX2_merge 82 = .ok (.if_icmp .eq 74, 3) := by decide +kernel
theorem dX2_merge_85 : decode cX2_merge 85 = .ok (.aload_n 0, 1) := by decide +kernel
theorem dX2_merge_86 : decode cX2_merge 86 = .ok (.getfield 24, 3) := by decide +kernel
theorem dX2_merge_89 : decode cX2_merge 89 = .ok (.aload_n 1, 1) := by decide +kernel
theorem dX2_merge_90 : decode cX2_merge 90 = .ok (.iload 4, 2) := by decide +kernel
theorem dX2_merge_92 : decode cX2_merge 92 = .ok (.iload 7, 2) := by decide +kernel
theorem dX2_merge_94 : decode cX2_merge 94 = .ok (.invokevirtual 56, 3) := by decide +kernel
theorem dX2_merge_97 : decode cX2_merge 97 = .ok (.aload_n 0, 1) := by decide +kernel
theorem dX2_merge_98 : decode cX2_merge 98 = .ok (.getfield 28, 3) := by decide +kernel
theorem dX2_merge_101 : decode cX2_merge 101 = .ok (.aload_n 2, 1) := by decide +kernel
theorem dX2_merge_102 : decode cX2_merge 102 = .ok (.iload 5, 2) := by decide +kernel
theorem dX2_merge_104 : decode cX2_merge 104 = .ok (.iload 8, 2) := by decide +kernel
theorem dX2_merge_106 : decode cX2_merge 106 = .ok (.invokevirtual 56, 3) := by decide +kernel
theorem dX2_merge_109 : decode cX2_merge 109 = .ok (.aload_n 0, 1) := by decide +kernel
theorem dX2_merge_110 : decode cX2_merge 110 = .ok (.getfield 31, 3) := by decide +kernel
theorem dX2_merge_113 : decode cX2_merge 113 = .ok (.aload_n 3, 1) := by decide +kernel
theorem dX2_merge_114 : decode cX2_merge 114 = .ok (.iload 6, 2) := by decide +kernel
theorem dX2_merge_116 : decode cX2_merge 116 = .ok (.iload 9, 2) := by decide +kernel
theorem dX2_merge_118 : decode cX2_merge 118 = .ok (.invokevirtual 56, 3) := by decide +kernel
theorem dX2_merge_121 : decode cX2_merge 121 = .ok (.aload_n 0, 1) := by decide +kernel
theorem dX2_merge_122 : decode cX2_merge 122 = .ok (.invokevirtual 60, 3) := by decide +kernel
theorem dX2_merge_125 : decode cX2_merge 125 = .ok (.aload_n 0, 1) := by decide +kernel
theorem dX2_merge_126 : decode cX2_merge 126 = .ok (.getfield 34, 3) := by decide +kernel
theorem dX2_merge_129 : decode cX2_merge 129 = .ok (.aload_n 1, 1) := by decide +kernel
theorem dX2_merge_130 : decode cX2_merge 130 = .ok (.iload 7, 2) := by decide +kernel
theorem dX2_merge_132 : decode cX2_merge 132 = .ok (.invokevirtual 63, 3) := by decide +kernel
theorem dX2_merge_135 : decode cX2_merge 135 = .ok (.invokevirtual 66, 3) := by decide +kernel
theorem dX2_merge_138 : decode cX2_merge 138 = .ok (.iload 7, 2) := by decide +kernel
theorem dX2_merge_140 : decode cX2_merge 140 = .ok (.iconst 1, 1) := by decide +kernel
theorem dX2_merge_141 : decode cX2_merge 141 = .ok (.iadd, 1) := by decide +kernel
theorem dX2_merge_142 : decode cX2_merge 142 = .ok (.istore 4, 2) := by decide +kernel
theorem dX2_merge_144 : decode cX2_merge 144 = .ok (.iload 8, 2) := by decide +kernel
theorem dX2_merge_146 : decode cX2_merge 146 = .ok (.iconst 1, 1) := by decide +kernel
theorem dX2_merge_147 : decode cX2_merge 147 = .ok (.iadd, 1) := by decide +kernel
theorem dX2_merge_148 : decode cX2_merge 148 = .ok (.istore 5, 2) := by decide +kernel
theorem dX2_merge_150 : decode cX2_merge 150 = .ok (.iload 9, 2) := by decide +kernel
theorem dX2_merge_152 : decode cX2_merge 152 = .ok (.iconst 1, 1) := by decide +kernel
theorem dX2_merge_153 : decode cX2_merge 153 = .ok (.iadd, 1) := by decide +kernel
theorem dX2_merge_154 : decode cX2_merge 154 = .ok (.istore 6, 2) := by decide +kernel
theorem dX2_merge_156 : decode cX2_merge 156 = .ok (.iinc 7 1, 3) := by decide +kernel
theorem dX2_merge_159 : decode cX2_merge 159 = .ok (.goto (-117), 3) := by decide +kernel
theorem dX2_merge_162 : decode cX2_merge 162 = .ok (.aload_n 0, 1) := by decide +kernel
theorem dX2_merge_163 : decode cX2_merge 163 = .ok (.getfield 24, 3) := by decide +kernel
theorem dX2_merge_166 : decode cX2_merge 166 = .ok (.aload_n 1, 1) := by decide +kernel
theorem dX2_merge_167 : decode cX2_merge 167 = .ok (.iload 4, 2) := by decide +kernel
theorem dX2_merge_169 : decode cX2_merge 169 = .ok (.aload_n 1, 1) := by decide +kernel
theorem dX2_merge_170 : decode cX2_merge 170 = .ok (.invokevirtual 48, 3) := by decide +kernel
theorem dX2_merge_173 : decode cX2_merge 173 = .ok (.invokevirtual 56, 3) := by decide +kernel
theorem dX2_merge_176 : decode cX2_merge 176 = .ok (.aload_n 0, 1) := by decide +kernel
theorem dX2_merge_177 : decode cX2_merge 177 = .ok (.getfield 28, 3) := by decide +kernel
theorem dX2_merge_180 : decode cX2_merge 180 = .ok (.aload_n 2, 1) := by decide +kernel
theorem dX2_merge_181 : decode cX2_merge 181 = .ok (.iload 5, 2) := by decide +kernel
theorem dX2_merge_183 : decode cX2_merge 183 = .ok (.aload_n 2, 1) := by decide +kernel
theorem dX2_merge_184 : decode cX2_merge 184 = .ok (.invokevirtual 48, 3) := by decide +kernel
theorem dX2_merge_187 : decode cX2_merge 187 = .ok (.invokevirtual 56, 3) := by decide +kernel
theorem dX2_merge_190 : decode cX2_merge 190 = .ok (.aload_n 0, 1) := by decide +kernel
theorem dX2_merge_191 : decode cX2_merge 191 = .ok (.getfield 31, 3) := by decide +kernel
theorem dX2_merge_194 : decode cX2_merge 194 = .ok (.aload_n 3, 1) := by decide +kernel
theorem dX2_merge_195 : decode cX2_merge 195 = .ok (.iload 6, 2) := by decide +kernel
theorem dX2_merge_197 : decode cX2_merge 197 = .ok (.aload_n 3, 1) := by decide +kernel
theorem dX2_merge_198 : decode cX2_merge 198 = .ok (.invokevirtual 48, 3) := by decide +kernel
theorem dX2_merge_201 : decode cX2_merge 201 = .ok (.invokevirtual 56, 3) := by decide +kernel
theorem dX2_merge_204 : decode cX2_merge 204 = .ok (.aload_n 0, 1) := by decide +kernel
theorem dX2_merge_205 : decode cX2_merge 205 = .ok (.invokevirtual 60, 3) := by decide +kernel
theorem dX2_merge_208 : decode cX2_merge 208 = .ok (.return_, 1) := by decide +kernel
set_option maxRecDepth 20000 in
theorem ggX2_mergeRows_X5_isSameAs : GoodIn wsX2_mergeRows wsX5_isSameAs := goodIn_r _ [10, 11, 12, 13, 14, 9, 15, 16, 39, 40] (by decide +kernel) (by decide +kernel)
set_option maxRecDepth 20000 in
theorem gX2_mergeRows_X5_isSameAs : GoodIn wsX2_mergeRows (wsV RX2 70 RX5 yX5_isSameAs wsX5_isSameAs) := goodIn_app (goodIn_of _ (by decide +kernel)) ggX2_mergeRows_X5_isSameAs
set_option maxRecDepth 20000 in
theorem ggX2_mergeRows_X5_size : GoodIn wsX2_mergeRows wsX5_size := goodIn_r _ [20, 11, 39, 40] (by decide +kernel) (by decide +kernel)
set_option maxRecDepth 20000 in
theorem gX2_mergeRows_X5_size : GoodIn wsX2_mergeRows (wsV RX2 48 RX5 yX5_size wsX5_size) := goodIn_app (goodIn_of _ (by decide +kernel)) ggX2_mergeRows_X5_size
set_option maxRecDepth 20000 in
theorem ggX2_mergeRows_X5_appendRow : GoodIn wsX2_mergeRows wsX5_appendRow := goodIn_r _ [24, 12, 13, 14, 9, 15, 11, 16, 25, 26, 27, 28, 29, 30, 31, 39, 40] (by decide +kernel) (by decide +kernel)
set_option maxRecDepth 20000 in
theorem gX2_mergeRows_X5_appendRow : GoodIn wsX2_mergeRows (wsV RX2 74 RX5 yX5_appendRow wsX5_appendRow) := goodIn_app (goodIn_of _ (by decide +kernel)) ggX2_mergeRows_X5_appendRow
theorem dX2_mergeRows_0 : decode cX2_mergeRows 0 = .ok (.aload_n 0, 1) := by decide +kernel
theorem dX2_mergeRows_1 : decode cX2_mergeRows 1 = .ok (.getfield 28, 3) := by decide +kernel
theorem dX2_mergeRows_4 : decode cX2_mergeRows 4 = .ok (.aload_n 0, 1) := by decide +kernel
theorem dX2_mergeRows_5 : decode cX2_mergeRows 5 = .ok (.getfield 24, 3) := by decide +kernel
theorem dX2_mergeRows_8 : decode cX2_mergeRows 8 = .ok (.invokevirtual 70, 3) := by decide +kernel
theorem dX2_mergeRows_11 : decode cX2_mergeRows 11 = .ok (.ifCond .eq 25, 3) := by decide +kernel
theorem dX2_mergeRows_14 : decode cX2_mergeRows 14 = .ok (.aload_n 0, 1) := by decide +kernel
theorem dX2_mergeRows_15 : decode cX2_mergeRows 15 = .ok (.getfield 34, 3) := by decide +kernel
theorem dX2_mergeRows_18 : decode cX2_mergeRows 18 = .ok (.aload_n 0, 1) := by decide +kernel
theorem dX2_mergeRows_19 : decode cX2_mergeRows 19 = .ok (.getfield 31, 3) := by decide +kernel
theorem dX2_mergeRows_22 : decode cX2_mergeRows 22 = .ok (.iconst 0, 1) := by decide +kernel
theorem dX2_mergeRows_23 : decode cX2_mergeRows 23 = .ok (.aload_n 0, 1) := by decide +kernel
theorem dX2_mergeRows_24 : decode cX2_mergeRows 24 = .ok (.getfield 31, 3) := by decide +kernel
theorem dX2_mergeRows_27 : decode cX2_mergeRows 27 = .ok (.invokevirtual 48, 3) := by decide +kernel
theorem dX2_mergeRows_30 : decode cX2_mergeRows 30 = .ok (.invokevirtual 74, 3) := by decide +kernel
theorem dX2_mergeRows_33 : decode cX2_mergeRows 33 = .ok (.goto 58, 3) := by decide +kernel
theorem dX2_mergeRows_36 : decode cX2_mergeRows 36 = .ok (.aload_n 0, 1) := by decide +kernel
theorem dX2_mergeRows_37 : decode cX2_mergeRows 37 = .ok (.getfield 31, 3) := by decide +kernel
theorem dX2_mergeRows_40 : decode cX2_mergeRows 40 = .ok (.aload_n 0, 1) := by decide +kernel
theorem dX2_mergeRows_41 : decode cX2_mergeRows 41 = .ok (.getfield 24, 3) := by decide +kernel
theorem dX2_mergeRows_44 : decode cX2_mergeRows 44 = .ok (.invokevirtual 70, 3) := by decide +kernel
theorem dX2_mergeRows_47 : decode cX2_mergeRows 47 = .ok (.ifCond .ne 17, 3) := by decide +kernel
theorem dX2_mergeRows_50 : decode cX2_mergeRows 50 = .ok (.aload_n 0, 1) := by decide +kernel
theorem dX2_mergeRows_51 : decode cX2_mergeRows 51 = .ok (.getfield 31, 3) := by decide +kernel
theorem dX2_mergeRows_54 : decode cX2_mergeRows 54 = .ok (.aload_n 0, 1) := by decide +kernel
theorem dX2_mergeRows_55 : decode cX2_mergeRows 55 = .ok (.getfield 28, 3) := by decide +kernel
theorem dX2_mergeRows_58 : decode cX2_mergeRows 58 = .ok (.invokevirtual 70, 3) := by decide +kernel
theorem dX2_mergeRows_61 : decode cX2_mergeRows 61 = .ok (.ifCond .eq 25, 3) := by decide +kernel
theorem dX2_mergeRows_64 : decode cX2_mergeRows 64 = .ok (.aload_n 0, 1) := by decide +kernel
theorem dX2_mergeRows_65 : decode cX2_mergeRows 65 = .ok (.getfield 34, 3) := by decide +kernel
theorem dX2_mergeRows_68 : decode cX2_mergeRows 68 = .ok (.aload_n 0, 1) := by decide +kernel
theorem dX2_mergeRows_69 : decode cX2_mergeRows 69 = .ok (.getfield 28, 3) := by decide +kernel
theorem dX2_mergeRows_72 : decode cX2_mergeRows 72 = .ok (.iconst 0, 1) := by decide +kernel
theorem dX2_mergeRows_73 : decode cX2_mergeRows 73 = .ok (.aload_n 0, 1) := by decide +kernel
theorem dX2_mergeRows_74 : decode cX2_mergeRows 74 = .ok (.getfield 28, 3) := by decide +kernel
theorem dX2_mergeRows_77 : decode cX2_mergeRows 77 = .ok (.invokevirtual 48, 3) := by decide +kernel
theorem dX2_mergeRows_80 : decode cX2_mergeRows 80 = .ok (.invokevirtual 74, 3) := by decide +kernel
theorem dX2_mergeRows_83 : decode cX2_mergeRows 83 = .ok (.goto 8, 3) := by decide +kernel
theorem dX2_mergeRows_86 : decode cX2_mergeRows 86 = .ok (.aload_n 0, 1) := by decide +kernel
theorem dX2_mergeRows_87 : decode cX2_mergeRows 87 = .ok (.iconst 1, 1) := by decide +kernel
theorem dX2_mergeRows_88 : decode cX2_mergeRows 88 = .ok (.putfield 44, 3) := by decide +kernel
theorem dX2_mergeRows_91 : decode cX2_mergeRows 91 = .ok (.return_, 1) := by decide +kernel
theorem dX3_init_0 : decode cX3_init 0 = .ok (.aload_n 0, 1) := by decide +kernel
theorem dX3_init_1 : decode cX3_init 1 = .ok (.invokespecial 1, 3) := by decide +kernel
theorem dX3_init_4 : decode cX3_init 4 = .ok (.aload_n 0, 1) := by decide +kernel
theorem dX3_init_5 : decode cX3_init 5 = .ok (.aload_n 1, 1) := by decide +kernel
theorem dX3_init_6 : decode cX3_init 6 = .ok (.putfield 7, 3) := by decide +kernel
theorem dX3_init_9 : decode cX3_init 9 = .ok (.aload_n 0, 1) := by decide +kernel
theorem dX3_init_10 : decode cX3_init 10 = .ok (.iload_n 2, 1) := by decide +kernel
theorem dX3_init_11 : decode cX3_init 11 = .ok (.putfield 13, 3) := by decide +kernel
theorem dX3_init_14 : decode cX3_init 14 = .ok (.aload_n 0, 1) := by decide +kernel
theorem dX3_init_15 : decode cX3_init 15 = .ok (.iload_n 3, 1) := by decide +kernel
theorem dX3_init_16 : decode cX3_init 16 = .ok (.putfield 17, 3) := by decide +kernel
theorem dX3_init_19 : decode cX3_init 19 = .ok (.return_, 1) := by decide +kernel
theorem dX4_init_0 : decode cX4_init 0 = .ok (.aload_n 0, 1) := by decide +kernel
theorem dX4_init_1 : decode cX4_init 1 = .ok (.invokespecial 3, 3) := by decide +kernel
theorem dX4_init_4 : decode cX4_init 4 = .ok (.aload_n 0, 1) := by decide +kernel
theorem dX4_init_5 : decode cX4_init 5 = .ok (.sipush 169, 3) := by decide +kernel
theorem dX4_init_8 : decode cX4_init 8 = .ok (.newarray .int, 2) := by decide +kernel
theorem dX4_init_10 : decode cX4_init 10 = .ok (.putfield 9, 3) := by decide +kernel
theorem dX4_init_13 : decode cX4_init 13 = .ok (.aload_n 0, 1) := by decide +kernel
theorem dX4_init_14 : decode cX4_init 14 = .ok (.bipush 12, 2) := by decide +kernel
theorem dX4_init_16 : decode cX4_init 16 = .ok (.newarray .int, 2) := by decide +kernel
theorem dX4_init_18 : decode cX4_init 18 = .ok (.putfield 15, 3) := by decide +kernel
theorem dX4_init_21 : decode cX4_init 21 = .ok (.aload_n 0, 1) := by decide +kernel
theorem dX4_init_22 : decode cX4_init 22 = .ok (.bipush 24, 2) := by decide +kernel
theorem dX4_init_24 : decode cX4_init 24 = .ok (.newarray .int, 2) := by decide +kernel
theorem dX4_init_26 : decode cX4_init 26 = .ok (.putfield 18, 3) := by decide +kernel
theorem dX4_init_29 : decode cX4_init 29 = .ok (.return_, 1) := by decide +kernel
set_option maxRecDepth 20000 in
theorem ggX4_find_X4_fillRests : GoodIn wsX4_find wsX4_fillRests := goodIn_r _ [5, 6, 7, 8, 9, 10, 11, 12, 13, 14, 15, 16, 17, 18, 19, 20, 21, 22, 23, 24, 25, 26, 27, 28, 48, 49, 50, 51, 52, 53] (by decide +kernel) (by decide +kernel)
set_option maxRecDepth 20000 in
theorem gX4_find_X4_fillRests : GoodIn wsX4_find (wsV RX4 21 RX4 yX4_fillRests wsX4_fillRests) := goodIn_app (goodIn_of _ (by decide +kernel)) ggX4_find_X4_fillRests
set_option maxRecDepth 20000 in
theorem ggX4_find_X4_follow : GoodIn wsX4_find wsX4_follow := goodIn_r _ [32, 33, 34, 11, 12, 13, 14, 15, 16, 35, 36, 37, 38, 17, 18, 19, 20, 21, 27, 23, 28, 39, 40, 41, 4, 42, 6, 22, 24, 25, 26, 43, 44, 45, 46, 47, 48, 49, 50, 51, 52, 53] (by decide +kernel) (by decide +kernel)
set_option maxRecDepth 20000 in
theorem gX4_find_X4_follow : GoodIn wsX4_find (wsV RX4 25 RX4 yX4_follow wsX4_follow) := goodIn_app (goodIn_of _ (by decide +kernel)) ggX4_find_X4_follow
theorem dX4_find_0 : decode cX4_find 0 = .ok (.aload_n 0, 1) := by decide +kernel
theorem dX4_find_1 : decode cX4_find 1 = .ok (.aload_n 1, 1) := by decide +kernel
theorem dX4_find_2 : decode cX4_find 2 = .ok (.aload_n 2, 1) := by decide +kernel
theorem dX4_find_3 : decode cX4_find 3 = .ok (.invokevirtual 21, 3) := by decide +kernel
theorem dX4_find_6 : decode cX4_find 6 = .ok (.aload_n 0, 1) := by decide +kernel
theorem dX4_find_7 : decode cX4_find 7 = .ok (.aload_n 1, 1) := by decide +kernel
theorem dX4_find_8 : decode cX4_find 8 = .ok (.aload_n 2, 1) := by decide +kernel
theorem dX4_find_9 : decode cX4_find 9 = .ok (.invokevirtual 25, 3) := by decide +kernel
theorem dX4_find_12 : decode cX4_find 12 = .ok (.return_, 1) := by decide +kernel
theorem dX4_size_0 : decode cX4_size 0 = .ok (.aload_n 0, 1) := by decide +kernel
theorem dX4_size_1 : decode cX4_size 1 = .ok (.getfield 28, 3) := by decide +kernel
theorem dX4_size_4 : decode cX4_size 4 = .ok (.ireturn, 1) := by decide +kernel
set_option maxRecDepth 20000 in
theorem ggX4_keptAs_X7_cell : GoodIn wsX4_keptAs wsX7_cell := goodIn_r _ [4] (by decide +kernel) (by decide +kernel)
set_option maxRecDepth 20000 in
theorem gX4_keptAs_X7_cell_n32 : GoodIn wsX4_keptAs (wsX7_cell) := ggX4_keptAs_X7_cell
theorem dX4_keptAs_0 : decode cX4_keptAs 0 = .ok (.aload_n 0, 1) := by decide +kernel
theorem dX4_keptAs_1 : decode cX4_keptAs 1 = .ok (.getfield 15, 3) := by decide +kernel
theorem dX4_keptAs_4 : decode cX4_keptAs 4 = .ok (.iload_n 1, 1) := by decide +kernel
theorem dX4_keptAs_5 : decode cX4_keptAs 5 = .ok (.invokestatic 32, 3) := by decide +kernel
theorem dX4_keptAs_8 : decode cX4_keptAs 8 = .ok (.ireturn, 1) := by decide +kernel
set_option maxRecDepth 20000 in
theorem ggX4_alteredContent_X7_cell : GoodIn wsX4_alteredContent wsX7_cell := goodIn_r _ [4] (by decide +kernel) (by decide +kernel)
set_option maxRecDepth 20000 in
theorem gX4_alteredContent_X7_cell_n32 : GoodIn wsX4_alteredContent (wsX7_cell) := ggX4_alteredContent_X7_cell
theorem dX4_alteredContent_0 : decode cX4_alteredContent 0 = .ok (.aload_n 0, 1) := by decide +kernel
theorem dX4_alteredContent_1 : decode cX4_alteredContent 1 = .ok (.getfield 18, 3) := by decide +kernel
theorem dX4_alteredContent_4 : decode cX4_alteredContent 4 = .ok (.iload_n 1, 1) := by decide +kernel
theorem dX4_alteredContent_5 : decode cX4_alteredContent 5 = .ok (.invokestatic 32, 3) := by decide +kernel
theorem dX4_alteredContent_8 : decode cX4_alteredContent 8 = .ok (.ireturn, 1) := by decide +kernel
set_option maxRecDepth 20000 in
theorem ggX4_fillRests_X5_size : GoodIn wsX4_fillRests wsX5_size := goodIn_r _ [10, 11, 28, 29] (by decide +kernel) (by decide +kernel)
set_option maxRecDepth 20000 in
theorem gX4_fillRests_X5_size : GoodIn wsX4_fillRests (wsV RX4 36 RX5 yX5_size wsX5_size) := goodIn_app (goodIn_of _ (by decide +kernel)) ggX4_fillRests_X5_size
set_option maxRecDepth 20000 in
theorem ggX4_fillRests_X5_at : GoodIn wsX4_fillRests wsX5_at := goodIn_r _ [15, 11, 16, 28, 29] (by decide +kernel) (by decide +kernel)
set_option maxRecDepth 20000 in
theorem gX4_fillRests_X5_at : GoodIn wsX4_fillRests (wsV RX4 41 RX5 yX5_at wsX5_at) := goodIn_app (goodIn_of _ (by decide +kernel)) ggX4_fillRests_X5_at
set_option maxRecDepth 20000 in
theorem ggX4_fillRests_X7_place : GoodIn wsX4_fillRests wsX7_place := goodIn_r _ [19] (by decide +kernel) (by decide +kernel)
set_option maxRecDepth 20000 in
theorem gX4_fillRests_X7_place_n45 : GoodIn wsX4_fillRests (wsX7_place) := ggX4_fillRests_X7_place
set_option maxRecDepth 20000 in
theorem ggX4_fillRests_X7_cell : GoodIn wsX4_fillRests wsX7_cell := goodIn_r _ [21] (by decide +kernel) (by decide +kernel)
set_option maxRecDepth 20000 in
theorem gX4_fillRests_X7_cell_n32 : GoodIn wsX4_fillRests (wsX7_cell) := ggX4_fillRests_X7_cell
set_option maxRecDepth 20000 in
theorem ggX4_fillRests_X7_put : GoodIn wsX4_fillRests wsX7_put := goodIn_r _ [23] (by decide +kernel) (by decide +kernel)
set_option maxRecDepth 20000 in
theorem gX4_fillRests_X7_put_n54 : GoodIn wsX4_fillRests (wsX7_put) := ggX4_fillRests_X7_put
theorem dX4_fillRests_0 : decode cX4_fillRests 0 = .ok (.aload_n 1, 1) := by decide +kernel
theorem dX4_fillRests_1 : decode cX4_fillRests 1 = .ok (.invokevirtual 36, 3) := by decide +kernel
theorem dX4_fillRests_4 : decode cX4_fillRests 4 = .ok (.istore_n 3, 1) := by decide +kernel
theorem dX4_fillRests_5 : decode cX4_fillRests 5 = .ok (.aload_n 2, 1) := by decide +kernel
theorem dX4_fillRests_6 : decode cX4_fillRests 6 = .ok (.invokevirtual 36, 3) := by decide +kernel
theorem dX4_fillRests_9 : decode cX4_fillRests 9 = .ok (.istore 4, 2) := by decide +kernel
theorem dX4_fillRests_11 : decode cX4_fillRests 11 = .ok (.iload_n 3, 1) := by decide +kernel
theorem dX4_fillRests_12 : decode cX4_fillRests 12 = .ok (.istore 5, 2) := by decide +kernel
theorem dX4_fillRests_14 : decode cX4_fillRests 14 = .ok (.iload 5, 2) := by decide +kernel
theorem dX4_fillRests_16 : decode cX4_fillRests 16 = .ok (.ifCond .lt 145, 3) := by decide +kernel
theorem dX4_fillRests_19 : decode cX4_fillRests 19 = .ok (.iload 4, 2) := by decide +kernel
theorem dX4_fillRests_21 : decode cX4_fillRests 21 = .ok (.istore 6, 2) := by decide +kernel
theorem dX4_fillRests_23 : decode cX4_fillRests 23 = .ok (.iload 6, 2) := by decide +kernel
theorem dX4_fillRests_25 : decode cX4_fillRests 25 = .ok (.ifCond .lt 130, 3) := by decide +kernel
theorem dX4_fillRests_28 : decode cX4_fillRests 28 = .ok (.iload 5, 2) := by decide +kernel
theorem dX4_fillRests_30 : decode cX4_fillRests 30 = .ok (.iload_n 3, 1) := by decide +kernel
theorem dX4_fillRests_31 : decode cX4_fillRests 31 = .ok (.if_icmp .eq 10, 3) := by decide +kernel
theorem dX4_fillRests_34 : decode cX4_fillRests 34 = .ok (.iload 6, 2) := by decide +kernel
theorem dX4_fillRests_36 : decode cX4_fillRests 36 = .ok (.iload 4, 2) := by decide +kernel
theorem dX4_fillRests_38 : decode cX4_fillRests 38 = .ok (.if_icmp .ne 18, 3) := by decide +kernel
theorem dX4_fillRests_41 : decode cX4_fillRests 41 = .ok (.iload_n 3, 1) := by decide +kernel
theorem dX4_fillRests_42 : decode cX4_fillRests 42 = .ok (.iload 5, 2) := by decide +kernel
theorem dX4_fillRests_44 : decode cX4_fillRests 44 = .ok (.isub, 1) := by decide +kernel
theorem dX4_fillRests_45 : decode cX4_fillRests 45 = .ok (.iload 4, 2) := by decide +kernel
theorem dX4_fillRests_47 : decode cX4_fillRests 47 = .ok (.iadd, 1) := by decide +kernel
theorem dX4_fillRests_48 : decode cX4_fillRests 48 = .ok (.iload 6, 2) := by decide +kernel
theorem dX4_fillRests_50 : decode cX4_fillRests 50 = .ok (.isub, 1) := by decide +kernel
theorem dX4_fillRests_51 : decode cX4_fillRests 51 = .ok (.istore 7, 2) := by decide +kernel
theorem dX4_fillRests_53 : decode cX4_fillRests 53 = .ok (.goto 80, 3) := by decide +kernel
theorem dX4_fillRests_56 : decode cX4_fillRests 56 = .ok (.aload_n 1, 1) := by decide +kernel
theorem dX4_fillRests_57 : decode cX4_fillRests 57 = .ok (.iload 5, 2) := by decide +kernel
theorem dX4_fillRests_59 : decode cX4_fillRests 59 = .ok (.invokevirtual 41, 3) := by decide +kernel
theorem dX4_fillRests_62 : decode cX4_fillRests 62 = .ok (.aload_n 2, 1) := by decide +kernel
theorem dX4_fillRests_63 : decode cX4_fillRests 63 = .ok (.iload 6, 2) := by decide +kernel
theorem dX4_fillRests_65 : decode cX4_fillRests 65 = .ok (.invokevirtual 41, 3) := by decide +kernel
theorem dX4_fillRests_68 : decode cX4_fillRests 68 = .ok (.if_icmp .ne 26, 3) := by decide +kernel
theorem dX4_fillRests_71 : decode cX4_fillRests 71 = .ok (.aload_n 0, 1) := by decide +kernel
theorem dX4_fillRests_72 : decode cX4_fillRests 72 = .ok (.getfield 9, 3) := by decide +kernel
theorem dX4_fillRests_75 : decode cX4_fillRests 75 = .ok (.iload 5, 2) := by decide +kernel
theorem dX4_fillRests_77 : decode cX4_fillRests 77 = .ok (.iconst 1, 1) := by decide +kernel
theorem dX4_fillRests_78 : decode cX4_fillRests 78 = .ok (.iadd, 1) := by decide +kernel
theorem dX4_fillRests_79 : decode cX4_fillRests 79 = .ok (.iload 6, 2) := by decide +kernel
theorem dX4_fillRests_81 : decode cX4_fillRests 81 = .ok (.iconst 1, 1) := by decide +kernel
theorem dX4_fillRests_82 : decode cX4_fillRests 82 = .ok (.iadd, 1) := by decide +kernel
theorem dX4_fillRests_83 : decode cX4_fillRests 83 = .ok (.invokestatic 45, 3) := by decide +kernel
theorem dX4_fillRests_86 : decode cX4_fillRests 86 = .ok (.invokestatic 32, 3) := by decide +kernel
theorem dX4_fillRests_89 : decode cX4_fillRests 89 = .ok (.istore 7, 2) := by decide +kernel
theorem dX4_fillRests_91 : decode cX4_fillRests 91 = .ok (.goto 42, 3) := by decide +kernel
theorem dX4_fillRests_94 : decode cX4_fillRests 94 = .ok (.iconst 1, 1) := by decide +kernel
theorem dX4_fillRests_95 : decode cX4_fillRests 95 = .ok (.aload_n 0, 1) := by decide +kernel
theorem dX4_fillRests_96 : decode cX4_fillRests 96 = .ok (.getfield 9, 3) := by decide +kernel
theorem dX4_fillRests_99 : decode cX4_fillRests 99 = .ok (.iload 5, 2) := by decide +kernel
theorem dX4_fillRests_101 : decode cX4_fillRests 101 = .ok (.iconst 1, 1) := by decide +kernel
theorem dX4_fillRests_102 : decode cX4_fillRests 102 = .ok (.iadd, 1) := by decide +kernel
theorem dX4_fillRests_103 : decode cX4_fillRests 103 = .ok (.iload 6, 2) := by decide +kernel
theorem dX4_fillRests_105 : decode cX4_fillRests 105 = .ok (.invokestatic 45, 3) := by decide +kernel
theorem dX4_fillRests_108 : decode cX4_fillRests 108 = .ok (.invokestatic 32, 3) := by decide +kernel
theorem dX4_fillRests_111 : decode cX4_fillRests 111 = .ok (.aload_n 0, 1) := by decide +kernel
theorem dX4_fillRests_112 : decode cX4_fillRests 112 = .ok (.getfield 9, 3) := by decide +kernel
theorem dX4_fillRests_115 : decode cX4_fillRests 115 = .ok (.iload 5, 2) := by decide +kernel
theorem dX4_fillRests_117 : decode cX4_fillRests 117 = .ok (.iload 6, 2) := by decide +kernel
theorem dX4_fillRests_119 : decode cX4_fillRests 119 = .ok (.iconst 1, 1) := by decide +kernel
theorem dX4_fillRests_120 : decode cX4_fillRests 120 = .ok (.iadd, 1) := by decide +kernel
theorem dX4_fillRests_121 : decode cX4_fillRests 121 = .ok (.invokestatic 45, 3) := by decide +kernel
theorem dX4_fillRests_124 : decode cX4_fillRests 124 = .ok (.invokestatic 32, 3) := by decide +kernel
theorem dX4_fillRests_127 : decode cX4_fillRests 127 = .ok (.invokestatic 49, 3) := by decide +kernel
theorem dX4_fillRests_130 : decode cX4_fillRests 130 = .ok (.iadd, 1) := by decide +kernel
theorem dX4_fillRests_131 : decode cX4_fillRests 131 = .ok (.istore 7, 2) := by decide +kernel
theorem dX4_fillRests_133 : decode cX4_fillRests 133 = .ok (.aload_n 0, 1) := by decide +kernel
theorem dX4_fillRests_134 : decode cX4_fillRests 134 = .ok (.getfield 9, 3) := by decide +kernel
theorem dX4_fillRests_137 : decode cX4_fillRests 137 = .ok (.iload 5, 2) := by decide +kernel
theorem dX4_fillRests_139 : decode cX4_fillRests 139 = .ok (.iload 6, 2) := by decide +kernel
theorem dX4_fillRests_141 : decode cX4_fillRests 141 = .ok (.invokestatic 45, 3) := by decide +kernel
theorem dX4_fillRests_144 : decode cX4_fillRests 144 = .ok (.iload 7, 2) := by decide +kernel
theorem dX4_fillRests_146 : decode cX4_fillRests 146 = .ok (.invokestatic 54, 3) := by decide +kernel
theorem dX4_fillRests_149 : decode cX4_fillRests 149 = .ok (.iinc 6 (-1), 3) := by decide +kernel
theorem dX4_fillRests_152 : decode cX4_fillRests 152 = .ok (.goto (-129), 3) := by decide +kernel
theorem dX4_fillRests_155 : decode cX4_fillRests 155 = .ok (.iinc 5 (-1), 3) := by decide +kernel
theorem dX4_fillRests_158 : decode cX4_fillRests 158 = .ok (.goto (-144), 3) := by decide +kernel
theorem dX4_fillRests_161 : decode cX4_fillRests 161 = .ok (.return_, 1) := by decide +kernel
set_option maxRecDepth 20000 in
theorem ggX4_follow_X5_size : GoodIn wsX4_follow wsX5_size := goodIn_r _ [7, 8, 40, 41] (by decide +kernel) (by decide +kernel)
set_option maxRecDepth 20000 in
theorem gX4_follow_X5_size : GoodIn wsX4_follow (wsV RX4 36 RX5 yX5_size wsX5_size) := goodIn_app (goodIn_of _ (by decide +kernel)) ggX4_follow_X5_size
set_option maxRecDepth 20000 in
theorem ggX4_follow_X5_has : GoodIn wsX4_follow wsX5_has := goodIn_r _ [12, 8, 40, 41] (by decide +kernel) (by decide +kernel)
set_option maxRecDepth 20000 in
theorem gX4_follow_X5_has : GoodIn wsX4_follow (wsV RX4 58 RX5 yX5_has wsX5_has) := goodIn_app (goodIn_of _ (by decide +kernel)) ggX4_follow_X5_has
set_option maxRecDepth 20000 in
theorem ggX4_follow_X5_at : GoodIn wsX4_follow wsX5_at := goodIn_r _ [16, 8, 17, 40, 41] (by decide +kernel) (by decide +kernel)
set_option maxRecDepth 20000 in
theorem gX4_follow_X5_at : GoodIn wsX4_follow (wsV RX4 41 RX5 yX5_at wsX5_at) := goodIn_app (goodIn_of _ (by decide +kernel)) ggX4_follow_X5_at
set_option maxRecDepth 20000 in
theorem ggX4_follow_X7_put : GoodIn wsX4_follow wsX7_put := goodIn_r _ [20] (by decide +kernel) (by decide +kernel)
set_option maxRecDepth 20000 in
theorem gX4_follow_X7_put_n54 : GoodIn wsX4_follow (wsX7_put) := ggX4_follow_X7_put
set_option maxRecDepth 20000 in
theorem ggX4_follow_X4_removesFirst : GoodIn wsX4_follow wsX4_removesFirst := goodIn_r _ [25, 26, 27, 19, 28, 29, 30, 36, 37, 38, 39] (by decide +kernel) (by decide +kernel)
set_option maxRecDepth 20000 in
theorem gX4_follow_X4_removesFirst : GoodIn wsX4_follow (wsV RX4 62 RX4 yX4_removesFirst wsX4_removesFirst) := goodIn_app (goodIn_of _ (by decide +kernel)) ggX4_follow_X4_removesFirst
set_option maxRecDepth 20000 in
theorem ggX4_follow_X4_alter : GoodIn wsX4_follow wsX4_alter := goodIn_r _ [34, 35, 1, 18, 19, 20, 36, 37, 38, 39] (by decide +kernel) (by decide +kernel)
set_option maxRecDepth 20000 in
theorem gX4_follow_X4_alter : GoodIn wsX4_follow (wsV RX4 66 RX4 yX4_alter wsX4_alter) := goodIn_app (goodIn_of _ (by decide +kernel)) ggX4_follow_X4_alter
theorem dX4_follow_0 : decode cX4_follow 0 = .ok (.iconst 0, 1) := by decide +kernel
theorem dX4_follow_1 : decode cX4_follow 1 = .ok (.istore_n 3, 1) := by decide +kernel
theorem dX4_follow_2 : decode cX4_follow 2 = .ok (.iconst 0, 1) := by decide +kernel
theorem dX4_follow_3 : decode cX4_follow 3 = .ok (.istore 4, 2) := by decide +kernel
theorem dX4_follow_5 : decode cX4_follow 5 = .ok (.aload_n 0, 1) := by decide +kernel
theorem dX4_follow_6 : decode cX4_follow 6 = .ok (.iconst 0, 1) := by decide +kernel
theorem dX4_follow_7 : decode cX4_follow 7 = .ok (.putfield 28, 3) := by decide +kernel
theorem dX4_follow_10 : decode cX4_follow 10 = .ok (.iconst 0, 1) := by decide +kernel
theorem dX4_follow_11 : decode cX4_follow 11 = .ok (.istore 5, 2) := by decide +kernel
theorem dX4_follow_13 : decode cX4_follow 13 = .ok (.iload 5, 2) := by decide +kernel
theorem dX4_follow_15 : decode cX4_follow 15 = .ok (.aload_n 1, 1) := by decide +kernel
theorem dX4_follow_16 : decode cX4_follow 16 = .ok (.invokevirtual 36, 3) := by decide +kernel
theorem dX4_follow_19 : decode cX4_follow 19 = .ok (.aload_n 2, 1) := by decide +kernel
theorem dX4_follow_20 : decode cX4_follow 20 = .ok (.invokevirtual 36, 3) := by decide +kernel
theorem dX4_follow_23 : decode cX4_follow 23 = .ok (.iadd, 1) := by decide +kernel
theorem dX4_follow_24 : decode cX4_follow 24 = .ok (.if_icmp .ge 132, 3) := by decide +kernel
theorem dX4_follow_27 : decode cX4_follow 27 = .ok (.aload_n 1, 1) := by decide +kernel
theorem dX4_follow_28 : decode cX4_follow 28 = .ok (.iload_n 3, 1) := by decide +kernel
theorem dX4_follow_29 : decode cX4_follow 29 = .ok (.invokevirtual 58, 3) := by decide +kernel
theorem dX4_follow_32 : decode cX4_follow 32 = .ok (.ifCond .eq 45, 3) := by decide +kernel
theorem dX4_follow_35 : decode cX4_follow 35 = .ok (.aload_n 2, 1) := by decide +kernel
theorem dX4_follow_36 : decode cX4_follow 36 = .ok (.iload 4, 2) := by decide +kernel
theorem dX4_follow_38 : decode cX4_follow 38 = .ok (.invokevirtual 58, 3) := by decide +kernel
theorem dX4_follow_41 : decode cX4_follow 41 = .ok (.ifCond .eq 36, 3) := by decide +kernel
theorem dX4_follow_44 : decode cX4_follow 44 = .ok (.aload_n 1, 1) := by decide +kernel
theorem dX4_follow_45 : decode cX4_follow 45 = .ok (.iload_n 3, 1) := by decide +kernel
theorem dX4_follow_46 : decode cX4_follow 46 = .ok (.invokevirtual 41, 3) := by decide +kernel
theorem dX4_follow_49 : decode cX4_follow 49 = .ok (.aload_n 2, 1) := by decide +kernel
theorem dX4_follow_50 : decode cX4_follow 50 = .ok (.iload 4, 2) := by decide +kernel
theorem dX4_follow_52 : decode cX4_follow 52 = .ok (.invokevirtual 41, 3) := by decide +kernel
theorem dX4_follow_55 : decode cX4_follow 55 = .ok (.if_icmp .ne 22, 3) := by decide +kernel
theorem dX4_follow_58 : decode cX4_follow 58 = .ok (.aload_n 0, 1) := by decide +kernel
theorem dX4_follow_59 : decode cX4_follow 59 = .ok (.getfield 15, 3) := by decide +kernel
theorem dX4_follow_62 : decode cX4_follow 62 = .ok (.iload_n 3, 1) := by decide +kernel
theorem dX4_follow_63 : decode cX4_follow 63 = .ok (.iload 4, 2) := by decide +kernel
theorem dX4_follow_65 : decode cX4_follow 65 = .ok (.invokestatic 54, 3) := by decide +kernel
theorem dX4_follow_68 : decode cX4_follow 68 = .ok (.iinc 3 1, 3) := by decide +kernel
theorem dX4_follow_71 : decode cX4_follow 71 = .ok (.iinc 4 1, 3) := by decide +kernel
theorem dX4_follow_74 : decode cX4_follow 74 = .ok (.goto 76, 3) := by decide +kernel
theorem dX4_follow_77 : decode cX4_follow 77 = .ok (.aload_n 1, 1) := by decide +kernel
theorem dX4_follow_78 : decode cX4_follow 78 = .ok (.iload_n 3, 1) := by decide +kernel
theorem dX4_follow_79 : decode cX4_follow 79 = .ok (.invokevirtual 58, 3) := by decide +kernel
theorem dX4_follow_82 : decode cX4_follow 82 = .ok (.ifCond .eq 46, 3) := by decide +kernel
theorem dX4_follow_85 : decode cX4_follow 85 = .ok (.aload_n 2, 1) := by decide +kernel
theorem dX4_follow_86 : decode cX4_follow 86 = .ok (.iload 4, 2) := by decide +kernel
theorem dX4_follow_88 : decode cX4_follow 88 = .ok (.invokevirtual 58, 3) := by decide +kernel
theorem dX4_follow_91 : decode cX4_follow 91 = .ok (.ifCond .eq 13, 3) := by decide +kernel
theorem dX4_follow_94 : decode cX4_follow 94 = .ok (.aload_n 0, 1) := by decide +kernel
theorem dX4_follow_95 : decode cX4_follow 95 = .ok (.iload_n 3, 1) := by decide +kernel
theorem dX4_follow_96 : decode cX4_follow 96 = .ok (.iload 4, 2) := by decide +kernel
theorem dX4_follow_98 : decode cX4_follow 98 = .ok (.invokevirtual 62, 3) := by decide +kernel
theorem dX4_follow_101 : decode cX4_follow 101 = .ok (.ifCond .eq 27, 3) := by decide +kernel
theorem dX4_follow_104 : decode cX4_follow 104 = .ok (.aload_n 0, 1) := by decide +kernel
theorem dX4_follow_105 : decode cX4_follow 105 = .ok (.getfield 15, 3) := by decide +kernel
theorem dX4_follow_108 : decode cX4_follow 108 = .ok (.iload_n 3, 1) := by decide +kernel
theorem dX4_follow_109 : decode cX4_follow 109 = .ok (.iconst (-1), 1) := by decide +kernel
theorem dX4_follow_110 : decode cX4_follow 110 = .ok (.invokestatic 54, 3) := by decide +kernel
theorem dX4_follow_113 : decode cX4_follow 113 = .ok (.aload_n 0, 1) := by decide +kernel
theorem dX4_follow_114 : decode cX4_follow 114 = .ok (.aload_n 1, 1) := by decide +kernel
theorem dX4_follow_115 : decode cX4_follow 115 = .ok (.iload_n 3, 1) := by decide +kernel
theorem dX4_follow_116 : decode cX4_follow 116 = .ok (.invokevirtual 41, 3) := by decide +kernel
theorem dX4_follow_119 : decode cX4_follow 119 = .ok (.invokevirtual 66, 3) := by decide +kernel
theorem dX4_follow_122 : decode cX4_follow 122 = .ok (.iinc 3 1, 3) := by decide +kernel
theorem dX4_follow_125 : decode cX4_follow 125 = .ok (.goto 25, 3) := by decide +kernel
theorem dX4_follow_128 : decode cX4_follow 128 = .ok (.aload_n 2, 1) := by decide +kernel
theorem dX4_follow_129 : decode cX4_follow 129 = .ok (.iload 4, 2) := by decide +kernel
theorem dX4_follow_131 : decode cX4_follow 131 = .ok (.invokevirtual 58, 3) := by decide +kernel
theorem dX4_follow_134 : decode cX4_follow 134 = .ok (.ifCond .eq 16, 3) := by decide +kernel
theorem dX4_follow_137 : decode cX4_follow 137 = .ok (.aload_n 0, 1) := by decide +kernel
theorem dX4_follow_138 : decode cX4_follow 138 = .ok (.aload_n 2, 1) := by decide +kernel
theorem dX4_follow_139 : decode cX4_follow 139 = .ok (.iload 4, 2) := by decide +kernel
theorem dX4_follow_141 : decode cX4_follow 141 = .ok (.invokevirtual 41, 3) := by decide +kernel
theorem dX4_follow_144 : decode cX4_follow 144 = .ok (.invokevirtual 66, 3) := by decide +kernel
theorem dX4_follow_147 : decode cX4_follow 147 = .ok (.iinc 4 1, 3) := by decide +kernel
theorem dX4_follow_150 : decode cX4_follow 150 = .ok (.iinc 5 1, 3) := by decide +kernel
theorem dX4_follow_153 : decode cX4_follow 153 = .ok (.goto (-140), 3) := by decide +kernel
theorem dX4_follow_156 : decode cX4_follow 156 = .ok (.return_, 1) := by decide +kernel
set_option maxRecDepth 20000 in
theorem ggX4_removesFirst_X7_place : GoodIn wsX4_removesFirst wsX7_place := goodIn_r _ [4] (by decide +kernel) (by decide +kernel)
set_option maxRecDepth 20000 in
theorem gX4_removesFirst_X7_place_n45 : GoodIn wsX4_removesFirst (wsX7_place) := ggX4_removesFirst_X7_place
set_option maxRecDepth 20000 in
theorem ggX4_removesFirst_X7_cell : GoodIn wsX4_removesFirst wsX7_cell := goodIn_r _ [6] (by decide +kernel) (by decide +kernel)
set_option maxRecDepth 20000 in
theorem gX4_removesFirst_X7_cell_n32 : GoodIn wsX4_removesFirst (wsX7_cell) := ggX4_removesFirst_X7_cell
theorem dX4_removesFirst_0 : decode cX4_removesFirst 0 = .ok (.aload_n 0, 1) := by decide +kernel
theorem dX4_removesFirst_1 : decode cX4_removesFirst 1 = .ok (.getfield 9, 3) := by decide +kernel
theorem dX4_removesFirst_4 : decode cX4_removesFirst 4 = .ok (.iload_n 1, 1) := by decide +kernel
theorem dX4_removesFirst_5 : decode cX4_removesFirst 5 = .ok (.iconst 1, 1) := by decide +kernel
theorem dX4_removesFirst_6 : decode cX4_removesFirst 6 = .ok (.iadd, 1) := by decide +kernel
theorem dX4_removesFirst_7 : decode cX4_removesFirst 7 = .ok (.iload_n 2, 1) := by decide +kernel
theorem dX4_removesFirst_8 : decode cX4_removesFirst 8 = .ok (.invokestatic 45, 3) := by decide +kernel
theorem dX4_removesFirst_11 : decode cX4_removesFirst 11 = .ok (.invokestatic 32, 3) := by decide +kernel
theorem dX4_removesFirst_14 : decode cX4_removesFirst 14 = .ok (.aload_n 0, 1) := by decide +kernel
theorem dX4_removesFirst_15 : decode cX4_removesFirst 15 = .ok (.getfield 9, 3) := by decide +kernel
theorem dX4_removesFirst_18 : decode cX4_removesFirst 18 = .ok (.iload_n 1, 1) := by decide +kernel
theorem dX4_removesFirst_19 : decode cX4_removesFirst 19 = .ok (.iload_n 2, 1) := by decide +kernel
theorem dX4_removesFirst_20 : decode cX4_removesFirst 20 = .ok (.iconst 1, 1) := by decide +kernel
theorem dX4_removesFirst_21 : decode cX4_removesFirst 21 = .ok (.iadd, 1) := by decide +kernel
theorem dX4_removesFirst_22 : decode cX4_removesFirst 22 = .ok (.invokestatic 45, 3) := by decide +kernel
theorem dX4_removesFirst_25 : decode cX4_removesFirst 25 = .ok (.invokestatic 32, 3) := by decide +kernel
theorem dX4_removesFirst_28 : decode cX4_removesFirst 28 = .ok (.if_icmp .gt 7, 3) := by decide +kernel
theorem dX4_removesFirst_31 : decode cX4_removesFirst 31 = .ok (.iconst 1, 1) := by decide +kernel
theorem dX4_removesFirst_32 : decode cX4_removesFirst 32 = .ok (.goto 4, 3) := by decide +kernel
theorem dX4_removesFirst_35 : decode cX4_removesFirst 35 = .ok (.iconst 0, 1) := by decide +kernel
theorem dX4_removesFirst_36 : decode cX4_removesFirst 36 = .ok (.ireturn, 1) := by decide +kernel
set_option maxRecDepth 20000 in
theorem ggX4_alter_X7_put : GoodIn wsX4_alter wsX7_put := goodIn_r _ [5] (by decide +kernel) (by decide +kernel)
set_option maxRecDepth 20000 in
theorem gX4_alter_X7_put_n54 : GoodIn wsX4_alter (wsX7_put) := ggX4_alter_X7_put
theorem dX4_alter_0 : decode cX4_alter 0 = .ok (.aload_n 0, 1) := by decide +kernel
theorem dX4_alter_1 : decode cX4_alter 1 = .ok (.getfield 18, 3) := by decide +kernel
theorem dX4_alter_4 : decode cX4_alter 4 = .ok (.aload_n 0, 1) := by decide +kernel
theorem dX4_alter_5 : decode cX4_alter 5 = .ok (.getfield 28, 3) := by decide +kernel
theorem dX4_alter_8 : decode cX4_alter 8 = .ok (.iload_n 1, 1) := by decide +kernel
theorem dX4_alter_9 : decode cX4_alter 9 = .ok (.invokestatic 54, 3) := by decide +kernel
theorem dX4_alter_12 : decode cX4_alter 12 = .ok (.aload_n 0, 1) := by decide +kernel
theorem dX4_alter_13 : decode cX4_alter 13 = .ok (.dup, 1) := by decide +kernel
theorem dX4_alter_14 : decode cX4_alter 14 = .ok (.getfield 28, 3) := by decide +kernel
theorem dX4_alter_17 : decode cX4_alter 17 = .ok (.iconst 1, 1) := by decide +kernel
theorem dX4_alter_18 : decode cX4_alter 18 = .ok (.iadd, 1) := by decide +kernel
theorem dX4_alter_19 : decode cX4_alter 19 = .ok (.putfield 28, 3) := by decide +kernel
theorem dX4_alter_22 : decode cX4_alter 22 = .ok (.return_, 1) := by decide +kernel
theorem dX5_init_0 : decode cX5_init 0 = .ok (.aload_n 0, 1) := by decide +kernel
theorem dX5_init_1 : decode cX5_init 1 = .ok (.invokespecial 3, 3) := by decide +kernel
theorem dX5_init_4 : decode cX5_init 4 = .ok (.aload_n 0, 1) := by decide +kernel
theorem dX5_init_5 : decode cX5_init 5 = .ok (.bipush 24, 2) := by decide +kernel
theorem dX5_init_7 : decode cX5_init 7 = .ok (.newarray .int, 2) := by decide +kernel
theorem dX5_init_9 : decode cX5_init 9 = .ok (.putfield 9, 3) := by decide +kernel
theorem dX5_init_12 : decode cX5_init 12 = .ok (.return_, 1) := by decide +kernel
theorem dX5_size_0 : decode cX5_size 0 = .ok (.aload_n 0, 1) := by decide +kernel
theorem dX5_size_1 : decode cX5_size 1 = .ok (.getfield 15, 3) := by decide +kernel
theorem dX5_size_4 : decode cX5_size 4 = .ok (.ireturn, 1) := by decide +kernel
theorem dX5_has_0 : decode cX5_has 0 = .ok (.iload_n 1, 1) := by decide +kernel
theorem dX5_has_1 : decode cX5_has 1 = .ok (.ifCond .lt 15, 3) := by decide +kernel
theorem dX5_has_4 : decode cX5_has 4 = .ok (.iload_n 1, 1) := by decide +kernel
theorem dX5_has_5 : decode cX5_has 5 = .ok (.aload_n 0, 1) := by decide +kernel
theorem dX5_has_6 : decode cX5_has 6 = .ok (.getfield 15, 3) := by decide +kernel
theorem dX5_has_9 : decode cX5_has 9 = .ok (.if_icmp .ge 7, 3) := by decide +kernel
theorem dX5_has_12 : decode cX5_has 12 = .ok (.iconst 1, 1) := by decide +kernel
theorem dX5_has_13 : decode cX5_has 13 = .ok (.goto 4, 3) := by decide +kernel
theorem dX5_has_16 : decode cX5_has 16 = .ok (.iconst 0, 1) := by decide +kernel
theorem dX5_has_17 : decode cX5_has 17 = .ok (.ireturn, 1) := by decide +kernel
theorem dX5_at_0 : decode cX5_at 0 = .ok (.iload_n 1, 1) := by decide +kernel
theorem dX5_at_1 : decode cX5_at 1 = .ok (.ifCond .lt 29, 3) := by decide +kernel
theorem dX5_at_4 : decode cX5_at 4 = .ok (.iload_n 1, 1) := by decide +kernel
theorem dX5_at_5 : decode cX5_at 5 = .ok (.aload_n 0, 1) := by decide +kernel
theorem dX5_at_6 : decode cX5_at 6 = .ok (.getfield 15, 3) := by decide +kernel
theorem dX5_at_9 : decode cX5_at 9 = .ok (.if_icmp .ge 21, 3) := by decide +kernel
theorem dX5_at_12 : decode cX5_at 12 = .ok (.iload_n 1, 1) := by decide +kernel
theorem dX5_at_13 : decode cX5_at 13 = .ok (.aload_n 0, 1) := by decide +kernel
theorem dX5_at_14 : decode cX5_at 14 = .ok (.getfield 9, 3) := by decide +kernel
theorem dX5_at_17 : decode cX5_at 17 = .ok (.arraylength, 1) := by decide +kernel
theorem dX5_at_18 : decode cX5_at 18 = .ok (.if_icmp .ge 12, 3) := by decide +kernel
theorem dX5_at_21 : decode cX5_at 21 = .ok (.aload_n 0, 1) := by decide +kernel
theorem dX5_at_22 : decode cX5_at 22 = .ok (.getfield 9, 3) := by decide +kernel
theorem dX5_at_25 : decode cX5_at 25 = .ok (.iload_n 1, 1) := by decide +kernel
theorem dX5_at_26 : decode cX5_at 26 = .ok (.iaload, 1) := by decide +kernel
theorem dX5_at_27 : decode cX5_at 27 = .ok (.goto 4, 3) := by decide +kernel
theorem dX5_at_30 : decode cX5_at 30 = .ok (.iconst (-1), 1) := by decide +kernel
theorem dX5_at_31 : decode cX5_at 31 = .ok (.ireturn, 1) := by decide +kernel
theorem dX5_clear_0 : decode cX5_clear 0 = .ok (.aload_n 0, 1) := by decide +kernel
theorem dX5_clear_1 : decode cX5_clear 1 = .ok (.iconst 0, 1) := by decide +kernel
theorem dX5_clear_2 : decode cX5_clear 2 = .ok (.putfield 15, 3) := by decide +kernel
theorem dX5_clear_5 : decode cX5_clear 5 = .ok (.return_, 1) := by decide +kernel
set_option maxRecDepth 20000 in
theorem ggX5_append_X7_put : GoodIn wsX5_append wsX7_put := goodIn_r _ [5] (by decide +kernel) (by decide +kernel)
set_option maxRecDepth 20000 in
theorem gX5_append_X7_put_n19 : GoodIn wsX5_append (wsX7_put) := ggX5_append_X7_put
theorem dX5_append_0 : decode cX5_append 0 = .ok (.aload_n 0, 1) := by decide +kernel
theorem dX5_append_1 : decode cX5_append 1 = .ok (.getfield 15, 3) := by decide +kernel
theorem dX5_append_4 : decode cX5_append 4 = .ok (.aload_n 0, 1) := by decide +kernel
theorem dX5_append_5 : decode cX5_append 5 = .ok (.getfield 9, 3) := by decide +kernel
theorem dX5_append_8 : decode cX5_append 8 = .ok (.arraylength, 1) := by decide +kernel
theorem dX5_append_9 : decode cX5_append 9 = .ok (.if_icmp .ge 25, 3) := by decide +kernel
theorem dX5_append_12 : decode cX5_append 12 = .ok (.aload_n 0, 1) := by decide +kernel
theorem dX5_append_13 : decode cX5_append 13 = .ok (.getfield 9, 3) := by decide +kernel
theorem dX5_append_16 : decode cX5_append 16 = .ok (.aload_n 0, 1) := by decide +kernel
theorem dX5_append_17 : decode cX5_append 17 = .ok (.getfield 15, 3) := by decide +kernel
theorem dX5_append_20 : decode cX5_append 20 = .ok (.iload_n 1, 1) := by decide +kernel
theorem dX5_append_21 : decode cX5_append 21 = .ok (.invokestatic 19, 3) := by decide +kernel
theorem dX5_append_24 : decode cX5_append 24 = .ok (.aload_n 0, 1) := by decide +kernel
theorem dX5_append_25 : decode cX5_append 25 = .ok (.dup, 1) := by decide +kernel
theorem dX5_append_26 : decode cX5_append 26 = .ok (.getfield 15, 3) := by decide +kernel
theorem dX5_append_29 : decode cX5_append 29 = .ok (.iconst 1, 1) := by decide +kernel
theorem dX5_append_30 : decode cX5_append 30 = .ok (.iadd, 1) := by decide +kernel
theorem dX5_append_31 : decode cX5_append 31 = .ok (.putfield 15, 3) := by decide +kernel
theorem dX5_append_34 : decode cX5_append 34 = .ok (.return_, 1) := by decide +kernel
set_option maxRecDepth 20000 in
theorem ggX5_appendRow_X5_at : GoodIn wsX5_appendRow wsX5_at := goodIn_r _ [5, 6, 7, 15, 16] (by decide +kernel) (by decide +kernel)
set_option maxRecDepth 20000 in
theorem gX5_appendRow_X5_at : GoodIn wsX5_appendRow (wsV RX5 23 RX5 yX5_at wsX5_at) := goodIn_app (goodIn_of _ (by decide +kernel)) ggX5_appendRow_X5_at
set_option maxRecDepth 20000 in
theorem ggX5_appendRow_X5_append : GoodIn wsX5_appendRow wsX5_append := goodIn_r _ [11, 6, 7, 12, 13, 14, 15, 16] (by decide +kernel) (by decide +kernel)
set_option maxRecDepth 20000 in
theorem gX5_appendRow_X5_append : GoodIn wsX5_appendRow (wsV RX5 27 RX5 yX5_append wsX5_append) := goodIn_app (goodIn_of _ (by decide +kernel)) ggX5_appendRow_X5_append
theorem dX5_appendRow_0 : decode cX5_appendRow 0 = .ok (.iload_n 2, 1) := by decide +kernel
theorem dX5_appendRow_1 : decode cX5_appendRow 1 = .ok (.istore 4, 2) := by decide +kernel
theorem dX5_appendRow_3 : decode cX5_appendRow 3 = .ok (.iload 4, 2) := by decide +kernel
theorem dX5_appendRow_5 : decode cX5_appendRow 5 = .ok (.iload_n 3, 1) := by decide +kernel
theorem dX5_appendRow_6 : decode cX5_appendRow 6 = .ok (.if_icmp .ge 19, 3) := by decide +kernel
theorem dX5_appendRow_9 : decode cX5_appendRow 9 = .ok (.aload_n 0, 1) := by decide +kernel
theorem dX5_appendRow_10 : decode cX5_appendRow 10 = .ok (.aload_n 1, 1) := by decide +kernel
theorem dX5_appendRow_11 : decode cX5_appendRow 11 = .ok (.iload 4, 2) := by decide +kernel
theorem dX5_appendRow_13 : decode cX5_appendRow 13 = .ok (.invokevirtual 23, 3) := by decide +kernel
theorem dX5_appendRow_16 : decode cX5_appendRow 16 = .ok (.invokevirtual 27, 3) := by decide +kernel
theorem dX5_appendRow_19 : decode cX5_appendRow 19 = .ok (.iinc 4 1, 3) := by decide +kernel
theorem dX5_appendRow_22 : decode cX5_appendRow 22 = .ok (.goto (-19), 3) := by decide +kernel
theorem dX5_appendRow_25 : decode cX5_appendRow 25 = .ok (.return_, 1) := by decide +kernel
set_option maxRecDepth 20000 in
theorem ggX5_copy_X5_copyRow : GoodIn wsX5_copy wsX5_copyRow := goodIn_r _ [6, 7, 8, 9, 5, 10, 1, 11, 12, 13, 14, 15, 16, 17, 18, 19, 20, 21, 22, 23, 24, 25, 26, 27, 28] (by decide +kernel) (by decide +kernel)
set_option maxRecDepth 20000 in
theorem gX5_copy_X5_copyRow : GoodIn wsX5_copy (wsV RX5 31 RX5 yX5_copyRow wsX5_copyRow) := goodIn_app (goodIn_of _ (by decide +kernel)) ggX5_copy_X5_copyRow
theorem dX5_copy_0 : decode cX5_copy 0 = .ok (.aload_n 0, 1) := by decide +kernel
theorem dX5_copy_1 : decode cX5_copy 1 = .ok (.aload_n 1, 1) := by decide +kernel
theorem dX5_copy_2 : decode cX5_copy 2 = .ok (.iconst 0, 1) := by decide +kernel
theorem dX5_copy_3 : decode cX5_copy 3 = .ok (.aload_n 1, 1) := by decide +kernel
theorem dX5_copy_4 : decode cX5_copy 4 = .ok (.getfield 15, 3) := by decide +kernel
theorem dX5_copy_7 : decode cX5_copy 7 = .ok (.invokevirtual 31, 3) := by decide +kernel
theorem dX5_copy_10 : decode cX5_copy 10 = .ok (.return_, 1) := by decide +kernel
set_option maxRecDepth 20000 in
theorem ggX5_copyRow_X5_clear : GoodIn wsX5_copyRow wsX5_clear := goodIn_r _ [5, 6, 23, 24] (by decide +kernel) (by decide +kernel)
set_option maxRecDepth 20000 in
theorem gX5_copyRow_X5_clear : GoodIn wsX5_copyRow (wsV RX5 35 RX5 yX5_clear wsX5_clear) := goodIn_app (goodIn_of _ (by decide +kernel)) ggX5_copyRow_X5_clear
set_option maxRecDepth 20000 in
theorem ggX5_copyRow_X5_appendRow : GoodIn wsX5_copyRow wsX5_appendRow := goodIn_r _ [10, 11, 12, 13, 4, 14, 6, 15, 16, 17, 18, 19, 20, 21, 22, 23, 24] (by decide +kernel) (by decide +kernel)
set_option maxRecDepth 20000 in
theorem gX5_copyRow_X5_appendRow : GoodIn wsX5_copyRow (wsV RX5 38 RX5 yX5_appendRow wsX5_appendRow) := goodIn_app (goodIn_of _ (by decide +kernel)) ggX5_copyRow_X5_appendRow
theorem dX5_copyRow_0 : decode cX5_copyRow 0 = .ok (.aload_n 0, 1) := by decide +kernel
theorem dX5_copyRow_1 : decode cX5_copyRow 1 = .ok (.invokevirtual 35, 3) := by decide +kernel
theorem dX5_copyRow_4 : decode cX5_copyRow 4 = .ok (.aload_n 0, 1) := by decide +kernel
theorem dX5_copyRow_5 : decode cX5_copyRow 5 = .ok (.aload_n 1, 1) := by decide +kernel
theorem dX5_copyRow_6 : decode cX5_copyRow 6 = .ok (.iload_n 2, 1) := by decide +kernel
theorem dX5_copyRow_7 : decode cX5_copyRow 7 = .ok (.iload_n 3, 1) := by decide +kernel
theorem dX5_copyRow_8 : decode cX5_copyRow 8 = .ok (.invokevirtual 38, 3) := by decide +kernel
theorem dX5_copyRow_11 : decode cX5_copyRow 11 = .ok (.return_, 1) := by decide +kernel
set_option maxRecDepth 20000 in
theorem ggX5_isSameAs_X5_at : GoodIn wsX5_isSameAs wsX5_at := goodIn_r _ [6, 1, 7, 8, 9] (by decide +kernel) (by decide +kernel)
set_option maxRecDepth 20000 in
theorem gX5_isSameAs_X5_at : GoodIn wsX5_isSameAs (wsV RX5 23 RX5 yX5_at wsX5_at) := goodIn_app (goodIn_of _ (by decide +kernel)) ggX5_isSameAs_X5_at
theorem dX5_isSameAs_0 : decode cX5_isSameAs 0 = .ok (.aload_n 0, 1) := by decide +kernel
theorem dX5_isSameAs_1 : decode cX5_isSameAs 1 = .ok (.getfield 15, 3) := by decide +kernel
theorem dX5_isSameAs_4 : decode cX5_isSameAs 4 = .ok (.aload_n 1, 1) := by decide +kernel
theorem dX5_isSameAs_5 : decode cX5_isSameAs 5 = .ok (.getfield 15, 3) := by decide +kernel
theorem dX5_isSameAs_8 : decode cX5_isSameAs 8 = .ok (.if_icmp .ne 7, 3) := by decide +kernel
theorem dX5_isSameAs_11 : decode cX5_isSameAs 11 = .ok (.iconst 1, 1) := by decide +kernel
theorem dX5_isSameAs_12 : decode cX5_isSameAs 12 = .ok (.goto 4, 3) := by decide +kernel
theorem dX5_isSameAs_15 : decode cX5_isSameAs 15 = .ok (.iconst 0, 1) := by decide +kernel
theorem dX5_isSameAs_16 : decode cX5_isSameAs 16 = .ok (.istore_n 2, 1) := by decide +kernel
theorem dX5_isSameAs_17 : decode cX5_isSameAs 17 = .ok (.iconst 0, 1) := by decide +kernel
theorem dX5_isSameAs_18 : decode cX5_isSameAs 18 = .ok (.istore_n 3, 1) := by decide +kernel
theorem dX5_isSameAs_19 : decode cX5_isSameAs 19 = .ok (.iload_n 3, 1) := by decide +kernel
theorem dX5_isSameAs_20 : decode cX5_isSameAs 20 = .ok (.aload_n 0, 1) := by decide +kernel
theorem dX5_isSameAs_21 : decode cX5_isSameAs 21 = .ok (.getfield 15, 3) := by decide +kernel
theorem dX5_isSameAs_24 : decode cX5_isSameAs 24 = .ok (.if_icmp .ge 32, 3) := by decide +kernel
theorem dX5_isSameAs_27 : decode cX5_isSameAs 27 = .ok (.iload_n 2, 1) := by decide +kernel
theorem dX5_isSameAs_28 : decode cX5_isSameAs 28 = .ok (.ifCond .eq 28, 3) := by decide +kernel
theorem dX5_isSameAs_31 : decode cX5_isSameAs 31 = .ok (.aload_n 0, 1) := by decide +kernel
theorem dX5_isSameAs_32 : decode cX5_isSameAs 32 = .ok (.iload_n 3, 1) := by decide +kernel
theorem dX5_isSameAs_33 : decode cX5_isSameAs 33 = .ok (.invokevirtual 23, 3) := by decide +kernel
theorem dX5_isSameAs_36 : decode cX5_isSameAs 36 = .ok (.aload_n 1, 1) := by decide +kernel
theorem dX5_isSameAs_37 : decode cX5_isSameAs 37 = .ok (.iload_n 3, 1) := by decide +kernel
theorem dX5_isSameAs_38 : decode cX5_isSameAs 38 = .ok (.invokevirtual 23, 3) := by decide +kernel
theorem dX5_isSameAs_41 : decode cX5_isSameAs 41 = .ok (.if_icmp .ne 7, 3) := by decide +kernel
theorem dX5_isSameAs_44 : decode cX5_isSameAs 44 = .ok (.iconst 1, 1) := by decide +kernel
theorem dX5_isSameAs_45 : decode cX5_isSameAs 45 = .ok (.goto 4, 3) := by decide +kernel
theorem dX5_isSameAs_48 : decode cX5_isSameAs 48 = .ok (.iconst 0, 1) := by decide +kernel
theorem dX5_isSameAs_49 : decode cX5_isSameAs 49 = .ok (.istore_n 2, 1) := by decide +kernel
theorem dX5_isSameAs_50 : decode cX5_isSameAs 50 = .ok (.iinc 3 1, 3) := by decide +kernel
theorem dX5_isSameAs_53 : decode cX5_isSameAs 53 = .ok (.goto (-34), 3) := by decide +kernel
theorem dX5_isSameAs_56 : decode cX5_isSameAs 56 = .ok (.iload_n 2, 1) := by decide +kernel
theorem dX5_isSameAs_57 : decode cX5_isSameAs 57 = .ok (.ireturn, 1) := by decide +kernel
theorem dX6_init_0 : decode cX6_init 0 = .ok (.aload_n 0, 1) := by decide +kernel
theorem dX6_init_1 : decode cX6_init 1 = .ok (.invokespecial 3, 3) := by decide +kernel
theorem dX6_init_4 : decode cX6_init 4 = .ok (.aload_n 0, 1) := by decide +kernel
theorem dX6_init_5 : decode cX6_init 5 = .ok (.bipush 51, 2) := by decide +kernel
theorem dX6_init_7 : decode cX6_init 7 = .ok (.newarray .int, 2) := by decide +kernel
theorem dX6_init_9 : decode cX6_init 9 = .ok (.putfield 11, 3) := by decide +kernel
theorem dX6_init_12 : decode cX6_init 12 = .ok (.return_, 1) := by decide +kernel
set_option maxRecDepth 20000 in
theorem ggX6_fewestEdits_X5_size : GoodIn wsX6_fewestEdits wsX5_size := goodIn_r _ [6, 7, 31, 32] (by decide +kernel) (by decide +kernel)
set_option maxRecDepth 20000 in
theorem gX6_fewestEdits_X5_size : GoodIn wsX6_fewestEdits (wsV RX6 15 RX5 yX5_size wsX5_size) := goodIn_app (goodIn_of _ (by decide +kernel)) ggX6_fewestEdits_X5_size
set_option maxRecDepth 20000 in
theorem ggX6_fewestEdits_X7_put : GoodIn wsX6_fewestEdits wsX7_put := goodIn_r _ [10] (by decide +kernel) (by decide +kernel)
set_option maxRecDepth 20000 in
theorem gX6_fewestEdits_X7_put_n21 : GoodIn wsX6_fewestEdits (wsX7_put) := ggX6_fewestEdits_X7_put
set_option maxRecDepth 20000 in
theorem ggX6_fewestEdits_X6_start : GoodIn wsX6_fewestEdits wsX6_start := goodIn_r _ [15, 1, 16, 17, 18, 19, 20, 9, 21, 30] (by decide +kernel) (by decide +kernel)
set_option maxRecDepth 20000 in
theorem gX6_fewestEdits_X6_start : GoodIn wsX6_fewestEdits (wsV RX6 25 RX6 yX6_start wsX6_start) := goodIn_app (goodIn_of _ (by decide +kernel)) ggX6_fewestEdits_X6_start
set_option maxRecDepth 20000 in
theorem ggX6_fewestEdits_X6_goAlong : GoodIn wsX6_fewestEdits wsX6_goAlong := goodIn_r _ [24, 2, 3, 4, 5, 6, 7, 25, 26, 27, 28, 29, 31, 32] (by decide +kernel) (by decide +kernel)
set_option maxRecDepth 20000 in
theorem gX6_fewestEdits_X6_goAlong : GoodIn wsX6_fewestEdits (va_wsS RX6 29 yX6_goAlong wsX6_goAlong) := goodIn_app (goodIn_of _ (by decide +kernel)) ggX6_fewestEdits_X6_goAlong
theorem dX6_fewestEdits_0 : decode cX6_fewestEdits 0 = .ok (.aload_n 1, 1) := by decide +kernel
theorem dX6_fewestEdits_1 : decode cX6_fewestEdits 1 = .ok (.invokevirtual 15, 3) := by decide +kernel
theorem dX6_fewestEdits_4 : decode cX6_fewestEdits 4 = .ok (.aload_n 2, 1) := by decide +kernel
theorem dX6_fewestEdits_5 : decode cX6_fewestEdits 5 = .ok (.invokevirtual 15, 3) := by decide +kernel
theorem dX6_fewestEdits_8 : decode cX6_fewestEdits 8 = .ok (.iadd, 1) := by decide +kernel
theorem dX6_fewestEdits_9 : decode cX6_fewestEdits 9 = .ok (.istore_n 3, 1) := by decide +kernel
theorem dX6_fewestEdits_10 : decode cX6_fewestEdits 10 = .ok (.aload_n 0, 1) := by decide +kernel
theorem dX6_fewestEdits_11 : decode cX6_fewestEdits 11 = .ok (.getfield 11, 3) := by decide +kernel
theorem dX6_fewestEdits_14 : decode cX6_fewestEdits 14 = .ok (.bipush 26, 2) := by decide +kernel
theorem dX6_fewestEdits_16 : decode cX6_fewestEdits 16 = .ok (.iconst 0, 1) := by decide +kernel
theorem dX6_fewestEdits_17 : decode cX6_fewestEdits 17 = .ok (.invokestatic 21, 3) := by decide +kernel
theorem dX6_fewestEdits_20 : decode cX6_fewestEdits 20 = .ok (.iconst 0, 1) := by decide +kernel
theorem dX6_fewestEdits_21 : decode cX6_fewestEdits 21 = .ok (.istore 4, 2) := by decide +kernel
theorem dX6_fewestEdits_23 : decode cX6_fewestEdits 23 = .ok (.iload 4, 2) := by decide +kernel
theorem dX6_fewestEdits_25 : decode cX6_fewestEdits 25 = .ok (.iload_n 3, 1) := by decide +kernel
theorem dX6_fewestEdits_26 : decode cX6_fewestEdits 26 = .ok (.if_icmp .ge 82, 3) := by decide +kernel
theorem dX6_fewestEdits_29 : decode cX6_fewestEdits 29 = .ok (.iload 4, 2) := by decide +kernel
theorem dX6_fewestEdits_31 : decode cX6_fewestEdits 31 = .ok (.ineg, 1) := by decide +kernel
theorem dX6_fewestEdits_32 : decode cX6_fewestEdits 32 = .ok (.istore 5, 2) := by decide +kernel
theorem dX6_fewestEdits_34 : decode cX6_fewestEdits 34 = .ok (.iload 5, 2) := by decide +kernel
theorem dX6_fewestEdits_36 : decode cX6_fewestEdits 36 = .ok (.iload 4, 2) := by decide +kernel
theorem dX6_fewestEdits_38 : decode cX6_fewestEdits 38 = .ok (.if_icmp .gt 64, 3) := by decide +kernel
theorem dX6_fewestEdits_41 : decode cX6_fewestEdits 41 = .ok (.aload_n 1, 1) := by decide +kernel
theorem dX6_fewestEdits_42 : decode cX6_fewestEdits 42 = .ok (.aload_n 2, 1) := by decide +kernel
theorem dX6_fewestEdits_43 : decode cX6_fewestEdits 43 = .ok (.iload 5, 2) := by decide +kernel
theorem dX6_fewestEdits_45 : decode cX6_fewestEdits 45 = .ok (.aload_n 0, 1) := by decide +kernel
theorem dX6_fewestEdits_46 : decode cX6_fewestEdits 46 = .ok (.iload 4, 2) := by decide +kernel
theorem dX6_fewestEdits_48 : decode cX6_fewestEdits 48 = .ok (.iload 5, 2) := by decide +kernel
theorem dX6_fewestEdits_50 : decode cX6_fewestEdits 50 = .ok (.invokevirtual 25, 3) := by decide +kernel
theorem dX6_fewestEdits_53 : decode cX6_fewestEdits 53 = .ok (.invokestatic 29, 3) := by decide +kernel
theorem dX6_fewestEdits_56 : decode cX6_fewestEdits 56 = .ok (.istore 6, 2) := by decide +kernel
theorem dX6_fewestEdits_58 : decode cX6_fewestEdits 58 = .ok (.aload_n 0, 1) := by decide +kernel
theorem dX6_fewestEdits_59 : decode cX6_fewestEdits 59 = .ok (.getfield 11, 3) := by decide +kernel
theorem dX6_fewestEdits_62 : decode cX6_fewestEdits 62 = .ok (.bipush 25, 2) := by decide +kernel
theorem dX6_fewestEdits_64 : decode cX6_fewestEdits 64 = .ok (.iload 5, 2) := by decide +kernel
theorem dX6_fewestEdits_66 : decode cX6_fewestEdits 66 = .ok (.iadd, 1) := by decide +kernel
theorem dX6_fewestEdits_67 : decode cX6_fewestEdits 67 = .ok (.iload 6, 2) := by decide +kernel
theorem dX6_fewestEdits_69 : decode cX6_fewestEdits 69 = .ok (.invokestatic 21, 3) := by decide +kernel
theorem dX6_fewestEdits_72 : decode cX6_fewestEdits 72 = .ok (.iload 6, 2) := by decide +kernel
theorem dX6_fewestEdits_74 : decode cX6_fewestEdits 74 = .ok (.aload_n 1, 1) := by decide +kernel
theorem dX6_fewestEdits_75 : decode cX6_fewestEdits 75 = .ok (.invokevirtual 15, 3) := by decide +kernel
theorem dX6_fewestEdits_78 : decode cX6_fewestEdits 78 = .ok (.if_icmp .lt 18, 3) := by decide +kernel
theorem dX6_fewestEdits_81 : decode cX6_fewestEdits 81 = .ok (.iload 6, 2) := by decide +kernel
theorem dX6_fewestEdits_83 : decode cX6_fewestEdits 83 = .ok (.iload 5, 2) := by decide +kernel
theorem dX6_fewestEdits_85 : decode cX6_fewestEdits 85 = .ok (.isub, 1) := by decide +kernel
theorem dX6_fewestEdits_86 : decode cX6_fewestEdits 86 = .ok (.aload_n 2, 1) := by decide +kernel
theorem dX6_fewestEdits_87 : decode cX6_fewestEdits 87 = .ok (.invokevirtual 15, 3) := by decide +kernel
theorem dX6_fewestEdits_90 : decode cX6_fewestEdits 90 = .ok (.if_icmp .lt 6, 3) := by decide +kernel
theorem dX6_fewestEdits_93 : decode cX6_fewestEdits 93 = .ok (.iload 4, 2) := by decide +kernel
theorem dX6_fewestEdits_95 : decode cX6_fewestEdits 95 = .ok (.ireturn, 1) := by decide +kernel
theorem dX6_fewestEdits_96 : decode cX6_fewestEdits 96 = .ok (.iinc 5 2, 3) := by decide +kernel
theorem dX6_fewestEdits_99 : decode cX6_fewestEdits 99 = .ok (.goto (-65), 3) := by decide +kernel
theorem dX6_fewestEdits_102 : decode cX6_fewestEdits 102 = .ok (.iinc 4 1, 3) := by decide +kernel
theorem dX6_fewestEdits_105 : decode cX6_fewestEdits 105 = .ok (.goto (-82), 3) := by decide +kernel
theorem dX6_fewestEdits_108 : decode cX6_fewestEdits 108 = .ok (.iload_n 3, 1) := by decide +kernel
theorem dX6_fewestEdits_109 : decode cX6_fewestEdits 109 = .ok (.ireturn, 1) := by decide +kernel
set_option maxRecDepth 20000 in
theorem ggX6_start_X7_cell : GoodIn wsX6_start wsX7_cell := goodIn_r _ [8] (by decide +kernel) (by decide +kernel)
set_option maxRecDepth 20000 in
theorem gX6_start_X7_cell_n33 : GoodIn wsX6_start (wsX7_cell) := ggX6_start_X7_cell
theorem dX6_start_0 : decode cX6_start 0 = .ok (.aload_n 0, 1) := by decide +kernel
theorem dX6_start_1 : decode cX6_start 1 = .ok (.getfield 11, 3) := by decide +kernel
theorem dX6_start_4 : decode cX6_start 4 = .ok (.bipush 25, 2) := by decide +kernel
theorem dX6_start_6 : decode cX6_start 6 = .ok (.iload_n 2, 1) := by decide +kernel
theorem dX6_start_7 : decode cX6_start 7 = .ok (.iadd, 1) := by decide +kernel
theorem dX6_start_8 : decode cX6_start 8 = .ok (.iconst 1, 1) := by decide +kernel
theorem dX6_start_9 : decode cX6_start 9 = .ok (.iadd, 1) := by decide +kernel
theorem dX6_start_10 : decode cX6_start 10 = .ok (.invokestatic 33, 3) := by decide +kernel
theorem dX6_start_13 : decode cX6_start 13 = .ok (.istore_n 3, 1) := by decide +kernel
theorem dX6_start_14 : decode cX6_start 14 = .ok (.aload_n 0, 1) := by decide +kernel
theorem dX6_start_15 : decode cX6_start 15 = .ok (.getfield 11, 3) := by decide +kernel
theorem dX6_start_18 : decode cX6_start 18 = .ok (.bipush 25, 2) := by decide +kernel
theorem dX6_start_20 : decode cX6_start 20 = .ok (.iload_n 2, 1) := by decide +kernel
theorem dX6_start_21 : decode cX6_start 21 = .ok (.iadd, 1) := by decide +kernel
theorem dX6_start_22 : decode cX6_start 22 = .ok (.iconst 1, 1) := by decide +kernel
theorem dX6_start_23 : decode cX6_start 23 = .ok (.isub, 1) := by decide +kernel
theorem dX6_start_24 : decode cX6_start 24 = .ok (.invokestatic 33, 3) := by decide +kernel
theorem dX6_start_27 : decode cX6_start 27 = .ok (.iconst 1, 1) := by decide +kernel
theorem dX6_start_28 : decode cX6_start 28 = .ok (.iadd, 1) := by decide +kernel
theorem dX6_start_29 : decode cX6_start 29 = .ok (.istore 4, 2) := by decide +kernel
theorem dX6_start_31 : decode cX6_start 31 = .ok (.iload_n 2, 1) := by decide +kernel
theorem dX6_start_32 : decode cX6_start 32 = .ok (.iload_n 1, 1) := by decide +kernel
theorem dX6_start_33 : decode cX6_start 33 = .ok (.ineg, 1) := by decide +kernel
theorem dX6_start_34 : decode cX6_start 34 = .ok (.if_icmp .ne 5, 3) := by decide +kernel
theorem dX6_start_37 : decode cX6_start 37 = .ok (.iload_n 3, 1) := by decide +kernel
theorem dX6_start_38 : decode cX6_start 38 = .ok (.ireturn, 1) := by decide +kernel
theorem dX6_start_39 : decode cX6_start 39 = .ok (.iload_n 2, 1) := by decide +kernel
theorem dX6_start_40 : decode cX6_start 40 = .ok (.iload_n 1, 1) := by decide +kernel
theorem dX6_start_41 : decode cX6_start 41 = .ok (.if_icmp .ne 8, 3) := by decide +kernel
theorem dX6_start_44 : decode cX6_start 44 = .ok (.iload 4, 2) := by decide +kernel
theorem dX6_start_46 : decode cX6_start 46 = .ok (.goto 9, 3) := by decide +kernel
theorem dX6_start_49 : decode cX6_start 49 = .ok (.iload_n 3, 1) := by decide +kernel
theorem dX6_start_50 : decode cX6_start 50 = .ok (.iload 4, 2) := by decide +kernel
theorem dX6_start_52 : decode cX6_start 52 = .ok (.invokestatic 37, 3) := by decide +kernel
theorem dX6_start_55 : decode cX6_start 55 = .ok (.ireturn, 1) := by decide +kernel
set_option maxRecDepth 20000 in
theorem ggX6_goAlong_X5_size : GoodIn wsX6_goAlong wsX5_size := goodIn_r _ [5, 6, 12, 13] (by decide +kernel) (by decide +kernel)
set_option maxRecDepth 20000 in
theorem gX6_goAlong_X5_size : GoodIn wsX6_goAlong (wsV RX6 15 RX5 yX5_size wsX5_size) := goodIn_app (goodIn_of _ (by decide +kernel)) ggX6_goAlong_X5_size
set_option maxRecDepth 20000 in
theorem ggX6_goAlong_X5_at : GoodIn wsX6_goAlong wsX5_at := goodIn_r _ [10, 6, 11, 12, 13] (by decide +kernel) (by decide +kernel)
set_option maxRecDepth 20000 in
theorem gX6_goAlong_X5_at : GoodIn wsX6_goAlong (wsV RX6 42 RX5 yX5_at wsX5_at) := goodIn_app (goodIn_of _ (by decide +kernel)) ggX6_goAlong_X5_at
theorem dX6_goAlong_0 : decode cX6_goAlong 0 = .ok (.iload_n 3, 1) := by decide +kernel
theorem dX6_goAlong_1 : decode cX6_goAlong 1 = .ok (.istore 4, 2) := by decide +kernel
theorem dX6_goAlong_3 : decode cX6_goAlong 3 = .ok (.iload 4, 2) := by decide +kernel
theorem dX6_goAlong_5 : decode cX6_goAlong 5 = .ok (.aload_n 0, 1) := by decide +kernel
theorem dX6_goAlong_6 : decode cX6_goAlong 6 = .ok (.invokevirtual 15, 3) := by decide +kernel
theorem dX6_goAlong_9 : decode cX6_goAlong 9 = .ok (.if_icmp .ge 40, 3) := by decide +kernel
theorem dX6_goAlong_12 : decode cX6_goAlong 12 = .ok (.iload 4, 2) := by decide +kernel
theorem dX6_goAlong_14 : decode cX6_goAlong 14 = .ok (.iload_n 2, 1) := by decide +kernel
theorem dX6_goAlong_15 : decode cX6_goAlong 15 = .ok (.isub, 1) := by decide +kernel
theorem dX6_goAlong_16 : decode cX6_goAlong 16 = .ok (.aload_n 1, 1) := by decide +kernel
theorem dX6_goAlong_17 : decode cX6_goAlong 17 = .ok (.invokevirtual 15, 3) := by decide +kernel
theorem dX6_goAlong_20 : decode cX6_goAlong 20 = .ok (.if_icmp .ge 29, 3) := by decide +kernel
theorem dX6_goAlong_23 : decode cX6_goAlong 23 = .ok (.aload_n 0, 1) := by decide +kernel
theorem dX6_goAlong_24 : decode cX6_goAlong 24 = .ok (.iload 4, 2) := by decide +kernel
theorem dX6_goAlong_26 : decode cX6_goAlong 26 = .ok (.invokevirtual 42, 3) := by decide +kernel
theorem dX6_goAlong_29 : decode cX6_goAlong 29 = .ok (.aload_n 1, 1) := by decide +kernel
theorem dX6_goAlong_30 : decode cX6_goAlong 30 = .ok (.iload 4, 2) := by decide +kernel
theorem dX6_goAlong_32 : decode cX6_goAlong 32 = .ok (.iload_n 2, 1) := by decide +kernel
theorem dX6_goAlong_33 : decode cX6_goAlong 33 = .ok (.isub, 1) := by decide +kernel
theorem dX6_goAlong_34 : decode cX6_goAlong 34 = .ok (.invokevirtual 42, 3) := by decide +kernel
theorem dX6_goAlong_37 : decode cX6_goAlong 37 = .ok (.if_icmp .eq 6, 3) := by decide +kernel
theorem dX6_goAlong_40 : decode cX6_goAlong 40 = .ok (.iload 4, 2) := by decide +kernel
theorem dX6_goAlong_42 : decode cX6_goAlong 42 = .ok (.ireturn, 1) := by decide +kernel
theorem dX6_goAlong_43 : decode cX6_goAlong 43 = .ok (.iinc 4 1, 3) := by decide +kernel
theorem dX6_goAlong_46 : decode cX6_goAlong 46 = .ok (.goto (-43), 3) := by decide +kernel
theorem dX6_goAlong_49 : decode cX6_goAlong 49 = .ok (.iload 4, 2) := by decide +kernel
theorem dX6_goAlong_51 : decode cX6_goAlong 51 = .ok (.ireturn, 1) := by decide +kernel
set_option maxRecDepth 20000 in
theorem ggX7_init_X5_init : GoodIn wsX7_init wsX5_init := goodIn_r _ [32, 33, 2, 3, 8, 34, 64, 65] (by decide +kernel) (by decide +kernel)
set_option maxRecDepth 20000 in
theorem gX7_init_X5_init_n11 : GoodIn wsX7_init (wsX5_init) := ggX7_init_X5_init
set_option maxRecDepth 20000 in
theorem ggX7_init_X4_init : GoodIn wsX7_init wsX4_init := goodIn_r _ [36, 37, 2, 3, 8, 38, 39, 40, 79, 80, 81, 82] (by decide +kernel) (by decide +kernel)
set_option maxRecDepth 20000 in
theorem gX7_init_X4_init_n37 : GoodIn wsX7_init (wsX4_init) := ggX7_init_X4_init
set_option maxRecDepth 20000 in
theorem ggX7_init_X6_init : GoodIn wsX7_init wsX6_init := goodIn_r _ [42, 43, 2, 3, 8, 44, 83] (by decide +kernel) (by decide +kernel)
set_option maxRecDepth 20000 in
theorem gX7_init_X6_init_n44 : GoodIn wsX7_init (wsX6_init) := ggX7_init_X6_init
set_option maxRecDepth 20000 in
theorem ggX7_init_X0_init : GoodIn wsX7_init wsX0_init := goodIn_r _ [46, 47, 2, 3, 8, 48, 84] (by decide +kernel) (by decide +kernel)
set_option maxRecDepth 20000 in
theorem gX7_init_X0_init_n51 : GoodIn wsX7_init (wsX0_init) := ggX7_init_X0_init
set_option maxRecDepth 20000 in
theorem ggX7_init_X2_init : GoodIn wsX7_init wsX2_init := goodIn_r _ [50, 51, 2, 3, 52, 16, 17, 53, 54, 55, 5, 6, 56, 57, 58, 59, 35, 36, 37, 8, 38, 39, 40, 31, 32, 33, 34, 79, 80, 81, 82, 85, 86, 87, 88, 89, 90, 91, 64, 65] (by decide +kernel) (by decide +kernel)
set_option maxRecDepth 20000 in
theorem gX7_init_X2_init_n58 : GoodIn wsX7_init (wsX2_init) := ggX7_init_X2_init
set_option maxRecDepth 20000 in
theorem ggX7_init_J7_fill_53178 : GoodIn wsX7_init wsJ7_fill_53178 := goodIn_r _ [63] (by decide +kernel) (by decide +kernel)
set_option maxRecDepth 20000 in
theorem gX7_init_J7_fill_53178 : GoodIn wsX7_init (va_wsS RX7 63 yJ7_fill_53178 wsJ7_fill_53178) := goodIn_app (goodIn_of _ (by decide +kernel)) ggX7_init_J7_fill_53178
theorem dX7_init_0 : decode cX7_init 0 = .ok (.aload_n 0, 1) := by decide +kernel
theorem dX7_init_1 : decode cX7_init 1 = .ok (.invokespecial 3, 3) := by decide +kernel
theorem dX7_init_4 : decode cX7_init 4 = .ok (.aload_n 0, 1) := by decide +kernel
theorem dX7_init_5 : decode cX7_init 5 = .ok (.new 9, 3) := by decide +kernel
theorem dX7_init_8 : decode cX7_init 8 = .ok (.dup, 1) := by decide +kernel
theorem dX7_init_9 : decode cX7_init 9 = .ok (.invokespecial 11, 3) := by decide +kernel
theorem dX7_init_12 : decode cX7_init 12 = .ok (.putfield 12, 3) := by decide +kernel
theorem dX7_init_15 : decode cX7_init 15 = .ok (.aload_n 0, 1) := by decide +kernel
theorem dX7_init_16 : decode cX7_init 16 = .ok (.bipush 100, 2) := by decide +kernel
theorem dX7_init_18 : decode cX7_init 18 = .ok (.newarray .int, 2) := by decide +kernel
theorem dX7_init_20 : decode cX7_init 20 = .ok (.putfield 16, 3) := by decide +kernel
theorem dX7_init_23 : decode cX7_init 23 = .ok (.aload_n 0, 1) := by decide +kernel
theorem dX7_init_24 : decode cX7_init 24 = .ok (.iconst 4, 1) := by decide +kernel
theorem dX7_init_25 : decode cX7_init 25 = .ok (.anewarray 20, 3) := by decide +kernel
theorem dX7_init_28 : decode cX7_init 28 = .ok (.putfield 22, 3) := by decide +kernel
theorem dX7_init_31 : decode cX7_init 31 = .ok (.aload_n 0, 1) := by decide +kernel
theorem dX7_init_32 : decode cX7_init 32 = .ok (.bipush 12, 2) := by decide +kernel
theorem dX7_init_34 : decode cX7_init 34 = .ok (.anewarray 26, 3) := by decide +kernel
theorem dX7_init_37 : decode cX7_init 37 = .ok (.putfield 28, 3) := by decide +kernel
theorem dX7_init_40 : decode cX7_init 40 = .ok (.aload_n 0, 1) := by decide +kernel
theorem dX7_init_41 : decode cX7_init 41 = .ok (.iconst 4, 1) := by decide +kernel
theorem dX7_init_42 : decode cX7_init 42 = .ok (.newarray .int, 2) := by decide +kernel
theorem dX7_init_44 : decode cX7_init 44 = .ok (.putfield 32, 3) := by decide +kernel
theorem dX7_init_47 : decode cX7_init 47 = .ok (.aload_n 0, 1) := by decide +kernel
theorem dX7_init_48 : decode cX7_init 48 = .ok (.new 35, 3) := by decide +kernel
theorem dX7_init_51 : decode cX7_init 51 = .ok (.dup, 1) := by decide +kernel
theorem dX7_init_52 : decode cX7_init 52 = .ok (.invokespecial 37, 3) := by decide +kernel
theorem dX7_init_55 : decode cX7_init 55 = .ok (.putfield 38, 3) := by decide +kernel
theorem dX7_init_58 : decode cX7_init 58 = .ok (.aload_n 0, 1) := by decide +kernel
theorem dX7_init_59 : decode cX7_init 59 = .ok (.new 42, 3) := by decide +kernel
theorem dX7_init_62 : decode cX7_init 62 = .ok (.dup, 1) := by decide +kernel
theorem dX7_init_63 : decode cX7_init 63 = .ok (.invokespecial 44, 3) := by decide +kernel
theorem dX7_init_66 : decode cX7_init 66 = .ok (.putfield 45, 3) := by decide +kernel
theorem dX7_init_69 : decode cX7_init 69 = .ok (.aload_n 0, 1) := by decide +kernel
theorem dX7_init_70 : decode cX7_init 70 = .ok (.new 49, 3) := by decide +kernel
theorem dX7_init_73 : decode cX7_init 73 = .ok (.dup, 1) := by decide +kernel
theorem dX7_init_74 : decode cX7_init 74 = .ok (.invokespecial 51, 3) := by decide +kernel
theorem dX7_init_77 : decode cX7_init 77 = .ok (.putfield 52, 3) := by decide +kernel
theorem dX7_init_80 : decode cX7_init 80 = .ok (.aload_n 0, 1) := by decide +kernel
theorem dX7_init_81 : decode cX7_init 81 = .ok (.new 56, 3) := by decide +kernel
theorem dX7_init_84 : decode cX7_init 84 = .ok (.dup, 1) := by decide +kernel
theorem dX7_init_85 : decode cX7_init 85 = .ok (.invokespecial 58, 3) := by decide +kernel
theorem dX7_init_88 : decode cX7_init 88 = .ok (.putfield 59, 3) := by decide +kernel
theorem dX7_init_91 : decode cX7_init 91 = .ok (.aload_n 0, 1) := by decide +kernel
theorem dX7_init_92 : decode cX7_init 92 = .ok (.getfield 16, 3) := by decide +kernel
theorem dX7_init_95 : decode cX7_init 95 = .ok (.iconst (-1), 1) := by decide +kernel
theorem dX7_init_96 : decode cX7_init 96 = .ok (.invokestatic 63, 3) := by decide +kernel
theorem dX7_init_99 : decode cX7_init 99 = .ok (.return_, 1) := by decide +kernel
set_option maxRecDepth 20000 in
theorem ggX7_giveRange_X7_checkUser : GoodIn wsX7_giveRange wsX7_checkUser := goodIn_ca (goodIn_r _ [10, 11, 12] (by decide +kernel) (by decide +kernel)) (goodIn_sub (fun _ h => List.mem_cons_of_mem _ (List.mem_append_right _ h)) (by decide +kernel))
set_option maxRecDepth 20000 in
theorem gX7_giveRange_X7_checkUser : GoodIn wsX7_giveRange (va_wsS RX7 69 yX7_checkUser wsX7_checkUser) := goodIn_app (goodIn_of _ (by decide +kernel)) ggX7_giveRange_X7_checkUser
set_option maxRecDepth 20000 in
theorem ggX7_giveRange_X7_checkContent : GoodIn wsX7_giveRange wsX7_checkContent := goodIn_ca (goodIn_r _ [15, 1, 2] (by decide +kernel) (by decide +kernel)) (goodIn_sub (fun _ h => List.mem_cons_of_mem _ (List.mem_append_left _ (List.mem_append_left _ (List.mem_append_right _ h)))) (by decide +kernel))
set_option maxRecDepth 20000 in
theorem gX7_giveRange_X7_checkContent : GoodIn wsX7_giveRange (va_wsS RX7 73 yX7_checkContent wsX7_checkContent) := goodIn_app (goodIn_of _ (by decide +kernel)) ggX7_giveRange_X7_checkContent
set_option maxRecDepth 20000 in
theorem ggX7_giveRange_X7_put : GoodIn wsX7_giveRange wsX7_put := goodIn_r _ [18] (by decide +kernel) (by decide +kernel)
set_option maxRecDepth 20000 in
theorem gX7_giveRange_X7_put : GoodIn wsX7_giveRange (va_wsS RX7 92 yX7_put wsX7_put) := goodIn_app (goodIn_of _ (by decide +kernel)) ggX7_giveRange_X7_put
theorem dX7_giveRange_0 : decode cX7_giveRange 0 = .ok (.iload_n 3, 1) := by decide +kernel
theorem dX7_giveRange_1 : decode cX7_giveRange 1 = .ok (.invokestatic 69, 3) := by decide +kernel
theorem dX7_giveRange_4 : decode cX7_giveRange 4 = .ok (.iload_n 1, 1) := by decide +kernel
theorem dX7_giveRange_5 : decode cX7_giveRange 5 = .ok (.invokestatic 73, 3) := by decide +kernel
theorem dX7_giveRange_8 : decode cX7_giveRange 8 = .ok (.iload_n 2, 1) := by decide +kernel
theorem dX7_giveRange_9 : decode cX7_giveRange 9 = .ok (.invokestatic 73, 3) := by decide +kernel
theorem dX7_giveRange_12 : decode cX7_giveRange 12 = .ok (.iload_n 1, 1) := by decide +kernel
theorem dX7_giveRange_13 : decode cX7_giveRange 13 = .ok (.iload_n 2, 1) := by decide +kernel
theorem dX7_giveRange_14 : decode cX7_giveRange 14 = .ok (.if_icmp .le 13, 3) := by decide +kernel
theorem dX7_giveRange_17 : decode cX7_giveRange 17 = .ok (.new 76, 3) := by decide +kernel
theorem dX7_giveRange_20 : decode cX7_giveRange 20 = .ok (.dup, 1) := by decide +kernel
theorem dX7_giveRange_21 : decode cX7_giveRange 21 = .ok (.ldc 78, 2) := by decide +kernel
theorem dX7_giveRange_23 : decode cX7_giveRange 23 = .ok (.invokespecial 80, 3) := by decide +kernel
theorem dX7_giveRange_26 : decode cX7_giveRange 26 = .ok (.athrow, 1) := by decide +kernel
theorem dX7_giveRange_27 : decode cX7_giveRange 27 = .ok (.aload_n 0, 1) := by decide +kernel
theorem dX7_giveRange_28 : decode cX7_giveRange 28 = .ok (.getfield 83, 3) := by decide +kernel
theorem dX7_giveRange_31 : decode cX7_giveRange 31 = .ok (.bipush 6, 2) := by decide +kernel
theorem dX7_giveRange_33 : decode cX7_giveRange 33 = .ok (.if_icmp .lt 13, 3) := by decide +kernel
theorem dX7_giveRange_36 : decode cX7_giveRange 36 = .ok (.new 87, 3) := by decide +kernel
theorem dX7_giveRange_39 : decode cX7_giveRange 39 = .ok (.dup, 1) := by decide +kernel
theorem dX7_giveRange_40 : decode cX7_giveRange 40 = .ok (.ldc 89, 2) := by decide +kernel
theorem dX7_giveRange_42 : decode cX7_giveRange 42 = .ok (.invokespecial 91, 3) := by decide +kernel
theorem dX7_giveRange_45 : decode cX7_giveRange 45 = .ok (.athrow, 1) := by decide +kernel
theorem dX7_giveRange_46 : decode cX7_giveRange 46 = .ok (.iload_n 1, 1) := by decide +kernel
theorem dX7_giveRange_47 : decode cX7_giveRange 47 = .ok (.istore 4, 2) := by decide +kernel
theorem dX7_giveRange_49 : decode cX7_giveRange 49 = .ok (.iload 4, 2) := by decide +kernel
theorem dX7_giveRange_51 : decode cX7_giveRange 51 = .ok (.iload_n 2, 1) := by decide +kernel
theorem dX7_giveRange_52 : decode cX7_giveRange 52 = .ok (.if_icmp .gt 19, 3) := by decide +kernel
theorem dX7_giveRange_55 : decode cX7_giveRange 55 = .ok (.aload_n 0, 1) := by decide +kernel
theorem dX7_giveRange_56 : decode cX7_giveRange 56 = .ok (.getfield 16, 3) := by decide +kernel
theorem dX7_giveRange_59 : decode cX7_giveRange 59 = .ok (.iload 4, 2) := by decide +kernel
theorem dX7_giveRange_61 : decode cX7_giveRange 61 = .ok (.iload_n 3, 1) := by decide +kernel
theorem dX7_giveRange_62 : decode cX7_giveRange 62 = .ok (.invokestatic 92, 3) := by decide +kernel
theorem dX7_giveRange_65 : decode cX7_giveRange 65 = .ok (.iinc 4 1, 3) := by decide +kernel
theorem dX7_giveRange_68 : decode cX7_giveRange 68 = .ok (.goto (-19), 3) := by decide +kernel
theorem dX7_giveRange_71 : decode cX7_giveRange 71 = .ok (.aload_n 0, 1) := by decide +kernel
theorem dX7_giveRange_72 : decode cX7_giveRange 72 = .ok (.dup, 1) := by decide +kernel
theorem dX7_giveRange_73 : decode cX7_giveRange 73 = .ok (.getfield 83, 3) := by decide +kernel
theorem dX7_giveRange_76 : decode cX7_giveRange 76 = .ok (.iconst 1, 1) := by decide +kernel
theorem dX7_giveRange_77 : decode cX7_giveRange 77 = .ok (.iadd, 1) := by decide +kernel
theorem dX7_giveRange_78 : decode cX7_giveRange 78 = .ok (.putfield 83, 3) := by decide +kernel
theorem dX7_giveRange_81 : decode cX7_giveRange 81 = .ok (.aload_n 0, 1) := by decide +kernel
theorem dX7_giveRange_82 : decode cX7_giveRange 82 = .ok (.getfield 83, 3) := by decide +kernel
theorem dX7_giveRange_85 : decode cX7_giveRange 85 = .ok (.ireturn, 1) := by decide +kernel
set_option maxRecDepth 20000 in
theorem ggX7_open_X7_checkUser : GoodIn wsX7_open wsX7_checkUser := goodIn_ca (goodIn_r _ [12, 13, 14] (by decide +kernel) (by decide +kernel)) (goodIn_sub (fun _ h => List.mem_cons_of_mem _ (List.mem_append_right _ h)) (by decide +kernel))
set_option maxRecDepth 20000 in
theorem gX7_open_X7_checkUser : GoodIn wsX7_open (va_wsS RX7 69 yX7_checkUser wsX7_checkUser) := goodIn_app (goodIn_of _ (by decide +kernel)) ggX7_open_X7_checkUser
set_option maxRecDepth 20000 in
theorem ggX7_open_X1_init : GoodIn wsX7_open wsX1_init := goodIn_r _ [17, 18, 19, 20, 21, 22, 23, 24, 25, 26, 27, 28, 29, 30, 31, 32, 33, 34, 35, 36, 37, 38, 39, 40, 41, 42, 43, 44, 45, 46, 47, 48, 49, 50, 51, 52, 53, 54, 55, 56, 57, 58, 59, 60, 61, 11, 62, 63, 64, 65, 66, 91, 92, 80, 81, 82, 83, 84, 85, 86, 87, 88, 89, 90] (by decide +kernel) (by decide +kernel)
set_option maxRecDepth 20000 in
theorem gX7_open_X1_init : GoodIn wsX7_open (wsX1_init) := ggX7_open_X1_init
theorem dX7_open_0 : decode cX7_open 0 = .ok (.iload_n 1, 1) := by decide +kernel
theorem dX7_open_1 : decode cX7_open 1 = .ok (.invokestatic 69, 3) := by decide +kernel
theorem dX7_open_4 : decode cX7_open 4 = .ok (.aload_n 0, 1) := by decide +kernel
theorem dX7_open_5 : decode cX7_open 5 = .ok (.getfield 96, 3) := by decide +kernel
theorem dX7_open_8 : decode cX7_open 8 = .ok (.aload_n 0, 1) := by decide +kernel
theorem dX7_open_9 : decode cX7_open 9 = .ok (.getfield 22, 3) := by decide +kernel
theorem dX7_open_12 : decode cX7_open 12 = .ok (.arraylength, 1) := by decide +kernel
theorem dX7_open_13 : decode cX7_open 13 = .ok (.if_icmp .lt 13, 3) := by decide +kernel
theorem dX7_open_16 : decode cX7_open 16 = .ok (.new 87, 3) := by decide +kernel
theorem dX7_open_19 : decode cX7_open 19 = .ok (.dup, 1) := by decide +kernel
theorem dX7_open_20 : decode cX7_open 20 = .ok (.ldc 99, 2) := by decide +kernel
theorem dX7_open_22 : decode cX7_open 22 = .ok (.invokespecial 91, 3) := by decide +kernel
theorem dX7_open_25 : decode cX7_open 25 = .ok (.athrow, 1) := by decide +kernel
theorem dX7_open_26 : decode cX7_open 26 = .ok (.aload_n 0, 1) := by decide +kernel
theorem dX7_open_27 : decode cX7_open 27 = .ok (.getfield 96, 3) := by decide +kernel
theorem dX7_open_30 : decode cX7_open 30 = .ok (.istore_n 2, 1) := by decide +kernel
theorem dX7_open_31 : decode cX7_open 31 = .ok (.aload_n 0, 1) := by decide +kernel
theorem dX7_open_32 : decode cX7_open 32 = .ok (.getfield 22, 3) := by decide +kernel
theorem dX7_open_35 : decode cX7_open 35 = .ok (.iload_n 2, 1) := by decide +kernel
theorem dX7_open_36 : decode cX7_open 36 = .ok (.new 20, 3) := by decide +kernel
theorem dX7_open_39 : decode cX7_open 39 = .ok (.dup, 1) := by decide +kernel
theorem dX7_open_40 : decode cX7_open 40 = .ok (.iload_n 2, 1) := by decide +kernel
theorem dX7_open_41 : decode cX7_open 41 = .ok (.iload_n 1, 1) := by decide +kernel
theorem dX7_open_42 : decode cX7_open 42 = .ok (.aload_n 0, 1) := by decide +kernel
theorem dX7_open_43 : decode cX7_open 43 = .ok (.getfield 12, 3) := by decide +kernel
theorem dX7_open_46 : decode cX7_open 46 = .ok (.invokespecial 101, 3) := by decide +kernel
theorem dX7_open_49 : decode cX7_open 49 = .ok (.aastore, 1) := by decide +kernel
theorem dX7_open_50 : decode cX7_open 50 = .ok (.aload_n 0, 1) := by decide +kernel
theorem dX7_open_51 : decode cX7_open 51 = .ok (.dup, 1) := by decide +kernel
theorem dX7_open_52 : decode cX7_open 52 = .ok (.getfield 96, 3) := by decide +kernel
theorem dX7_open_55 : decode cX7_open 55 = .ok (.iconst 1, 1) := by decide +kernel
theorem dX7_open_56 : decode cX7_open 56 = .ok (.iadd, 1) := by decide +kernel
theorem dX7_open_57 : decode cX7_open 57 = .ok (.putfield 96, 3) := by decide +kernel
theorem dX7_open_60 : decode cX7_open 60 = .ok (.iload_n 2, 1) := by decide +kernel
theorem dX7_open_61 : decode cX7_open 61 = .ok (.ireturn, 1) := by decide +kernel
set_option maxRecDepth 20000 in
theorem ggX7_addLine_X7_changeOf : GoodIn wsX7_addLine wsX7_changeOf := goodIn_ca (goodIn_r _ [7, 8, 9, 10, 43, 44, 45, 46, 47, 48, 49, 50, 51, 52, 53, 54, 55] (by decide +kernel) (by decide +kernel)) (goodIn_sub (fun _ h => List.mem_cons_of_mem _ (List.mem_append_left _ (List.mem_append_right _ h))) (by decide +kernel))
set_option maxRecDepth 20000 in
theorem gX7_addLine_X7_changeOf : GoodIn wsX7_addLine (wsV RX7 104 RX7 yX7_changeOf wsX7_changeOf) := goodIn_app (goodIn_of _ (by decide +kernel)) ggX7_addLine_X7_changeOf
set_option maxRecDepth 20000 in
theorem ggX7_addLine_X7_checkContent : GoodIn wsX7_addLine wsX7_checkContent := goodIn_ca (goodIn_r _ [13, 14, 15] (by decide +kernel) (by decide +kernel)) (goodIn_sub (fun _ h => List.mem_cons_of_mem _ (List.mem_append_right _ h)) (by decide +kernel))
set_option maxRecDepth 20000 in
theorem gX7_addLine_X7_checkContent : GoodIn wsX7_addLine (va_wsS RX7 73 yX7_checkContent wsX7_checkContent) := goodIn_app (goodIn_of _ (by decide +kernel)) ggX7_addLine_X7_checkContent
set_option maxRecDepth 20000 in
theorem ggX7_addLine_X7_checkNotLanded : GoodIn wsX7_addLine wsX7_checkNotLanded := goodIn_ca (goodIn_r _ [18, 1, 2, 32, 33, 34, 35, 36, 37, 38, 39, 40, 41, 42] (by decide +kernel) (by decide +kernel)) (goodIn_sub (fun _ h => List.mem_cons_of_mem _ (List.mem_append_left _ (List.mem_append_left _ (List.mem_append_right _ h)))) (by decide +kernel))
set_option maxRecDepth 20000 in
theorem gX7_addLine_X7_checkNotLanded : GoodIn wsX7_addLine (va_wsS RX7 108 yX7_checkNotLanded wsX7_checkNotLanded) := goodIn_app (goodIn_of _ (by decide +kernel)) ggX7_addLine_X7_checkNotLanded
set_option maxRecDepth 20000 in
theorem ggX7_addLine_X5_size : GoodIn wsX7_addLine wsX5_size := goodIn_r _ [23, 24, 56, 57] (by decide +kernel) (by decide +kernel)
set_option maxRecDepth 20000 in
theorem gX7_addLine_X5_size : GoodIn wsX7_addLine (wsV RX7 115 RX5 yX5_size wsX5_size) := goodIn_app (goodIn_of _ (by decide +kernel)) ggX7_addLine_X5_size
set_option maxRecDepth 20000 in
theorem ggX7_addLine_X5_append : GoodIn wsX7_addLine wsX5_append := goodIn_r _ [28, 24, 29, 30, 6, 31, 56, 57] (by decide +kernel) (by decide +kernel)
set_option maxRecDepth 20000 in
theorem gX7_addLine_X5_append : GoodIn wsX7_addLine (wsV RX7 121 RX5 yX5_append wsX5_append) := goodIn_app (goodIn_of _ (by decide +kernel)) ggX7_addLine_X5_append
theorem dX7_addLine_0 : decode cX7_addLine 0 = .ok (.aload_n 0, 1) := by decide +kernel
theorem dX7_addLine_1 : decode cX7_addLine 1 = .ok (.iload_n 1, 1) := by decide +kernel
theorem dX7_addLine_2 : decode cX7_addLine 2 = .ok (.invokevirtual 104, 3) := by decide +kernel
theorem dX7_addLine_5 : decode cX7_addLine 5 = .ok (.astore_n 3, 1) := by decide +kernel
theorem dX7_addLine_6 : decode cX7_addLine 6 = .ok (.iload_n 2, 1) := by decide +kernel
theorem dX7_addLine_7 : decode cX7_addLine 7 = .ok (.invokestatic 73, 3) := by decide +kernel
theorem dX7_addLine_10 : decode cX7_addLine 10 = .ok (.aload_n 3, 1) := by decide +kernel
theorem dX7_addLine_11 : decode cX7_addLine 11 = .ok (.invokestatic 108, 3) := by decide +kernel
theorem dX7_addLine_14 : decode cX7_addLine 14 = .ok (.aload_n 3, 1) := by decide +kernel
theorem dX7_addLine_15 : decode cX7_addLine 15 = .ok (.getfield 112, 3) := by decide +kernel
theorem dX7_addLine_18 : decode cX7_addLine 18 = .ok (.invokevirtual 115, 3) := by decide +kernel
theorem dX7_addLine_21 : decode cX7_addLine 21 = .ok (.bipush 12, 2) := by decide +kernel
theorem dX7_addLine_23 : decode cX7_addLine 23 = .ok (.if_icmp .lt 13, 3) := by decide +kernel
theorem dX7_addLine_26 : decode cX7_addLine 26 = .ok (.new 87, 3) := by decide +kernel
theorem dX7_addLine_29 : decode cX7_addLine 29 = .ok (.dup, 1) := by decide +kernel
theorem dX7_addLine_30 : decode cX7_addLine 30 = .ok (.ldc 119, 2) := by decide +kernel
theorem dX7_addLine_32 : decode cX7_addLine 32 = .ok (.invokespecial 91, 3) := by decide +kernel
theorem dX7_addLine_35 : decode cX7_addLine 35 = .ok (.athrow, 1) := by decide +kernel
theorem dX7_addLine_36 : decode cX7_addLine 36 = .ok (.aload_n 3, 1) := by decide +kernel
theorem dX7_addLine_37 : decode cX7_addLine 37 = .ok (.getfield 112, 3) := by decide +kernel
theorem dX7_addLine_40 : decode cX7_addLine 40 = .ok (.iload_n 2, 1) := by decide +kernel
theorem dX7_addLine_41 : decode cX7_addLine 41 = .ok (.invokevirtual 121, 3) := by decide +kernel
theorem dX7_addLine_44 : decode cX7_addLine 44 = .ok (.aload_n 3, 1) := by decide +kernel
theorem dX7_addLine_45 : decode cX7_addLine 45 = .ok (.getfield 112, 3) := by decide +kernel
theorem dX7_addLine_48 : decode cX7_addLine 48 = .ok (.invokevirtual 115, 3) := by decide +kernel
theorem dX7_addLine_51 : decode cX7_addLine 51 = .ok (.ireturn, 1) := by decide +kernel
set_option maxRecDepth 20000 in
theorem ggX7_lay_X7_changeOf : GoodIn wsX7_lay wsX7_changeOf := goodIn_ca (goodIn_r _ [7, 8, 9, 10, 71, 72, 73, 74, 75, 76, 77, 78, 79, 80, 81, 82, 83] (by decide +kernel) (by decide +kernel)) (goodIn_sub (fun _ h => List.mem_cons_of_mem _ (List.mem_append_right _ h)) (by decide +kernel))
set_option maxRecDepth 20000 in
theorem gX7_lay_X7_changeOf : GoodIn wsX7_lay (wsV RX7 104 RX7 yX7_changeOf wsX7_changeOf) := goodIn_app (goodIn_of _ (by decide +kernel)) ggX7_lay_X7_changeOf
set_option maxRecDepth 20000 in
theorem ggX7_lay_X7_checkNotLanded : GoodIn wsX7_lay wsX7_checkNotLanded := goodIn_ca (goodIn_r _ [13, 1, 2, 60, 61, 62, 63, 64, 65, 66, 67, 68, 69, 70] (by decide +kernel) (by decide +kernel)) (goodIn_sub (fun _ h => List.mem_cons_of_mem _ (List.mem_append_left _ (List.mem_append_right _ h))) (by decide +kernel))
set_option maxRecDepth 20000 in
theorem gX7_lay_X7_checkNotLanded : GoodIn wsX7_lay (va_wsS RX7 108 yX7_checkNotLanded wsX7_checkNotLanded) := goodIn_app (goodIn_of _ (by decide +kernel)) ggX7_lay_X7_checkNotLanded
set_option maxRecDepth 20000 in
theorem ggX7_lay_X1_addRound : GoodIn wsX7_lay wsX1_addRound := goodIn_r _ [18, 19, 20, 21, 22, 23, 24, 25, 26, 27, 28, 29, 30, 31, 32, 33, 34, 35, 36, 37, 38, 39, 40, 41, 42, 43, 44, 45, 46, 47, 48, 49, 50, 51, 52, 53, 54, 55, 56, 57, 6, 58, 59, 60, 61, 62, 63, 64, 65, 66, 67, 68, 69, 70, 84, 85] (by decide +kernel) (by decide +kernel)
set_option maxRecDepth 20000 in
theorem gX7_lay_X1_addRound : GoodIn wsX7_lay (wsV RX7 129 RX1 yX1_addRound wsX1_addRound) := goodIn_app (goodIn_of _ (by decide +kernel)) ggX7_lay_X1_addRound
theorem dX7_lay_0 : decode cX7_lay 0 = .ok (.aload_n 0, 1) := by decide +kernel
theorem dX7_lay_1 : decode cX7_lay 1 = .ok (.iload_n 1, 1) := by decide +kernel
theorem dX7_lay_2 : decode cX7_lay 2 = .ok (.invokevirtual 104, 3) := by decide +kernel
theorem dX7_lay_5 : decode cX7_lay 5 = .ok (.astore_n 2, 1) := by decide +kernel
theorem dX7_lay_6 : decode cX7_lay 6 = .ok (.aload_n 2, 1) := by decide +kernel
theorem dX7_lay_7 : decode cX7_lay 7 = .ok (.invokestatic 108, 3) := by decide +kernel
theorem dX7_lay_10 : decode cX7_lay 10 = .ok (.aload_n 2, 1) := by decide +kernel
theorem dX7_lay_11 : decode cX7_lay 11 = .ok (.getfield 124, 3) := by decide +kernel
theorem dX7_lay_14 : decode cX7_lay 14 = .ok (.iconst 4, 1) := by decide +kernel
theorem dX7_lay_15 : decode cX7_lay 15 = .ok (.if_icmp .lt 13, 3) := by decide +kernel
theorem dX7_lay_18 : decode cX7_lay 18 = .ok (.new 87, 3) := by decide +kernel
theorem dX7_lay_21 : decode cX7_lay 21 = .ok (.dup, 1) := by decide +kernel
theorem dX7_lay_22 : decode cX7_lay 22 = .ok (.ldc 127, 2) := by decide +kernel
theorem dX7_lay_24 : decode cX7_lay 24 = .ok (.invokespecial 91, 3) := by decide +kernel
theorem dX7_lay_27 : decode cX7_lay 27 = .ok (.athrow, 1) := by decide +kernel
theorem dX7_lay_28 : decode cX7_lay 28 = .ok (.aload_n 2, 1) := by decide +kernel
theorem dX7_lay_29 : decode cX7_lay 29 = .ok (.invokevirtual 129, 3) := by decide +kernel
theorem dX7_lay_32 : decode cX7_lay 32 = .ok (.aload_n 2, 1) := by decide +kernel
theorem dX7_lay_33 : decode cX7_lay 33 = .ok (.getfield 124, 3) := by decide +kernel
theorem dX7_lay_36 : decode cX7_lay 36 = .ok (.iconst 1, 1) := by decide +kernel
theorem dX7_lay_37 : decode cX7_lay 37 = .ok (.isub, 1) := by decide +kernel
theorem dX7_lay_38 : decode cX7_lay 38 = .ok (.ireturn, 1) := by decide +kernel
set_option maxRecDepth 20000 in
theorem ggX7_landAfter_X7_changeOf : GoodIn wsX7_landAfter wsX7_changeOf := goodIn_ca (goodIn_r _ [7, 8, 9, 10, 44, 45, 46, 47, 48, 49, 50, 51, 52, 53, 54, 55, 56] (by decide +kernel) (by decide +kernel)) (goodIn_sub (fun _ h => List.mem_cons_of_mem _ (List.mem_append_left _ (List.mem_append_right _ h))) (by decide +kernel))
set_option maxRecDepth 20000 in
theorem gX7_landAfter_X7_changeOf : GoodIn wsX7_landAfter (wsV RX7 104 RX7 yX7_changeOf wsX7_changeOf) := goodIn_app (goodIn_of _ (by decide +kernel)) ggX7_landAfter_X7_changeOf
set_option maxRecDepth 20000 in
theorem ggX7_landAfter_X7_checkNotLanded : GoodIn wsX7_landAfter wsX7_checkNotLanded := goodIn_ca (goodIn_r _ [13, 14, 15, 33, 34, 35, 36, 37, 38, 39, 40, 41, 42, 43] (by decide +kernel) (by decide +kernel)) (goodIn_sub (fun _ h => List.mem_cons_of_mem _ (List.mem_append_right _ h)) (by decide +kernel))
set_option maxRecDepth 20000 in
theorem gX7_landAfter_X7_checkNotLanded : GoodIn wsX7_landAfter (va_wsS RX7 108 yX7_checkNotLanded wsX7_checkNotLanded) := goodIn_app (goodIn_of _ (by decide +kernel)) ggX7_landAfter_X7_checkNotLanded
set_option maxRecDepth 20000 in
theorem ggX7_landAfter_X7_allBefore : GoodIn wsX7_landAfter wsX7_allBefore := goodIn_r _ [19, 10, 20, 21, 6, 22, 33, 34, 35, 36, 37, 38, 39, 40, 41, 42, 43, 44, 45, 46, 47, 48, 49, 50, 51, 52, 53, 54, 55, 56] (by decide +kernel) (by decide +kernel)
set_option maxRecDepth 20000 in
theorem gX7_landAfter_X7_allBefore : GoodIn wsX7_landAfter (wsV RX7 132 RX7 yX7_allBefore wsX7_allBefore) := goodIn_app (goodIn_of _ (by decide +kernel)) ggX7_landAfter_X7_allBefore
set_option maxRecDepth 20000 in
theorem ggX7_landAfter_X7_hasBit : GoodIn wsX7_landAfter wsX7_hasBit := goodIn_r _ [22] (by decide +kernel) (by decide +kernel)
set_option maxRecDepth 20000 in
theorem gX7_landAfter_X7_hasBit : GoodIn wsX7_landAfter (va_wsS RX7 136 yX7_hasBit wsX7_hasBit) := goodIn_app (goodIn_of _ (by decide +kernel)) ggX7_landAfter_X7_hasBit
set_option maxRecDepth 20000 in
theorem ggX7_landAfter_X7_withBit : GoodIn wsX7_landAfter wsX7_withBit := goodIn_r _ [25] (by decide +kernel) (by decide +kernel)
set_option maxRecDepth 20000 in
theorem gX7_landAfter_X7_withBit : GoodIn wsX7_landAfter (va_wsS RX7 148 yX7_withBit wsX7_withBit) := goodIn_app (goodIn_of _ (by decide +kernel)) ggX7_landAfter_X7_withBit
set_option maxRecDepth 20000 in
theorem ggX7_landAfter_J6_bitCount_0f7a4 : GoodIn wsX7_landAfter wsJ6_bitCount_0f7a4 := goodIn_r _ [29, 30, 31, 32] (by decide +kernel) (by decide +kernel)
set_option maxRecDepth 20000 in
theorem gX7_landAfter_J6_bitCount_0f7a4 : GoodIn wsX7_landAfter (va_wsS RX7 152 yJ6_bitCount_0f7a4 wsJ6_bitCount_0f7a4) := goodIn_app (goodIn_of _ (by decide +kernel)) ggX7_landAfter_J6_bitCount_0f7a4
theorem dX7_landAfter_0 : decode cX7_landAfter 0 = .ok (.aload_n 0, 1) := by decide +kernel
theorem dX7_landAfter_1 : decode cX7_landAfter 1 = .ok (.iload_n 1, 1) := by decide +kernel
theorem dX7_landAfter_2 : decode cX7_landAfter 2 = .ok (.invokevirtual 104, 3) := by decide +kernel
theorem dX7_landAfter_5 : decode cX7_landAfter 5 = .ok (.astore_n 3, 1) := by decide +kernel
theorem dX7_landAfter_6 : decode cX7_landAfter 6 = .ok (.aload_n 0, 1) := by decide +kernel
theorem dX7_landAfter_7 : decode cX7_landAfter 7 = .ok (.iload_n 2, 1) := by decide +kernel
theorem dX7_landAfter_8 : decode cX7_landAfter 8 = .ok (.invokevirtual 104, 3) := by decide +kernel
theorem dX7_landAfter_11 : decode cX7_landAfter 11 = .ok (.astore 4, 2) := by decide +kernel
theorem dX7_landAfter_13 : decode cX7_landAfter 13 = .ok (.aload_n 3, 1) := by decide +kernel
theorem dX7_landAfter_14 : decode cX7_landAfter 14 = .ok (.invokestatic 108, 3) := by decide +kernel
theorem dX7_landAfter_17 : decode cX7_landAfter 17 = .ok (.iload_n 1, 1) := by decide +kernel
theorem dX7_landAfter_18 : decode cX7_landAfter 18 = .ok (.iload_n 2, 1) := by decide +kernel
theorem dX7_landAfter_19 : decode cX7_landAfter 19 = .ok (.if_icmp .eq 16, 3) := by decide +kernel
theorem dX7_landAfter_22 : decode cX7_landAfter 22 = .ok (.aload_n 0, 1) := by decide +kernel
theorem dX7_landAfter_23 : decode cX7_landAfter 23 = .ok (.aload 4, 2) := by decide +kernel
theorem dX7_landAfter_25 : decode cX7_landAfter 25 = .ok (.invokevirtual 132, 3) := by decide +kernel
theorem dX7_landAfter_28 : decode cX7_landAfter 28 = .ok (.iload_n 1, 1) := by decide +kernel
theorem dX7_landAfter_29 : decode cX7_landAfter 29 = .ok (.invokestatic 136, 3) := by decide +kernel
theorem dX7_landAfter_32 : decode cX7_landAfter 32 = .ok (.ifCond .eq 13, 3) := by decide +kernel
theorem dX7_landAfter_35 : decode cX7_landAfter 35 = .ok (.new 140, 3) := by decide +kernel
theorem dX7_landAfter_38 : decode cX7_landAfter 38 = .ok (.dup, 1) := by decide +kernel
theorem dX7_landAfter_39 : decode cX7_landAfter 39 = .ok (.ldc 142, 2) := by decide +kernel
theorem dX7_landAfter_41 : decode cX7_landAfter 41 = .ok (.invokespecial 144, 3) := by decide +kernel
theorem dX7_landAfter_44 : decode cX7_landAfter 44 = .ok (.athrow, 1) := by decide +kernel
theorem dX7_landAfter_45 : decode cX7_landAfter 45 = .ok (.aload_n 3, 1) := by decide +kernel
theorem dX7_landAfter_46 : decode cX7_landAfter 46 = .ok (.aload_n 3, 1) := by decide +kernel
theorem dX7_landAfter_47 : decode cX7_landAfter 47 = .ok (.getfield 145, 3) := by decide +kernel
theorem dX7_landAfter_50 : decode cX7_landAfter 50 = .ok (.iload_n 2, 1) := by decide +kernel
theorem dX7_landAfter_51 : decode cX7_landAfter 51 = .ok (.invokestatic 148, 3) := by decide +kernel
theorem dX7_landAfter_54 : decode cX7_landAfter 54 = .ok (.putfield 145, 3) := by decide +kernel
theorem dX7_landAfter_57 : decode cX7_landAfter 57 = .ok (.aload_n 3, 1) := by decide +kernel
theorem dX7_landAfter_58 : decode cX7_landAfter 58 = .ok (.getfield 145, 3) := by decide +kernel
theorem dX7_landAfter_61 : decode cX7_landAfter 61 = .ok (.invokestatic 152, 3) := by decide +kernel
theorem dX7_landAfter_64 : decode cX7_landAfter 64 = .ok (.ireturn, 1) := by decide +kernel
set_option maxRecDepth 20000 in
theorem ggX7_setPriority_X7_changeOf : GoodIn wsX7_setPriority wsX7_changeOf := goodIn_ca (goodIn_r _ [7, 8, 9, 10, 22, 23, 24, 25, 26, 27, 28, 29, 30, 31, 32, 33, 34] (by decide +kernel) (by decide +kernel)) (goodIn_sub (fun _ h => List.mem_cons_of_mem _ (List.mem_append_right _ h)) (by decide +kernel))
set_option maxRecDepth 20000 in
theorem gX7_setPriority_X7_changeOf : GoodIn wsX7_setPriority (wsV RX7 104 RX7 yX7_changeOf wsX7_changeOf) := goodIn_app (goodIn_of _ (by decide +kernel)) ggX7_setPriority_X7_changeOf
theorem dX7_setPriority_0 : decode cX7_setPriority 0 = .ok (.aload_n 0, 1) := by decide +kernel
theorem dX7_setPriority_1 : decode cX7_setPriority 1 = .ok (.iload_n 1, 1) := by decide +kernel
theorem dX7_setPriority_2 : decode cX7_setPriority 2 = .ok (.invokevirtual 104, 3) := by decide +kernel
theorem dX7_setPriority_5 : decode cX7_setPriority 5 = .ok (.astore_n 3, 1) := by decide +kernel
theorem dX7_setPriority_6 : decode cX7_setPriority 6 = .ok (.iload_n 2, 1) := by decide +kernel
theorem dX7_setPriority_7 : decode cX7_setPriority 7 = .ok (.ifCond .lt 9, 3) := by decide +kernel
theorem dX7_setPriority_10 : decode cX7_setPriority 10 = .ok (.iload_n 2, 1) := by decide +kernel
theorem dX7_setPriority_11 : decode cX7_setPriority 11 = .ok (.bipush 9, 2) := by decide +kernel
theorem dX7_setPriority_13 : decode cX7_setPriority 13 = .ok (.if_icmp .le 13, 3) := by decide +kernel
theorem dX7_setPriority_16 : decode cX7_setPriority 16 = .ok (.new 76, 3) := by decide +kernel
theorem dX7_setPriority_19 : decode cX7_setPriority 19 = .ok (.dup, 1) := by decide +kernel
theorem dX7_setPriority_20 : decode cX7_setPriority 20 = .ok (.ldc 158, 2) := by decide +kernel
theorem dX7_setPriority_22 : decode cX7_setPriority 22 = .ok (.invokespecial 80, 3) := by decide +kernel
theorem dX7_setPriority_25 : decode cX7_setPriority 25 = .ok (.athrow, 1) := by decide +kernel
theorem dX7_setPriority_26 : decode cX7_setPriority 26 = .ok (.aload_n 3, 1) := by decide +kernel
theorem dX7_setPriority_27 : decode cX7_setPriority 27 = .ok (.getfield 160, 3) := by decide +kernel
theorem dX7_setPriority_30 : decode cX7_setPriority 30 = .ok (.istore 4, 2) := by decide +kernel
theorem dX7_setPriority_32 : decode cX7_setPriority 32 = .ok (.aload_n 3, 1) := by decide +kernel
theorem dX7_setPriority_33 : decode cX7_setPriority 33 = .ok (.iload_n 2, 1) := by decide +kernel
theorem dX7_setPriority_34 : decode cX7_setPriority 34 = .ok (.putfield 160, 3) := by decide +kernel
theorem dX7_setPriority_37 : decode cX7_setPriority 37 = .ok (.iload 4, 2) := by decide +kernel
theorem dX7_setPriority_39 : decode cX7_setPriority 39 = .ok (.ireturn, 1) := by decide +kernel
set_option maxRecDepth 20000 in
theorem ggX7_comment_X7_changeOf : GoodIn wsX7_comment wsX7_changeOf := goodIn_ca (goodIn_r _ [14, 15, 16, 17, 59, 60, 61, 62, 63, 64, 65, 66, 67, 68, 69, 70, 71] (by decide +kernel) (by decide +kernel)) (goodIn_sub (fun _ h => List.mem_cons_of_mem _ (List.mem_append_right _ h)) (by decide +kernel))
set_option maxRecDepth 20000 in
theorem gX7_comment_X7_changeOf : GoodIn wsX7_comment (wsV RX7 104 RX7 yX7_changeOf wsX7_changeOf) := goodIn_app (goodIn_of _ (by decide +kernel)) ggX7_comment_X7_changeOf
set_option maxRecDepth 20000 in
theorem ggX7_comment_X1_presentText : GoodIn wsX7_comment wsX1_presentText := goodIn_r _ [22, 23, 24, 25, 26, 21, 27, 28, 29, 48, 49, 50, 51, 52, 53, 54, 55, 56, 57, 58] (by decide +kernel) (by decide +kernel)
set_option maxRecDepth 20000 in
theorem gX7_comment_X1_presentText : GoodIn wsX7_comment (wsV RX7 163 RX1 yX1_presentText wsX1_presentText) := goodIn_app (goodIn_of _ (by decide +kernel)) ggX7_comment_X1_presentText
set_option maxRecDepth 20000 in
theorem ggX7_comment_X5_has : GoodIn wsX7_comment wsX5_has := goodIn_r _ [34, 35, 76, 77] (by decide +kernel) (by decide +kernel)
set_option maxRecDepth 20000 in
theorem gX7_comment_X5_has : GoodIn wsX7_comment (wsV RX7 167 RX5 yX5_has wsX5_has) := goodIn_app (goodIn_of _ (by decide +kernel)) ggX7_comment_X5_has
set_option maxRecDepth 20000 in
theorem ggX7_comment_X7_checkNotLanded : GoodIn wsX7_comment wsX7_checkNotLanded := goodIn_ca (goodIn_r _ [38, 3, 4, 48, 49, 50, 51, 52, 53, 54, 55, 56, 57, 58] (by decide +kernel) (by decide +kernel)) (goodIn_sub (fun _ h => List.mem_cons_of_mem _ (List.mem_append_left _ (List.mem_append_right _ h))) (by decide +kernel))
set_option maxRecDepth 20000 in
theorem gX7_comment_X7_checkNotLanded : GoodIn wsX7_comment (va_wsS RX7 108 yX7_checkNotLanded wsX7_checkNotLanded) := goodIn_app (goodIn_of _ (by decide +kernel)) ggX7_comment_X7_checkNotLanded
set_option maxRecDepth 20000 in
theorem ggX7_comment_X3_init : GoodIn wsX7_comment wsX3_init := goodIn_r _ [41, 42, 43, 44, 45, 46, 47, 72, 73, 74, 75] (by decide +kernel) (by decide +kernel)
set_option maxRecDepth 20000 in
theorem gX7_comment_X3_init : GoodIn wsX7_comment (wsX3_init) := ggX7_comment_X3_init
theorem dX7_comment_0 : decode cX7_comment 0 = .ok (.aload_n 0, 1) := by decide +kernel
theorem dX7_comment_1 : decode cX7_comment 1 = .ok (.iload_n 1, 1) := by decide +kernel
theorem dX7_comment_2 : decode cX7_comment 2 = .ok (.invokevirtual 104, 3) := by decide +kernel
theorem dX7_comment_5 : decode cX7_comment 5 = .ok (.astore_n 3, 1) := by decide +kernel
theorem dX7_comment_6 : decode cX7_comment 6 = .ok (.aload_n 3, 1) := by decide +kernel
theorem dX7_comment_7 : decode cX7_comment 7 = .ok (.getfield 124, 3) := by decide +kernel
theorem dX7_comment_10 : decode cX7_comment 10 = .ok (.ifCond .eq 14, 3) := by decide +kernel
theorem dX7_comment_13 : decode cX7_comment 13 = .ok (.aload_n 3, 1) := by decide +kernel
theorem dX7_comment_14 : decode cX7_comment 14 = .ok (.invokevirtual 163, 3) := by decide +kernel
theorem dX7_comment_17 : decode cX7_comment 17 = .ok (.iload_n 2, 1) := by decide +kernel
theorem dX7_comment_18 : decode cX7_comment 18 = .ok (.invokevirtual 167, 3) := by decide +kernel
theorem dX7_comment_21 : decode cX7_comment 21 = .ok (.ifCond .ne 13, 3) := by decide +kernel
theorem dX7_comment_24 : decode cX7_comment 24 = .ok (.new 171, 3) := by decide +kernel
theorem dX7_comment_27 : decode cX7_comment 27 = .ok (.dup, 1) := by decide +kernel
theorem dX7_comment_28 : decode cX7_comment 28 = .ok (.ldc 173, 2) := by decide +kernel
theorem dX7_comment_30 : decode cX7_comment 30 = .ok (.invokespecial 175, 3) := by decide +kernel
theorem dX7_comment_33 : decode cX7_comment 33 = .ok (.athrow, 1) := by decide +kernel
theorem dX7_comment_34 : decode cX7_comment 34 = .ok (.aload_n 3, 1) := by decide +kernel
theorem dX7_comment_35 : decode cX7_comment 35 = .ok (.invokestatic 108, 3) := by decide +kernel
theorem dX7_comment_38 : decode cX7_comment 38 = .ok (.aload_n 0, 1) := by decide +kernel
theorem dX7_comment_39 : decode cX7_comment 39 = .ok (.getfield 176, 3) := by decide +kernel
theorem dX7_comment_42 : decode cX7_comment 42 = .ok (.aload_n 0, 1) := by decide +kernel
theorem dX7_comment_43 : decode cX7_comment 43 = .ok (.getfield 28, 3) := by decide +kernel
theorem dX7_comment_46 : decode cX7_comment 46 = .ok (.arraylength, 1) := by decide +kernel
theorem dX7_comment_47 : decode cX7_comment 47 = .ok (.if_icmp .lt 13, 3) := by decide +kernel
theorem dX7_comment_50 : decode cX7_comment 50 = .ok (.new 87, 3) := by decide +kernel
theorem dX7_comment_53 : decode cX7_comment 53 = .ok (.dup, 1) := by decide +kernel
theorem dX7_comment_54 : decode cX7_comment 54 = .ok (.ldc 179, 2) := by decide +kernel
theorem dX7_comment_56 : decode cX7_comment 56 = .ok (.invokespecial 91, 3) := by decide +kernel
theorem dX7_comment_59 : decode cX7_comment 59 = .ok (.athrow, 1) := by decide +kernel
theorem dX7_comment_60 : decode cX7_comment 60 = .ok (.aload_n 0, 1) := by decide +kernel
theorem dX7_comment_61 : decode cX7_comment 61 = .ok (.getfield 176, 3) := by decide +kernel
theorem dX7_comment_64 : decode cX7_comment 64 = .ok (.istore 4, 2) := by decide +kernel
theorem dX7_comment_66 : decode cX7_comment 66 = .ok (.aload_n 0, 1) := by decide +kernel
theorem dX7_comment_67 : decode cX7_comment 67 = .ok (.getfield 28, 3) := by decide +kernel
theorem dX7_comment_70 : decode cX7_comment 70 = .ok (.iload 4, 2) := by decide +kernel
theorem dX7_comment_72 : decode cX7_comment 72 = .ok (.new 26, 3) := by decide +kernel
theorem dX7_comment_75 : decode cX7_comment 75 = .ok (.dup, 1) := by decide +kernel
theorem dX7_comment_76 : decode cX7_comment 76 = .ok (.aload_n 3, 1) := by decide +kernel
theorem dX7_comment_77 : decode cX7_comment 77 = .ok (.aload_n 3, 1) := by decide +kernel
theorem dX7_comment_78 : decode cX7_comment 78 = .ok (.getfield 124, 3) := by decide +kernel
theorem dX7_comment_81 : decode cX7_comment 81 = .ok (.iconst 1, 1) := by decide +kernel
theorem dX7_comment_82 : decode cX7_comment 82 = .ok (.isub, 1) := by decide +kernel
theorem dX7_comment_83 : decode cX7_comment 83 = .ok (.iload_n 2, 1) := by decide +kernel
theorem dX7_comment_84 : decode cX7_comment 84 = .ok (.invokespecial 181, 3) := by decide +kernel
theorem dX7_comment_87 : decode cX7_comment 87 = .ok (.aastore, 1) := by decide +kernel
theorem dX7_comment_88 : decode cX7_comment 88 = .ok (.aload_n 0, 1) := by decide +kernel
theorem dX7_comment_89 : decode cX7_comment 89 = .ok (.dup, 1) := by decide +kernel
theorem dX7_comment_90 : decode cX7_comment 90 = .ok (.getfield 176, 3) := by decide +kernel
theorem dX7_comment_93 : decode cX7_comment 93 = .ok (.iconst 1, 1) := by decide +kernel
theorem dX7_comment_94 : decode cX7_comment 94 = .ok (.iadd, 1) := by decide +kernel
theorem dX7_comment_95 : decode cX7_comment 95 = .ok (.putfield 176, 3) := by decide +kernel
theorem dX7_comment_98 : decode cX7_comment 98 = .ok (.iload 4, 2) := by decide +kernel
theorem dX7_comment_100 : decode cX7_comment 100 = .ok (.ireturn, 1) := by decide +kernel
set_option maxRecDepth 20000 in
theorem ggX7_resolve_X7_remarkOf : GoodIn wsX7_resolve wsX7_remarkOf := goodIn_ca (goodIn_r _ [7, 8, 9, 10, 19, 20, 21, 22, 23, 24, 25, 26, 27, 28, 29, 30, 31] (by decide +kernel) (by decide +kernel)) (goodIn_sub (fun _ h => List.mem_cons_of_mem _ (List.mem_append_right _ h)) (by decide +kernel))
set_option maxRecDepth 20000 in
theorem gX7_resolve_X7_remarkOf : GoodIn wsX7_resolve (wsV RX7 184 RX7 yX7_remarkOf wsX7_remarkOf) := goodIn_app (goodIn_of _ (by decide +kernel)) ggX7_resolve_X7_remarkOf
set_option maxRecDepth 20000 in
theorem ggX7_resolve_X7_countOpen : GoodIn wsX7_resolve wsX7_countOpen := goodIn_r _ [14, 10, 19, 20, 21, 22, 23, 24, 25, 26, 27, 28, 29, 30, 31, 15, 16, 17, 18] (by decide +kernel) (by decide +kernel)
set_option maxRecDepth 20000 in
theorem gX7_resolve_X7_countOpen : GoodIn wsX7_resolve (wsV RX7 198 RX7 yX7_countOpen wsX7_countOpen) := goodIn_app (goodIn_of _ (by decide +kernel)) ggX7_resolve_X7_countOpen
theorem dX7_resolve_0 : decode cX7_resolve 0 = .ok (.aload_n 0, 1) := by decide +kernel
theorem dX7_resolve_1 : decode cX7_resolve 1 = .ok (.iload_n 1, 1) := by decide +kernel
theorem dX7_resolve_2 : decode cX7_resolve 2 = .ok (.invokevirtual 184, 3) := by decide +kernel
theorem dX7_resolve_5 : decode cX7_resolve 5 = .ok (.astore_n 2, 1) := by decide +kernel
theorem dX7_resolve_6 : decode cX7_resolve 6 = .ok (.aload_n 2, 1) := by decide +kernel
theorem dX7_resolve_7 : decode cX7_resolve 7 = .ok (.getfield 188, 3) := by decide +kernel
theorem dX7_resolve_10 : decode cX7_resolve 10 = .ok (.ifCond .eq 13, 3) := by decide +kernel
theorem dX7_resolve_13 : decode cX7_resolve 13 = .ok (.new 87, 3) := by decide +kernel
theorem dX7_resolve_16 : decode cX7_resolve 16 = .ok (.dup, 1) := by decide +kernel
theorem dX7_resolve_17 : decode cX7_resolve 17 = .ok (.ldc 192, 2) := by decide +kernel
theorem dX7_resolve_19 : decode cX7_resolve 19 = .ok (.invokespecial 91, 3) := by decide +kernel
theorem dX7_resolve_22 : decode cX7_resolve 22 = .ok (.athrow, 1) := by decide +kernel
theorem dX7_resolve_23 : decode cX7_resolve 23 = .ok (.aload_n 2, 1) := by decide +kernel
theorem dX7_resolve_24 : decode cX7_resolve 24 = .ok (.iconst 1, 1) := by decide +kernel
theorem dX7_resolve_25 : decode cX7_resolve 25 = .ok (.putfield 188, 3) := by decide +kernel
theorem dX7_resolve_28 : decode cX7_resolve 28 = .ok (.aload_n 0, 1) := by decide +kernel
theorem dX7_resolve_29 : decode cX7_resolve 29 = .ok (.aload_n 2, 1) := by decide +kernel
theorem dX7_resolve_30 : decode cX7_resolve 30 = .ok (.getfield 194, 3) := by decide +kernel
theorem dX7_resolve_33 : decode cX7_resolve 33 = .ok (.invokevirtual 198, 3) := by decide +kernel
theorem dX7_resolve_36 : decode cX7_resolve 36 = .ok (.ireturn, 1) := by decide +kernel
set_option maxRecDepth 20000 in
theorem ggX7_approve_X7_changeOf : GoodIn wsX7_approve wsX7_changeOf := goodIn_ca (goodIn_r _ [7, 8, 9, 10, 125, 126, 127, 128, 129, 130, 131, 132, 133, 134, 135, 136, 137] (by decide +kernel) (by decide +kernel)) (goodIn_sub (fun _ h => List.mem_cons_of_mem _ (List.mem_append_left _ (List.mem_append_right _ h))) (by decide +kernel))
set_option maxRecDepth 20000 in
theorem gX7_approve_X7_changeOf : GoodIn wsX7_approve (wsV RX7 104 RX7 yX7_changeOf wsX7_changeOf) := goodIn_app (goodIn_of _ (by decide +kernel)) ggX7_approve_X7_changeOf
set_option maxRecDepth 20000 in
theorem ggX7_approve_X7_checkUser : GoodIn wsX7_approve wsX7_checkUser := goodIn_ca (goodIn_r _ [13, 8, 9] (by decide +kernel) (by decide +kernel)) (goodIn_sub (fun _ h => List.mem_cons_of_mem _ (List.mem_append_left _ (List.mem_append_right _ h))) (by decide +kernel))
set_option maxRecDepth 20000 in
theorem gX7_approve_X7_checkUser : GoodIn wsX7_approve (va_wsS RX7 69 yX7_checkUser wsX7_checkUser) := goodIn_app (goodIn_of _ (by decide +kernel)) ggX7_approve_X7_checkUser
set_option maxRecDepth 20000 in
theorem ggX7_approve_X7_checkHasRound : GoodIn wsX7_approve wsX7_checkHasRound := goodIn_ca (goodIn_r _ [16, 17, 18, 114, 115, 116, 117, 118, 119, 120, 121, 122, 123, 124] (by decide +kernel) (by decide +kernel)) (goodIn_sub (fun _ h => List.mem_cons_of_mem _ (List.mem_append_right _ h)) (by decide +kernel))
set_option maxRecDepth 20000 in
theorem gX7_approve_X7_checkHasRound : GoodIn wsX7_approve (va_wsS RX7 201 yX7_checkHasRound wsX7_checkHasRound) := goodIn_app (goodIn_of _ (by decide +kernel)) ggX7_approve_X7_checkHasRound
set_option maxRecDepth 20000 in
theorem ggX7_approve_X7_checkNotLanded : GoodIn wsX7_approve wsX7_checkNotLanded := goodIn_ca (goodIn_r _ [21, 1, 2, 114, 115, 116, 117, 118, 119, 120, 121, 122, 123, 124] (by decide +kernel) (by decide +kernel)) (goodIn_sub (fun _ h => List.mem_cons_of_mem _ (List.mem_append_left _ (List.mem_append_left _ (List.mem_append_right _ h)))) (by decide +kernel))
set_option maxRecDepth 20000 in
theorem gX7_approve_X7_checkNotLanded : GoodIn wsX7_approve (va_wsS RX7 108 yX7_checkNotLanded wsX7_checkNotLanded) := goodIn_app (goodIn_of _ (by decide +kernel)) ggX7_approve_X7_checkNotLanded
set_option maxRecDepth 20000 in
theorem ggX7_approve_X7_put : GoodIn wsX7_approve wsX7_put := goodIn_r _ [24] (by decide +kernel) (by decide +kernel)
set_option maxRecDepth 20000 in
theorem gX7_approve_X7_put : GoodIn wsX7_approve (va_wsS RX7 92 yX7_put wsX7_put) := goodIn_app (goodIn_of _ (by decide +kernel)) ggX7_approve_X7_put
set_option maxRecDepth 20000 in
theorem ggX7_approve_X7_freshUsers : GoodIn wsX7_approve wsX7_freshUsers := goodIn_r _ [28, 29, 30, 31, 32, 33, 34, 35, 6, 36, 37, 38, 39, 40, 41, 42, 43, 44, 45, 46, 47, 48, 49, 50, 51, 52, 53, 54, 55, 56, 57, 58, 59, 60, 61, 62, 63, 64, 65, 66, 67, 68, 69, 70, 71, 72, 73, 74, 75, 76, 77, 23, 24, 78, 79, 80, 81, 82, 83, 84, 85, 86, 87, 88, 89, 90, 91, 92, 93, 94, 95, 96, 97, 98, 99, 100, 101, 102, 103, 104, 105, 106, 114, 115, 116, 117, 118, 119, 120, 121, 122, 123, 124, 125, 126, 127, 128, 129, 130, 131, 132, 133, 134, 135, 136, 137, 138, 139, 140, 141, 142, 143] (by decide +kernel) (by decide +kernel)
set_option maxRecDepth 20000 in
theorem gX7_approve_X7_freshUsers : GoodIn wsX7_approve (wsV RX7 212 RX7 yX7_freshUsers wsX7_freshUsers) := goodIn_app (goodIn_of _ (by decide +kernel)) ggX7_approve_X7_freshUsers
set_option maxRecDepth 20000 in
theorem ggX7_approve_J6_bitCount_0f7a4 : GoodIn wsX7_approve wsJ6_bitCount_0f7a4 := goodIn_r _ [110, 111, 112, 113] (by decide +kernel) (by decide +kernel)
set_option maxRecDepth 20000 in
theorem gX7_approve_J6_bitCount_0f7a4 : GoodIn wsX7_approve (va_wsS RX7 152 yJ6_bitCount_0f7a4 wsJ6_bitCount_0f7a4) := goodIn_app (goodIn_of _ (by decide +kernel)) ggX7_approve_J6_bitCount_0f7a4
theorem dX7_approve_0 : decode cX7_approve 0 = .ok (.aload_n 0, 1) := by decide +kernel
theorem dX7_approve_1 : decode cX7_approve 1 = .ok (.iload_n 1, 1) := by decide +kernel
theorem dX7_approve_2 : decode cX7_approve 2 = .ok (.invokevirtual 104, 3) := by decide +kernel
theorem dX7_approve_5 : decode cX7_approve 5 = .ok (.astore_n 3, 1) := by decide +kernel
theorem dX7_approve_6 : decode cX7_approve 6 = .ok (.iload_n 2, 1) := by decide +kernel
theorem dX7_approve_7 : decode cX7_approve 7 = .ok (.invokestatic 69, 3) := by decide +kernel
theorem dX7_approve_10 : decode cX7_approve 10 = .ok (.aload_n 3, 1) := by decide +kernel
theorem dX7_approve_11 : decode cX7_approve 11 = .ok (.invokestatic 201, 3) := by decide +kernel
theorem dX7_approve_14 : decode cX7_approve 14 = .ok (.aload_n 3, 1) := by decide +kernel
theorem dX7_approve_15 : decode cX7_approve 15 = .ok (.invokestatic 108, 3) := by decide +kernel
theorem dX7_approve_18 : decode cX7_approve 18 = .ok (.iload_n 2, 1) := by decide +kernel
theorem dX7_approve_19 : decode cX7_approve 19 = .ok (.aload_n 3, 1) := by decide +kernel
theorem dX7_approve_20 : decode cX7_approve 20 = .ok (.getfield 204, 3) := by decide +kernel
theorem dX7_approve_23 : decode cX7_approve 23 = .ok (.if_icmp .ne 13, 3) := by decide +kernel
theorem dX7_approve_26 : decode cX7_approve 26 = .ok (.new 87, 3) := by decide +kernel
theorem dX7_approve_29 : decode cX7_approve 29 = .ok (.dup, 1) := by decide +kernel
theorem dX7_approve_30 : decode cX7_approve 30 = .ok (.ldc 207, 2) := by decide +kernel
theorem dX7_approve_32 : decode cX7_approve 32 = .ok (.invokespecial 91, 3) := by decide +kernel
theorem dX7_approve_35 : decode cX7_approve 35 = .ok (.athrow, 1) := by decide +kernel
theorem dX7_approve_36 : decode cX7_approve 36 = .ok (.aload_n 3, 1) := by decide +kernel
theorem dX7_approve_37 : decode cX7_approve 37 = .ok (.getfield 209, 3) := by decide +kernel
theorem dX7_approve_40 : decode cX7_approve 40 = .ok (.iload_n 2, 1) := by decide +kernel
theorem dX7_approve_41 : decode cX7_approve 41 = .ok (.aload_n 3, 1) := by decide +kernel
theorem dX7_approve_42 : decode cX7_approve 42 = .ok (.getfield 124, 3) := by decide +kernel
theorem dX7_approve_45 : decode cX7_approve 45 = .ok (.iconst 1, 1) := by decide +kernel
theorem dX7_approve_46 : decode cX7_approve 46 = .ok (.isub, 1) := by decide +kernel
theorem dX7_approve_47 : decode cX7_approve 47 = .ok (.invokestatic 92, 3) := by decide +kernel
theorem dX7_approve_50 : decode cX7_approve 50 = .ok (.aload_n 0, 1) := by decide +kernel
theorem dX7_approve_51 : decode cX7_approve 51 = .ok (.aload_n 3, 1) := by decide +kernel
theorem dX7_approve_52 : decode cX7_approve 52 = .ok (.invokevirtual 212, 3) := by decide +kernel
theorem dX7_approve_55 : decode cX7_approve 55 = .ok (.invokestatic 152, 3) := by decide +kernel
theorem dX7_approve_58 : decode cX7_approve 58 = .ok (.ireturn, 1) := by decide +kernel
set_option maxRecDepth 20000 in
theorem ggX7_withdraw_X7_changeOf : GoodIn wsX7_withdraw wsX7_changeOf := goodIn_ca (goodIn_r _ [5, 6, 7, 8, 129, 130, 131, 132, 133, 134, 135, 136, 137, 138, 139, 140, 141] (by decide +kernel) (by decide +kernel)) (goodIn_sub (fun _ h => List.mem_cons_of_mem _ (List.mem_append_left _ (List.mem_append_left _ (List.mem_append_right _ h)))) (by decide +kernel))
set_option maxRecDepth 20000 in
theorem gX7_withdraw_X7_changeOf : GoodIn wsX7_withdraw (wsV RX7 104 RX7 yX7_changeOf wsX7_changeOf) := goodIn_app (goodIn_of _ (by decide +kernel)) ggX7_withdraw_X7_changeOf
set_option maxRecDepth 20000 in
theorem ggX7_withdraw_X7_checkUser : GoodIn wsX7_withdraw wsX7_checkUser := goodIn_ca (goodIn_r _ [11, 6, 7] (by decide +kernel) (by decide +kernel)) (goodIn_sub (fun _ h => List.mem_cons_of_mem _ (List.mem_append_left _ (List.mem_append_left _ (List.mem_append_right _ h)))) (by decide +kernel))
set_option maxRecDepth 20000 in
theorem gX7_withdraw_X7_checkUser : GoodIn wsX7_withdraw (va_wsS RX7 69 yX7_checkUser wsX7_checkUser) := goodIn_app (goodIn_of _ (by decide +kernel)) ggX7_withdraw_X7_checkUser
set_option maxRecDepth 20000 in
theorem ggX7_withdraw_X7_checkApproved : GoodIn wsX7_withdraw wsX7_checkApproved := goodIn_ca (goodIn_r _ [14, 15, 16, 17, 18, 19, 20, 21, 22, 23, 4, 24, 118, 119, 120, 121, 122, 123, 124, 125, 126, 127, 128] (by decide +kernel) (by decide +kernel)) (goodIn_sub (fun _ h => List.mem_cons_of_mem _ (List.mem_append_left _ (List.mem_append_right _ h))) (by decide +kernel))
set_option maxRecDepth 20000 in
theorem gX7_withdraw_X7_checkApproved : GoodIn wsX7_withdraw (va_wsS RX7 215 yX7_checkApproved wsX7_checkApproved) := goodIn_app (goodIn_of _ (by decide +kernel)) ggX7_withdraw_X7_checkApproved
set_option maxRecDepth 20000 in
theorem ggX7_withdraw_X7_checkNotLanded : GoodIn wsX7_withdraw wsX7_checkNotLanded := goodIn_ca (goodIn_r _ [27, 28, 29, 118, 119, 120, 121, 122, 123, 124, 125, 126, 127, 128] (by decide +kernel) (by decide +kernel)) (goodIn_sub (fun _ h => List.mem_cons_of_mem _ (List.mem_append_right _ h)) (by decide +kernel))
set_option maxRecDepth 20000 in
theorem gX7_withdraw_X7_checkNotLanded : GoodIn wsX7_withdraw (va_wsS RX7 108 yX7_checkNotLanded wsX7_checkNotLanded) := goodIn_app (goodIn_of _ (by decide +kernel)) ggX7_withdraw_X7_checkNotLanded
set_option maxRecDepth 20000 in
theorem ggX7_withdraw_X7_put : GoodIn wsX7_withdraw wsX7_put := goodIn_r _ [32] (by decide +kernel) (by decide +kernel)
set_option maxRecDepth 20000 in
theorem gX7_withdraw_X7_put : GoodIn wsX7_withdraw (va_wsS RX7 92 yX7_put wsX7_put) := goodIn_app (goodIn_of _ (by decide +kernel)) ggX7_withdraw_X7_put
set_option maxRecDepth 20000 in
theorem ggX7_withdraw_X7_freshUsers : GoodIn wsX7_withdraw wsX7_freshUsers := goodIn_r _ [36, 37, 38, 39, 20, 40, 22, 23, 4, 24, 41, 42, 43, 44, 45, 46, 47, 48, 49, 50, 51, 52, 53, 54, 55, 56, 57, 58, 59, 60, 61, 62, 63, 64, 65, 66, 67, 68, 69, 70, 71, 72, 73, 74, 75, 76, 77, 78, 79, 80, 81, 31, 32, 82, 83, 84, 85, 86, 87, 88, 89, 90, 91, 92, 93, 94, 95, 96, 97, 98, 99, 100, 101, 102, 103, 104, 105, 106, 107, 108, 109, 110, 118, 119, 120, 121, 122, 123, 124, 125, 126, 127, 128, 129, 130, 131, 132, 133, 134, 135, 136, 137, 138, 139, 140, 141, 142, 143, 144, 145, 146, 147] (by decide +kernel) (by decide +kernel)
set_option maxRecDepth 20000 in
theorem gX7_withdraw_X7_freshUsers : GoodIn wsX7_withdraw (wsV RX7 212 RX7 yX7_freshUsers wsX7_freshUsers) := goodIn_app (goodIn_of _ (by decide +kernel)) ggX7_withdraw_X7_freshUsers
set_option maxRecDepth 20000 in
theorem ggX7_withdraw_J6_bitCount_0f7a4 : GoodIn wsX7_withdraw wsJ6_bitCount_0f7a4 := goodIn_r _ [114, 115, 116, 117] (by decide +kernel) (by decide +kernel)
set_option maxRecDepth 20000 in
theorem gX7_withdraw_J6_bitCount_0f7a4 : GoodIn wsX7_withdraw (va_wsS RX7 152 yJ6_bitCount_0f7a4 wsJ6_bitCount_0f7a4) := goodIn_app (goodIn_of _ (by decide +kernel)) ggX7_withdraw_J6_bitCount_0f7a4
theorem dX7_withdraw_0 : decode cX7_withdraw 0 = .ok (.aload_n 0, 1) := by decide +kernel
theorem dX7_withdraw_1 : decode cX7_withdraw 1 = .ok (.iload_n 1, 1) := by decide +kernel
theorem dX7_withdraw_2 : decode cX7_withdraw 2 = .ok (.invokevirtual 104, 3) := by decide +kernel
theorem dX7_withdraw_5 : decode cX7_withdraw 5 = .ok (.astore_n 3, 1) := by decide +kernel
theorem dX7_withdraw_6 : decode cX7_withdraw 6 = .ok (.iload_n 2, 1) := by decide +kernel
theorem dX7_withdraw_7 : decode cX7_withdraw 7 = .ok (.invokestatic 69, 3) := by decide +kernel
theorem dX7_withdraw_10 : decode cX7_withdraw 10 = .ok (.aload_n 3, 1) := by decide +kernel
theorem dX7_withdraw_11 : decode cX7_withdraw 11 = .ok (.iload_n 2, 1) := by decide +kernel
theorem dX7_withdraw_12 : decode cX7_withdraw 12 = .ok (.invokestatic 215, 3) := by decide +kernel
theorem dX7_withdraw_15 : decode cX7_withdraw 15 = .ok (.aload_n 3, 1) := by decide +kernel
theorem dX7_withdraw_16 : decode cX7_withdraw 16 = .ok (.invokestatic 108, 3) := by decide +kernel
theorem dX7_withdraw_19 : decode cX7_withdraw 19 = .ok (.aload_n 3, 1) := by decide +kernel
theorem dX7_withdraw_20 : decode cX7_withdraw 20 = .ok (.getfield 209, 3) := by decide +kernel
theorem dX7_withdraw_23 : decode cX7_withdraw 23 = .ok (.iload_n 2, 1) := by decide +kernel
theorem dX7_withdraw_24 : decode cX7_withdraw 24 = .ok (.iconst (-1), 1) := by decide +kernel
theorem dX7_withdraw_25 : decode cX7_withdraw 25 = .ok (.invokestatic 92, 3) := by decide +kernel
theorem dX7_withdraw_28 : decode cX7_withdraw 28 = .ok (.aload_n 0, 1) := by decide +kernel
theorem dX7_withdraw_29 : decode cX7_withdraw 29 = .ok (.aload_n 3, 1) := by decide +kernel
theorem dX7_withdraw_30 : decode cX7_withdraw 30 = .ok (.invokevirtual 212, 3) := by decide +kernel
theorem dX7_withdraw_33 : decode cX7_withdraw 33 = .ok (.invokestatic 152, 3) := by decide +kernel
theorem dX7_withdraw_36 : decode cX7_withdraw 36 = .ok (.ireturn, 1) := by decide +kernel
set_option maxRecDepth 20000 in
theorem ggX7_land_X7_changeOf : GoodIn wsX7_land wsX7_changeOf := goodIn_ca (goodIn_r _ [8, 9, 10, 11, 186, 187, 188, 189, 190, 191, 192, 193, 194, 195, 196, 197, 198] (by decide +kernel) (by decide +kernel)) (goodIn_sub (fun _ h => List.mem_cons_of_mem _ (List.mem_append_right _ h)) (by decide +kernel))
set_option maxRecDepth 20000 in
theorem gX7_land_X7_changeOf : GoodIn wsX7_land (wsV RX7 104 RX7 yX7_changeOf wsX7_changeOf) := goodIn_app (goodIn_of _ (by decide +kernel)) ggX7_land_X7_changeOf
set_option maxRecDepth 20000 in
theorem ggX7_land_X7_reasonFor : GoodIn wsX7_land wsX7_reasonFor := goodIn_r _ [15, 16, 3, 17, 18, 19, 7, 20, 11, 21, 22, 23, 24, 25, 26, 27, 28, 29, 30, 31, 32, 33, 34, 35, 36, 37, 38, 39, 40, 41, 42, 43, 44, 45, 46, 47, 48, 49, 50, 51, 52, 53, 54, 55, 56, 57, 58, 59, 60, 61, 62, 63, 64, 65, 66, 67, 68, 69, 70, 71, 72, 73, 74, 75, 76, 77, 78, 79, 80, 81, 82, 83, 84, 85, 86, 87, 88, 89, 90, 91, 92, 93, 94, 95, 96, 97, 98, 99, 100, 101, 102, 103, 104, 105, 106, 107, 108, 109, 110, 111, 112, 113, 114, 115, 116, 117, 118, 119, 120, 121, 122, 123, 124, 125, 126, 127, 128, 129, 130, 131, 132, 133, 134, 135, 136, 137, 138, 139, 140, 141, 142, 143, 144, 145, 146, 147, 148, 149, 150, 151, 152, 153, 154, 155, 156, 157, 158, 159, 160, 161, 162, 163, 164, 165, 166, 167, 168, 169, 170, 171, 172, 173, 199, 200, 201, 202, 203, 204, 205, 206, 207, 208, 209, 186, 187, 188, 189, 190, 191, 192, 193, 194, 195, 196, 197, 198, 210, 211, 212, 213, 214, 215, 216, 217, 218, 219, 220, 221, 222, 223, 224, 225, 226] (by decide +kernel) (by decide +kernel)
set_option maxRecDepth 20000 in
theorem gX7_land_X7_reasonFor : GoodIn wsX7_land (wsV RX7 219 RX7 yX7_reasonFor wsX7_reasonFor) := goodIn_app (goodIn_of _ (by decide +kernel)) ggX7_land_X7_reasonFor
set_option maxRecDepth 20000 in
theorem ggX7_land_X7_bringIn : GoodIn wsX7_land wsX7_bringIn := goodIn_r _ [177, 16, 3, 178, 179, 33, 34, 35, 36, 37, 38, 39, 40, 41, 42, 43, 44, 126, 127, 128, 129, 130, 131, 132, 133, 134, 135, 136, 137, 138, 52, 53, 54, 55, 56, 57, 58, 59, 60, 61, 62, 63, 64, 65, 66, 67, 68, 69, 70, 71, 72, 73, 74, 75, 76, 7, 77, 78, 79, 80, 81, 82, 83, 84, 85, 86, 87, 88, 89, 90, 91, 92, 93, 94, 95, 96, 97, 98, 99, 100, 139, 140, 141, 142, 143, 144, 145, 146, 147, 148, 149, 150, 151, 152, 153, 154, 155, 156, 157, 158, 159, 160, 161, 162, 163, 164, 165, 166, 167, 168, 169, 170, 171, 172, 180, 181, 182, 183, 184, 185, 186, 187, 188, 189, 190, 191, 192, 193, 194, 195, 196, 197, 198, 199, 200, 201, 202, 203, 204, 205, 206, 207, 208, 209, 210, 211, 212, 213, 214, 215, 216, 221, 222, 223, 224, 225, 226] (by decide +kernel) (by decide +kernel)
set_option maxRecDepth 20000 in
theorem gX7_land_X7_bringIn : GoodIn wsX7_land (wsV RX7 225 RX7 yX7_bringIn wsX7_bringIn) := goodIn_app (goodIn_of _ (by decide +kernel)) ggX7_land_X7_bringIn
set_option maxRecDepth 20000 in
theorem ggX7_land_X5_size : GoodIn wsX7_land wsX5_size := goodIn_r _ [69, 70, 225, 226] (by decide +kernel) (by decide +kernel)
set_option maxRecDepth 20000 in
theorem gX7_land_X5_size : GoodIn wsX7_land (wsV RX7 115 RX5 yX5_size wsX5_size) := goodIn_app (goodIn_of _ (by decide +kernel)) ggX7_land_X5_size
theorem dX7_land_0 : decode cX7_land 0 = .ok (.aload_n 0, 1) := by decide +kernel
theorem dX7_land_1 : decode cX7_land 1 = .ok (.iload_n 1, 1) := by decide +kernel
theorem dX7_land_2 : decode cX7_land 2 = .ok (.invokevirtual 104, 3) := by decide +kernel
theorem dX7_land_5 : decode cX7_land 5 = .ok (.astore_n 2, 1) := by decide +kernel
theorem dX7_land_6 : decode cX7_land 6 = .ok (.aload_n 0, 1) := by decide +kernel
theorem dX7_land_7 : decode cX7_land 7 = .ok (.aload_n 2, 1) := by decide +kernel
theorem dX7_land_8 : decode cX7_land 8 = .ok (.invokevirtual 219, 3) := by decide +kernel
theorem dX7_land_11 : decode cX7_land 11 = .ok (.bipush 32, 2) := by decide +kernel
theorem dX7_land_13 : decode cX7_land 13 = .ok (.if_icmp .eq 13, 3) := by decide +kernel
theorem dX7_land_16 : decode cX7_land 16 = .ok (.new 140, 3) := by decide +kernel
theorem dX7_land_19 : decode cX7_land 19 = .ok (.dup, 1) := by decide +kernel
theorem dX7_land_20 : decode cX7_land 20 = .ok (.ldc 223, 2) := by decide +kernel
theorem dX7_land_22 : decode cX7_land 22 = .ok (.invokespecial 144, 3) := by decide +kernel
theorem dX7_land_25 : decode cX7_land 25 = .ok (.athrow, 1) := by decide +kernel
theorem dX7_land_26 : decode cX7_land 26 = .ok (.aload_n 0, 1) := by decide +kernel
theorem dX7_land_27 : decode cX7_land 27 = .ok (.aload_n 2, 1) := by decide +kernel
theorem dX7_land_28 : decode cX7_land 28 = .ok (.invokevirtual 225, 3) := by decide +kernel
theorem dX7_land_31 : decode cX7_land 31 = .ok (.aload_n 0, 1) := by decide +kernel
theorem dX7_land_32 : decode cX7_land 32 = .ok (.getfield 12, 3) := by decide +kernel
theorem dX7_land_35 : decode cX7_land 35 = .ok (.invokevirtual 115, 3) := by decide +kernel
theorem dX7_land_38 : decode cX7_land 38 = .ok (.ireturn, 1) := by decide +kernel
set_option maxRecDepth 20000 in
theorem ggX7_landAll_X7_reasonFor : GoodIn wsX7_landAll wsX7_reasonFor := goodIn_r _ [7, 8, 9, 10, 11, 12, 6, 13, 2, 14, 15, 16, 17, 18, 19, 20, 21, 22, 23, 24, 25, 26, 27, 28, 29, 30, 31, 32, 33, 34, 35, 36, 37, 38, 39, 40, 41, 42, 43, 44, 45, 46, 47, 48, 49, 50, 51, 52, 53, 54, 55, 56, 57, 58, 59, 60, 61, 62, 63, 64, 65, 66, 67, 68, 69, 70, 71, 72, 73, 74, 75, 76, 77, 78, 79, 80, 81, 82, 83, 84, 85, 86, 87, 88, 89, 90, 91, 92, 93, 94, 95, 96, 97, 98, 99, 100, 101, 102, 103, 104, 105, 106, 107, 108, 109, 110, 111, 112, 113, 114, 115, 116, 117, 118, 119, 120, 121, 122, 123, 124, 125, 126, 127, 128, 129, 130, 131, 132, 133, 134, 135, 136, 137, 138, 139, 140, 141, 142, 143, 144, 145, 146, 147, 148, 149, 150, 151, 152, 153, 154, 155, 156, 157, 158, 159, 160, 161, 162, 163, 164, 165, 166, 191, 192, 193, 194, 195, 196, 197, 198, 199, 200, 201, 178, 179, 180, 181, 182, 183, 184, 185, 186, 187, 188, 189, 190, 202, 203, 204, 205, 206, 207, 208, 209, 210, 211, 212, 213, 214, 215, 216, 217, 218] (by decide +kernel) (by decide +kernel)
set_option maxRecDepth 20000 in
theorem gX7_landAll_X7_reasonFor : GoodIn wsX7_landAll (wsV RX7 219 RX7 yX7_reasonFor wsX7_reasonFor) := goodIn_app (goodIn_of _ (by decide +kernel)) ggX7_landAll_X7_reasonFor
set_option maxRecDepth 20000 in
theorem ggX7_landAll_X7_bringIn : GoodIn wsX7_landAll wsX7_bringIn := goodIn_r _ [170, 8, 9, 171, 1, 26, 27, 28, 29, 30, 31, 32, 33, 34, 35, 36, 37, 119, 120, 121, 122, 123, 124, 125, 126, 127, 128, 129, 130, 131, 45, 46, 47, 48, 49, 50, 51, 52, 53, 54, 55, 56, 57, 58, 59, 60, 61, 62, 63, 64, 65, 66, 67, 68, 69, 6, 70, 71, 72, 73, 74, 75, 76, 77, 78, 79, 80, 81, 82, 83, 84, 85, 86, 87, 88, 89, 90, 91, 92, 93, 132, 133, 134, 135, 136, 137, 138, 139, 140, 141, 142, 143, 144, 145, 146, 147, 148, 149, 150, 151, 152, 153, 154, 155, 156, 157, 158, 159, 160, 161, 162, 163, 164, 165, 172, 173, 174, 175, 176, 177, 178, 179, 180, 181, 182, 183, 184, 185, 186, 187, 188, 189, 190, 191, 192, 193, 194, 195, 196, 197, 198, 199, 200, 201, 202, 203, 204, 205, 206, 207, 208, 213, 214, 215, 216, 217, 218] (by decide +kernel) (by decide +kernel)
set_option maxRecDepth 20000 in
theorem gX7_landAll_X7_bringIn : GoodIn wsX7_landAll (wsV RX7 225 RX7 yX7_bringIn wsX7_bringIn) := goodIn_app (goodIn_of _ (by decide +kernel)) ggX7_landAll_X7_bringIn
theorem dX7_landAll_0 : decode cX7_landAll 0 = .ok (.aload_n 0, 1) := by decide +kernel
theorem dX7_landAll_1 : decode cX7_landAll 1 = .ok (.getfield 228, 3) := by decide +kernel
theorem dX7_landAll_4 : decode cX7_landAll 4 = .ok (.istore_n 1, 1) := by decide +kernel
theorem dX7_landAll_5 : decode cX7_landAll 5 = .ok (.iconst 0, 1) := by decide +kernel
theorem dX7_landAll_6 : decode cX7_landAll 6 = .ok (.istore_n 2, 1) := by decide +kernel
theorem dX7_landAll_7 : decode cX7_landAll 7 = .ok (.iload_n 2, 1) := by decide +kernel
theorem dX7_landAll_8 : decode cX7_landAll 8 = .ok (.iconst 4, 1) := by decide +kernel
theorem dX7_landAll_9 : decode cX7_landAll 9 = .ok (.if_icmp .ge 86, 3) := by decide +kernel
theorem dX7_landAll_12 : decode cX7_landAll 12 = .ok (.aconst_null, 1) := by decide +kernel
theorem dX7_landAll_13 : decode cX7_landAll 13 = .ok (.astore_n 3, 1) := by decide +kernel
theorem dX7_landAll_14 : decode cX7_landAll 14 = .ok (.iconst 0, 1) := by decide +kernel
theorem dX7_landAll_15 : decode cX7_landAll 15 = .ok (.istore 4, 2) := by decide +kernel
theorem dX7_landAll_17 : decode cX7_landAll 17 = .ok (.iload 4, 2) := by decide +kernel
theorem dX7_landAll_19 : decode cX7_landAll 19 = .ok (.aload_n 0, 1) := by decide +kernel
theorem dX7_landAll_20 : decode cX7_landAll 20 = .ok (.getfield 22, 3) := by decide +kernel
theorem dX7_landAll_23 : decode cX7_landAll 23 = .ok (.arraylength, 1) := by decide +kernel
theorem dX7_landAll_24 : decode cX7_landAll 24 = .ok (.if_icmp .ge 53, 3) := by decide +kernel
theorem dX7_landAll_27 : decode cX7_landAll 27 = .ok (.aload_n 0, 1) := by decide +kernel
theorem dX7_landAll_28 : decode cX7_landAll 28 = .ok (.getfield 22, 3) := by decide +kernel
theorem dX7_landAll_31 : decode cX7_landAll 31 = .ok (.iload 4, 2) := by decide +kernel
theorem dX7_landAll_33 : decode cX7_landAll 33 = .ok (.aaload, 1) := by decide +kernel
theorem dX7_landAll_34 : decode cX7_landAll 34 = .ok (.astore 5, 2) := by decide +kernel
theorem dX7_landAll_36 : decode cX7_landAll 36 = .ok (.aload 5, 2) := by decide +kernel
theorem dX7_landAll_38 : decode cX7_landAll 38 = .ok (.ifnull 33, 3) := by decide +kernel
theorem dX7_landAll_41 : decode cX7_landAll 41 = .ok (.aload_n 3, 1) := by decide +kernel
theorem dX7_landAll_42 : decode cX7_landAll 42 = .ok (.ifnull 15, 3) := by decide +kernel
theorem dX7_landAll_45 : decode cX7_landAll 45 = .ok (.aload 5, 2) := by decide +kernel
theorem dX7_landAll_47 : decode cX7_landAll 47 = .ok (.getfield 160, 3) := by decide +kernel
theorem dX7_landAll_50 : decode cX7_landAll 50 = .ok (.aload_n 3, 1) := by decide +kernel
theorem dX7_landAll_51 : decode cX7_landAll 51 = .ok (.getfield 160, 3) := by decide +kernel
theorem dX7_landAll_54 : decode cX7_landAll 54 = .ok (.if_icmp .le 17, 3) := by decide +kernel
theorem dX7_landAll_57 : decode cX7_landAll 57 = .ok (.aload_n 0, 1) := by decide +kernel
theorem dX7_landAll_58 : decode cX7_landAll 58 = .ok (.aload 5, 2) := by decide +kernel
theorem dX7_landAll_60 : decode cX7_landAll 60 = .ok (.invokevirtual 219, 3) := by decide +kernel
theorem dX7_landAll_63 : decode cX7_landAll 63 = .ok (.bipush 32, 2) := by decide +kernel
theorem dX7_landAll_65 : decode cX7_landAll 65 = .ok (.if_icmp .ne 6, 3) := by decide +kernel
theorem dX7_landAll_68 : decode cX7_landAll 68 = .ok (.aload 5, 2) := by decide +kernel
theorem dX7_landAll_70 : decode cX7_landAll 70 = .ok (.astore_n 3, 1) := by decide +kernel
theorem dX7_landAll_71 : decode cX7_landAll 71 = .ok (.iinc 4 1, 3) := by decide +kernel
theorem dX7_landAll_74 : decode cX7_landAll 74 = .ok (.goto (-57), 3) := by decide +kernel
theorem dX7_landAll_77 : decode cX7_landAll 77 = .ok (.aload_n 3, 1) := by decide +kernel
theorem dX7_landAll_78 : decode cX7_landAll 78 = .ok (.ifnonnull 6, 3) := by decide +kernel
theorem dX7_landAll_81 : decode cX7_landAll 81 = .ok (.goto 14, 3) := by decide +kernel
theorem dX7_landAll_84 : decode cX7_landAll 84 = .ok (.aload_n 0, 1) := by decide +kernel
theorem dX7_landAll_85 : decode cX7_landAll 85 = .ok (.aload_n 3, 1) := by decide +kernel
theorem dX7_landAll_86 : decode cX7_landAll 86 = .ok (.invokevirtual 225, 3) := by decide +kernel
theorem dX7_landAll_89 : decode cX7_landAll 89 = .ok (.iinc 2 1, 3) := by decide +kernel
theorem dX7_landAll_92 : decode cX7_landAll 92 = .ok (.goto (-85), 3) := by decide +kernel
theorem dX7_landAll_95 : decode cX7_landAll 95 = .ok (.aload_n 0, 1) := by decide +kernel
theorem dX7_landAll_96 : decode cX7_landAll 96 = .ok (.getfield 228, 3) := by decide +kernel
theorem dX7_landAll_99 : decode cX7_landAll 99 = .ok (.iload_n 1, 1) := by decide +kernel
theorem dX7_landAll_100 : decode cX7_landAll 100 = .ok (.isub, 1) := by decide +kernel
theorem dX7_landAll_101 : decode cX7_landAll 101 = .ok (.ireturn, 1) := by decide +kernel
set_option maxRecDepth 20000 in
theorem ggX7_reasonAgainst_X7_changeOf : GoodIn wsX7_reasonAgainst wsX7_changeOf := goodIn_ca (goodIn_r _ [7, 8, 9, 10, 174, 175, 176, 177, 178, 179, 180, 181, 182, 183, 184, 185, 186] (by decide +kernel) (by decide +kernel)) (goodIn_sub (fun _ h => List.mem_cons_of_mem _ (List.mem_append_right _ h)) (by decide +kernel))
set_option maxRecDepth 20000 in
theorem gX7_reasonAgainst_X7_changeOf : GoodIn wsX7_reasonAgainst (wsV RX7 104 RX7 yX7_changeOf wsX7_changeOf) := goodIn_app (goodIn_of _ (by decide +kernel)) ggX7_reasonAgainst_X7_changeOf
set_option maxRecDepth 20000 in
theorem ggX7_reasonAgainst_X7_reasonFor : GoodIn wsX7_reasonAgainst wsX7_reasonFor := goodIn_r _ [14, 15, 16, 17, 18, 19, 6, 20, 10, 21, 22, 23, 24, 25, 26, 27, 28, 29, 30, 31, 32, 33, 34, 35, 36, 37, 38, 39, 40, 41, 42, 43, 44, 45, 46, 47, 48, 49, 50, 51, 52, 53, 54, 55, 56, 57, 58, 59, 60, 61, 62, 63, 64, 65, 66, 67, 68, 69, 70, 71, 72, 73, 74, 75, 76, 77, 78, 79, 80, 81, 82, 83, 84, 85, 86, 87, 88, 89, 90, 91, 92, 93, 94, 95, 96, 97, 98, 99, 100, 101, 102, 103, 104, 105, 106, 107, 108, 109, 110, 111, 112, 113, 114, 115, 116, 117, 118, 119, 120, 121, 122, 123, 124, 125, 126, 127, 128, 129, 130, 131, 132, 133, 134, 135, 136, 137, 138, 139, 140, 141, 142, 143, 144, 145, 146, 147, 148, 149, 150, 151, 152, 153, 154, 155, 156, 157, 158, 159, 160, 161, 162, 163, 164, 165, 166, 167, 168, 169, 170, 171, 172, 173, 187, 188, 189, 190, 191, 192, 193, 194, 195, 196, 197, 174, 175, 176, 177, 178, 179, 180, 181, 182, 183, 184, 185, 186, 198, 199, 200, 201, 202, 203, 204, 205, 206, 207, 208, 209, 210, 211, 212, 213, 214] (by decide +kernel) (by decide +kernel)
set_option maxRecDepth 20000 in
theorem gX7_reasonAgainst_X7_reasonFor : GoodIn wsX7_reasonAgainst (wsV RX7 219 RX7 yX7_reasonFor wsX7_reasonFor) := goodIn_app (goodIn_of _ (by decide +kernel)) ggX7_reasonAgainst_X7_reasonFor
theorem dX7_reasonAgainst_0 : decode cX7_reasonAgainst 0 = .ok (.aload_n 0, 1) := by decide +kernel
theorem dX7_reasonAgainst_1 : decode cX7_reasonAgainst 1 = .ok (.aload_n 0, 1) := by decide +kernel
theorem dX7_reasonAgainst_2 : decode cX7_reasonAgainst 2 = .ok (.iload_n 1, 1) := by decide +kernel
theorem dX7_reasonAgainst_3 : decode cX7_reasonAgainst 3 = .ok (.invokevirtual 104, 3) := by decide +kernel
theorem dX7_reasonAgainst_6 : decode cX7_reasonAgainst 6 = .ok (.invokevirtual 219, 3) := by decide +kernel
theorem dX7_reasonAgainst_9 : decode cX7_reasonAgainst 9 = .ok (.istore_n 2, 1) := by decide +kernel
theorem dX7_reasonAgainst_10 : decode cX7_reasonAgainst 10 = .ok (.iload_n 2, 1) := by decide +kernel
theorem dX7_reasonAgainst_11 : decode cX7_reasonAgainst 11 = .ok (.bipush 32, 2) := by decide +kernel
theorem dX7_reasonAgainst_13 : decode cX7_reasonAgainst 13 = .ok (.if_icmp .ne 13, 3) := by decide +kernel
theorem dX7_reasonAgainst_16 : decode cX7_reasonAgainst 16 = .ok (.new 171, 3) := by decide +kernel
theorem dX7_reasonAgainst_19 : decode cX7_reasonAgainst 19 = .ok (.dup, 1) := by decide +kernel
theorem dX7_reasonAgainst_20 : decode cX7_reasonAgainst 20 = .ok (.ldc 231, 2) := by decide +kernel
theorem dX7_reasonAgainst_22 : decode cX7_reasonAgainst 22 = .ok (.invokespecial 175, 3) := by decide +kernel
theorem dX7_reasonAgainst_25 : decode cX7_reasonAgainst 25 = .ok (.athrow, 1) := by decide +kernel
theorem dX7_reasonAgainst_26 : decode cX7_reasonAgainst 26 = .ok (.iload_n 2, 1) := by decide +kernel
theorem dX7_reasonAgainst_27 : decode cX7_reasonAgainst 27 = .ok (.ireturn, 1) := by decide +kernel
set_option maxRecDepth 20000 in
theorem ggX7_missingUser_X7_changeOf : GoodIn wsX7_missingUser wsX7_changeOf := goodIn_ca (goodIn_r _ [7, 8, 9, 10, 114, 115, 116, 117, 118, 119, 120, 121, 122, 123, 124, 125, 126] (by decide +kernel) (by decide +kernel)) (goodIn_sub (fun _ h => List.mem_cons_of_mem _ (List.mem_append_right _ h)) (by decide +kernel))
set_option maxRecDepth 20000 in
theorem gX7_missingUser_X7_changeOf : GoodIn wsX7_missingUser (wsV RX7 104 RX7 yX7_changeOf wsX7_changeOf) := goodIn_app (goodIn_of _ (by decide +kernel)) ggX7_missingUser_X7_changeOf
set_option maxRecDepth 20000 in
theorem ggX7_missingUser_X7_checkHasRound : GoodIn wsX7_missingUser wsX7_checkHasRound := goodIn_ca (goodIn_r _ [13, 1, 2, 127, 128, 129, 130, 131, 132, 133, 134, 135, 136, 137] (by decide +kernel) (by decide +kernel)) (goodIn_sub (fun _ h => List.mem_cons_of_mem _ (List.mem_append_left _ (List.mem_append_right _ h))) (by decide +kernel))
set_option maxRecDepth 20000 in
theorem gX7_missingUser_X7_checkHasRound : GoodIn wsX7_missingUser (va_wsS RX7 201 yX7_checkHasRound wsX7_checkHasRound) := goodIn_app (goodIn_of _ (by decide +kernel)) ggX7_missingUser_X7_checkHasRound
set_option maxRecDepth 20000 in
theorem ggX7_missingUser_X7_neededUsers : GoodIn wsX7_missingUser wsX7_neededUsers := goodIn_r _ [17, 18, 19, 20, 21, 22, 23, 24, 25, 26, 27, 28, 29, 30, 31, 32, 6, 33, 34, 35, 36, 37, 38, 39, 40, 41, 42, 43, 44, 45, 46, 47, 48, 49, 50, 51, 52, 53, 54, 55, 56, 57, 58, 59, 60, 61, 62, 63, 64, 65, 66, 67, 68, 69, 70, 71, 72, 73, 74, 75, 76, 77, 78, 79, 80, 81, 82, 83, 84, 85, 86, 87, 88, 89, 90, 91, 92, 93, 94, 95, 96, 97, 98, 99, 100, 127, 128, 129, 130, 131, 132, 133, 134, 135, 136, 137, 114, 115, 116, 117, 118, 119, 120, 121, 122, 123, 124, 125, 126, 138, 139, 140, 141, 142, 143] (by decide +kernel) (by decide +kernel)
set_option maxRecDepth 20000 in
theorem gX7_missingUser_X7_neededUsers : GoodIn wsX7_missingUser (wsV RX7 233 RX7 yX7_neededUsers wsX7_neededUsers) := goodIn_app (goodIn_of _ (by decide +kernel)) ggX7_missingUser_X7_neededUsers
set_option maxRecDepth 20000 in
theorem ggX7_missingUser_X7_freshUsers : GoodIn wsX7_missingUser wsX7_freshUsers := goodIn_r _ [104, 105, 106, 107, 21, 108, 109, 63, 6, 64, 96, 97, 110, 25, 26, 27, 28, 29, 30, 31, 32, 33, 34, 35, 36, 37, 38, 39, 40, 41, 42, 43, 44, 45, 46, 47, 48, 49, 50, 51, 52, 53, 54, 55, 56, 57, 58, 59, 60, 61, 62, 65, 66, 67, 68, 69, 70, 71, 72, 73, 74, 75, 76, 77, 78, 79, 80, 81, 82, 83, 84, 85, 86, 87, 88, 89, 90, 91, 92, 93, 94, 95, 127, 128, 129, 130, 131, 132, 133, 134, 135, 136, 137, 114, 115, 116, 117, 118, 119, 120, 121, 122, 123, 124, 125, 126, 138, 139, 140, 141, 142, 143] (by decide +kernel) (by decide +kernel)
set_option maxRecDepth 20000 in
theorem gX7_missingUser_X7_freshUsers : GoodIn wsX7_missingUser (wsV RX7 212 RX7 yX7_freshUsers wsX7_freshUsers) := goodIn_app (goodIn_of _ (by decide +kernel)) ggX7_missingUser_X7_freshUsers
set_option maxRecDepth 20000 in
theorem ggX7_missingUser_X7_hasBit : GoodIn wsX7_missingUser wsX7_hasBit := goodIn_r _ [113] (by decide +kernel) (by decide +kernel)
set_option maxRecDepth 20000 in
theorem gX7_missingUser_X7_hasBit : GoodIn wsX7_missingUser (va_wsS RX7 136 yX7_hasBit wsX7_hasBit) := goodIn_app (goodIn_of _ (by decide +kernel)) ggX7_missingUser_X7_hasBit
theorem dX7_missingUser_0 : decode cX7_missingUser 0 = .ok (.aload_n 0, 1) := by decide +kernel
theorem dX7_missingUser_1 : decode cX7_missingUser 1 = .ok (.iload_n 1, 1) := by decide +kernel
theorem dX7_missingUser_2 : decode cX7_missingUser 2 = .ok (.invokevirtual 104, 3) := by decide +kernel
theorem dX7_missingUser_5 : decode cX7_missingUser 5 = .ok (.astore_n 2, 1) := by decide +kernel
theorem dX7_missingUser_6 : decode cX7_missingUser 6 = .ok (.aload_n 2, 1) := by decide +kernel
theorem dX7_missingUser_7 : decode cX7_missingUser 7 = .ok (.invokestatic 201, 3) := by decide +kernel
theorem dX7_missingUser_10 : decode cX7_missingUser 10 = .ok (.aload_n 0, 1) := by decide +kernel
theorem dX7_missingUser_11 : decode cX7_missingUser 11 = .ok (.aload_n 2, 1) := by decide +kernel
theorem dX7_missingUser_12 : decode cX7_missingUser 12 = .ok (.invokevirtual 233, 3) := by decide +kernel
theorem dX7_missingUser_15 : decode cX7_missingUser 15 = .ok (.aload_n 0, 1) := by decide +kernel
theorem dX7_missingUser_16 : decode cX7_missingUser 16 = .ok (.aload_n 2, 1) := by decide +kernel
theorem dX7_missingUser_17 : decode cX7_missingUser 17 = .ok (.invokevirtual 212, 3) := by decide +kernel
theorem dX7_missingUser_20 : decode cX7_missingUser 20 = .ok (.iconst (-1), 1) := by decide +kernel
theorem dX7_missingUser_21 : decode cX7_missingUser 21 = .ok (.ixor, 1) := by decide +kernel
theorem dX7_missingUser_22 : decode cX7_missingUser 22 = .ok (.iand, 1) := by decide +kernel
theorem dX7_missingUser_23 : decode cX7_missingUser 23 = .ok (.istore_n 3, 1) := by decide +kernel
theorem dX7_missingUser_24 : decode cX7_missingUser 24 = .ok (.iconst 0, 1) := by decide +kernel
theorem dX7_missingUser_25 : decode cX7_missingUser 25 = .ok (.istore 4, 2) := by decide +kernel
theorem dX7_missingUser_27 : decode cX7_missingUser 27 = .ok (.iload 4, 2) := by decide +kernel
theorem dX7_missingUser_29 : decode cX7_missingUser 29 = .ok (.iconst 5, 1) := by decide +kernel
theorem dX7_missingUser_30 : decode cX7_missingUser 30 = .ok (.if_icmp .ge 21, 3) := by decide +kernel
theorem dX7_missingUser_33 : decode cX7_missingUser 33 = .ok (.iload_n 3, 1) := by decide +kernel
theorem dX7_missingUser_34 : decode cX7_missingUser 34 = .ok (.iload 4, 2) := by decide +kernel
theorem dX7_missingUser_36 : decode cX7_missingUser 36 = .ok (.invokestatic 136, 3) := by decide +kernel
theorem dX7_missingUser_39 : decode cX7_missingUser 39 = .ok (.ifCond .eq 6, 3) := by decide +kernel
theorem dX7_missingUser_42 : decode cX7_missingUser 42 = .ok (.iload 4, 2) := by decide +kernel
theorem dX7_missingUser_44 : decode cX7_missingUser 44 = .ok (.ireturn, 1) := by decide +kernel
theorem dX7_missingUser_45 : decode cX7_missingUser 45 = .ok (.iinc 4 1, 3) := by decide +kernel
theorem dX7_missingUser_48 : decode cX7_missingUser 48 = .ok (.goto (-21), 3) := by decide +kernel
theorem dX7_missingUser_51 : decode cX7_missingUser 51 = .ok (.new 171, 3) := by decide +kernel
theorem dX7_missingUser_54 : decode cX7_missingUser 54 = .ok (.dup, 1) := by decide +kernel
theorem dX7_missingUser_55 : decode cX7_missingUser 55 = .ok (.ldc 236, 2) := by decide +kernel
theorem dX7_missingUser_57 : decode cX7_missingUser 57 = .ok (.invokespecial 175, 3) := by decide +kernel
theorem dX7_missingUser_60 : decode cX7_missingUser 60 = .ok (.athrow, 1) := by decide +kernel
set_option maxRecDepth 20000 in
theorem ggX7_landedAt_X7_cell : GoodIn wsX7_landedAt wsX7_cell := goodIn_r _ [8] (by decide +kernel) (by decide +kernel)
set_option maxRecDepth 20000 in
theorem gX7_landedAt_X7_cell : GoodIn wsX7_landedAt (va_wsS RX7 240 yX7_cell wsX7_cell) := goodIn_app (goodIn_of _ (by decide +kernel)) ggX7_landedAt_X7_cell
theorem dX7_landedAt_0 : decode cX7_landedAt 0 = .ok (.iload_n 1, 1) := by decide +kernel
theorem dX7_landedAt_1 : decode cX7_landedAt 1 = .ok (.ifCond .lt 11, 3) := by decide +kernel
theorem dX7_landedAt_4 : decode cX7_landedAt 4 = .ok (.iload_n 1, 1) := by decide +kernel
theorem dX7_landedAt_5 : decode cX7_landedAt 5 = .ok (.aload_n 0, 1) := by decide +kernel
theorem dX7_landedAt_6 : decode cX7_landedAt 6 = .ok (.getfield 228, 3) := by decide +kernel
theorem dX7_landedAt_9 : decode cX7_landedAt 9 = .ok (.if_icmp .lt 13, 3) := by decide +kernel
theorem dX7_landedAt_12 : decode cX7_landedAt 12 = .ok (.new 171, 3) := by decide +kernel
theorem dX7_landedAt_15 : decode cX7_landedAt 15 = .ok (.dup, 1) := by decide +kernel
theorem dX7_landedAt_16 : decode cX7_landedAt 16 = .ok (.ldc 238, 2) := by decide +kernel
theorem dX7_landedAt_18 : decode cX7_landedAt 18 = .ok (.invokespecial 175, 3) := by decide +kernel
theorem dX7_landedAt_21 : decode cX7_landedAt 21 = .ok (.athrow, 1) := by decide +kernel
theorem dX7_landedAt_22 : decode cX7_landedAt 22 = .ok (.aload_n 0, 1) := by decide +kernel
theorem dX7_landedAt_23 : decode cX7_landedAt 23 = .ok (.getfield 32, 3) := by decide +kernel
theorem dX7_landedAt_26 : decode cX7_landedAt 26 = .ok (.iload_n 1, 1) := by decide +kernel
theorem dX7_landedAt_27 : decode cX7_landedAt 27 = .ok (.invokestatic 240, 3) := by decide +kernel
theorem dX7_landedAt_30 : decode cX7_landedAt 30 = .ok (.ireturn, 1) := by decide +kernel
set_option maxRecDepth 20000 in
theorem ggX7_mainLines_X5_size : GoodIn wsX7_mainLines wsX5_size := goodIn_r _ [6, 7, 21, 22] (by decide +kernel) (by decide +kernel)
set_option maxRecDepth 20000 in
theorem gX7_mainLines_X5_size : GoodIn wsX7_mainLines (wsV RX7 115 RX5 yX5_size wsX5_size) := goodIn_app (goodIn_of _ (by decide +kernel)) ggX7_mainLines_X5_size
theorem dX7_mainLines_0 : decode cX7_mainLines 0 = .ok (.aload_n 0, 1) := by decide +kernel
theorem dX7_mainLines_1 : decode cX7_mainLines 1 = .ok (.getfield 12, 3) := by decide +kernel
theorem dX7_mainLines_4 : decode cX7_mainLines 4 = .ok (.invokevirtual 115, 3) := by decide +kernel
theorem dX7_mainLines_7 : decode cX7_mainLines 7 = .ok (.ireturn, 1) := by decide +kernel
set_option maxRecDepth 20000 in
theorem ggX7_mainLine_X7_checkLine : GoodIn wsX7_mainLine wsX7_checkLine := goodIn_ca (goodIn_r _ [5, 6, 7, 8, 9, 10, 11, 12, 13, 32, 33] (by decide +kernel) (by decide +kernel)) (goodIn_sub (fun _ h => List.mem_cons_of_mem _ (List.mem_append_right _ h)) (by decide +kernel))
set_option maxRecDepth 20000 in
theorem gX7_mainLine_X7_checkLine : GoodIn wsX7_mainLine (va_wsS RX7 244 yX7_checkLine wsX7_checkLine) := goodIn_app (goodIn_of _ (by decide +kernel)) ggX7_mainLine_X7_checkLine
set_option maxRecDepth 20000 in
theorem ggX7_mainLine_X5_at : GoodIn wsX7_mainLine wsX5_at := goodIn_r _ [17, 13, 18, 32, 33] (by decide +kernel) (by decide +kernel)
set_option maxRecDepth 20000 in
theorem gX7_mainLine_X5_at : GoodIn wsX7_mainLine (wsV RX7 248 RX5 yX5_at wsX5_at) := goodIn_app (goodIn_of _ (by decide +kernel)) ggX7_mainLine_X5_at
theorem dX7_mainLine_0 : decode cX7_mainLine 0 = .ok (.aload_n 0, 1) := by decide +kernel
theorem dX7_mainLine_1 : decode cX7_mainLine 1 = .ok (.getfield 12, 3) := by decide +kernel
theorem dX7_mainLine_4 : decode cX7_mainLine 4 = .ok (.iload_n 1, 1) := by decide +kernel
theorem dX7_mainLine_5 : decode cX7_mainLine 5 = .ok (.invokestatic 244, 3) := by decide +kernel
theorem dX7_mainLine_8 : decode cX7_mainLine 8 = .ok (.aload_n 0, 1) := by decide +kernel
theorem dX7_mainLine_9 : decode cX7_mainLine 9 = .ok (.getfield 12, 3) := by decide +kernel
theorem dX7_mainLine_12 : decode cX7_mainLine 12 = .ok (.iload_n 1, 1) := by decide +kernel
theorem dX7_mainLine_13 : decode cX7_mainLine 13 = .ok (.invokevirtual 248, 3) := by decide +kernel
theorem dX7_mainLine_16 : decode cX7_mainLine 16 = .ok (.ireturn, 1) := by decide +kernel
set_option maxRecDepth 20000 in
theorem ggX7_rounds_X7_changeOf : GoodIn wsX7_rounds wsX7_changeOf := goodIn_ca (goodIn_r _ [5, 6, 7, 8, 20, 21, 22, 23, 24, 25, 26, 27, 28, 29, 30, 31, 32] (by decide +kernel) (by decide +kernel)) (goodIn_sub (fun _ h => List.mem_cons_of_mem _ (List.mem_append_right _ h)) (by decide +kernel))
set_option maxRecDepth 20000 in
theorem gX7_rounds_X7_changeOf : GoodIn wsX7_rounds (wsV RX7 104 RX7 yX7_changeOf wsX7_changeOf) := goodIn_app (goodIn_of _ (by decide +kernel)) ggX7_rounds_X7_changeOf
theorem dX7_rounds_0 : decode cX7_rounds 0 = .ok (.aload_n 0, 1) := by decide +kernel
theorem dX7_rounds_1 : decode cX7_rounds 1 = .ok (.iload_n 1, 1) := by decide +kernel
theorem dX7_rounds_2 : decode cX7_rounds 2 = .ok (.invokevirtual 104, 3) := by decide +kernel
theorem dX7_rounds_5 : decode cX7_rounds 5 = .ok (.getfield 124, 3) := by decide +kernel
theorem dX7_rounds_8 : decode cX7_rounds 8 = .ok (.ireturn, 1) := by decide +kernel
set_option maxRecDepth 20000 in
theorem ggX7_lines_X7_changeOf : GoodIn wsX7_lines wsX7_changeOf := goodIn_ca (goodIn_r _ [5, 6, 7, 8, 30, 31, 32, 33, 34, 35, 36, 37, 38, 39, 40, 41, 42] (by decide +kernel) (by decide +kernel)) (goodIn_sub (fun _ h => List.mem_cons_of_mem _ (List.mem_append_left _ (List.mem_append_right _ h))) (by decide +kernel))
set_option maxRecDepth 20000 in
theorem gX7_lines_X7_changeOf : GoodIn wsX7_lines (wsV RX7 104 RX7 yX7_changeOf wsX7_changeOf) := goodIn_app (goodIn_of _ (by decide +kernel)) ggX7_lines_X7_changeOf
set_option maxRecDepth 20000 in
theorem ggX7_lines_X7_roundOf : GoodIn wsX7_lines wsX7_roundOf := goodIn_ca (goodIn_r _ [11, 12, 13, 4, 14, 15, 16, 17, 18, 19, 20, 21, 22, 23, 43, 44, 45, 46, 47, 48, 49, 50, 51, 52, 53] (by decide +kernel) (by decide +kernel)) (goodIn_sub (fun _ h => List.mem_cons_of_mem _ (List.mem_append_right _ h)) (by decide +kernel))
set_option maxRecDepth 20000 in
theorem gX7_lines_X7_roundOf : GoodIn wsX7_lines (va_wsS RX7 251 yX7_roundOf wsX7_roundOf) := goodIn_app (goodIn_of _ (by decide +kernel)) ggX7_lines_X7_roundOf
set_option maxRecDepth 20000 in
theorem ggX7_lines_X5_size : GoodIn wsX7_lines wsX5_size := goodIn_r _ [28, 29, 54, 55] (by decide +kernel) (by decide +kernel)
set_option maxRecDepth 20000 in
theorem gX7_lines_X5_size : GoodIn wsX7_lines (wsV RX7 115 RX5 yX5_size wsX5_size) := goodIn_app (goodIn_of _ (by decide +kernel)) ggX7_lines_X5_size
theorem dX7_lines_0 : decode cX7_lines 0 = .ok (.aload_n 0, 1) := by decide +kernel
theorem dX7_lines_1 : decode cX7_lines 1 = .ok (.iload_n 1, 1) := by decide +kernel
theorem dX7_lines_2 : decode cX7_lines 2 = .ok (.invokevirtual 104, 3) := by decide +kernel
theorem dX7_lines_5 : decode cX7_lines 5 = .ok (.iload_n 2, 1) := by decide +kernel
theorem dX7_lines_6 : decode cX7_lines 6 = .ok (.invokestatic 251, 3) := by decide +kernel
theorem dX7_lines_9 : decode cX7_lines 9 = .ok (.invokevirtual 115, 3) := by decide +kernel
theorem dX7_lines_12 : decode cX7_lines 12 = .ok (.ireturn, 1) := by decide +kernel
set_option maxRecDepth 20000 in
theorem ggX7_lineAt_X7_changeOf : GoodIn wsX7_lineAt wsX7_changeOf := goodIn_ca (goodIn_r _ [5, 6, 7, 8, 38, 39, 40, 41, 42, 43, 44, 45, 46, 47, 48, 49, 50] (by decide +kernel) (by decide +kernel)) (goodIn_sub (fun _ h => List.mem_cons_of_mem _ (List.mem_append_left _ (List.mem_append_right _ h))) (by decide +kernel))
set_option maxRecDepth 20000 in
theorem gX7_lineAt_X7_changeOf : GoodIn wsX7_lineAt (wsV RX7 104 RX7 yX7_changeOf wsX7_changeOf) := goodIn_app (goodIn_of _ (by decide +kernel)) ggX7_lineAt_X7_changeOf
set_option maxRecDepth 20000 in
theorem ggX7_lineAt_X7_roundOf : GoodIn wsX7_lineAt wsX7_roundOf := goodIn_ca (goodIn_r _ [11, 12, 13, 4, 14, 15, 16, 17, 18, 19, 20, 21, 22, 23, 51, 52, 53, 54, 55, 56, 57, 58, 59, 60, 61] (by decide +kernel) (by decide +kernel)) (goodIn_sub (fun _ h => List.mem_cons_of_mem _ (List.mem_append_right _ h)) (by decide +kernel))
set_option maxRecDepth 20000 in
theorem gX7_lineAt_X7_roundOf : GoodIn wsX7_lineAt (va_wsS RX7 251 yX7_roundOf wsX7_roundOf) := goodIn_app (goodIn_of _ (by decide +kernel)) ggX7_lineAt_X7_roundOf
set_option maxRecDepth 20000 in
theorem ggX7_lineAt_X7_checkLine : GoodIn wsX7_lineAt wsX7_checkLine := goodIn_ca (goodIn_r _ [26, 15, 16, 27, 28, 29, 30, 31, 32, 62, 63] (by decide +kernel) (by decide +kernel)) (goodIn_sub (fun _ h => List.mem_cons_of_mem _ (List.mem_append_right _ h)) (by decide +kernel))
set_option maxRecDepth 20000 in
theorem gX7_lineAt_X7_checkLine : GoodIn wsX7_lineAt (va_wsS RX7 244 yX7_checkLine wsX7_checkLine) := goodIn_app (goodIn_of _ (by decide +kernel)) ggX7_lineAt_X7_checkLine
set_option maxRecDepth 20000 in
theorem ggX7_lineAt_X5_at : GoodIn wsX7_lineAt wsX5_at := goodIn_r _ [36, 32, 37, 62, 63] (by decide +kernel) (by decide +kernel)
set_option maxRecDepth 20000 in
theorem gX7_lineAt_X5_at : GoodIn wsX7_lineAt (wsV RX7 248 RX5 yX5_at wsX5_at) := goodIn_app (goodIn_of _ (by decide +kernel)) ggX7_lineAt_X5_at
theorem dX7_lineAt_0 : decode cX7_lineAt 0 = .ok (.aload_n 0, 1) := by decide +kernel
theorem dX7_lineAt_1 : decode cX7_lineAt 1 = .ok (.iload_n 1, 1) := by decide +kernel
theorem dX7_lineAt_2 : decode cX7_lineAt 2 = .ok (.invokevirtual 104, 3) := by decide +kernel
theorem dX7_lineAt_5 : decode cX7_lineAt 5 = .ok (.iload_n 2, 1) := by decide +kernel
theorem dX7_lineAt_6 : decode cX7_lineAt 6 = .ok (.invokestatic 251, 3) := by decide +kernel
theorem dX7_lineAt_9 : decode cX7_lineAt 9 = .ok (.astore 4, 2) := by decide +kernel
theorem dX7_lineAt_11 : decode cX7_lineAt 11 = .ok (.aload 4, 2) := by decide +kernel
theorem dX7_lineAt_13 : decode cX7_lineAt 13 = .ok (.iload_n 3, 1) := by decide +kernel
theorem dX7_lineAt_14 : decode cX7_lineAt 14 = .ok (.invokestatic 244, 3) := by decide +kernel
theorem dX7_lineAt_17 : decode cX7_lineAt 17 = .ok (.aload 4, 2) := by decide +kernel
theorem dX7_lineAt_19 : decode cX7_lineAt 19 = .ok (.iload_n 3, 1) := by decide +kernel
theorem dX7_lineAt_20 : decode cX7_lineAt 20 = .ok (.invokevirtual 248, 3) := by decide +kernel
theorem dX7_lineAt_23 : decode cX7_lineAt 23 = .ok (.ireturn, 1) := by decide +kernel
set_option maxRecDepth 20000 in
theorem ggX7_edits_X7_changeOf : GoodIn wsX7_edits wsX7_changeOf := goodIn_ca (goodIn_r _ [6, 7, 8, 9, 79, 80, 81, 82, 83, 84, 85, 86, 87, 88, 89, 90, 91] (by decide +kernel) (by decide +kernel)) (goodIn_sub (fun _ h => List.mem_cons_of_mem _ (List.mem_append_left _ (List.mem_append_right _ h))) (by decide +kernel))
set_option maxRecDepth 20000 in
theorem gX7_edits_X7_changeOf : GoodIn wsX7_edits (wsV RX7 104 RX7 yX7_changeOf wsX7_changeOf) := goodIn_app (goodIn_of _ (by decide +kernel)) ggX7_edits_X7_changeOf
set_option maxRecDepth 20000 in
theorem ggX7_edits_X7_roundOf : GoodIn wsX7_edits wsX7_roundOf := goodIn_ca (goodIn_r _ [12, 13, 14, 5, 15, 16, 17, 18, 19, 20, 21, 22, 23, 24, 92, 93, 94, 95, 96, 97, 98, 99, 100, 101, 102] (by decide +kernel) (by decide +kernel)) (goodIn_sub (fun _ h => List.mem_cons_of_mem _ (List.mem_append_right _ h)) (by decide +kernel))
set_option maxRecDepth 20000 in
theorem gX7_edits_X7_roundOf : GoodIn wsX7_edits (va_wsS RX7 251 yX7_roundOf wsX7_roundOf) := goodIn_app (goodIn_of _ (by decide +kernel)) ggX7_edits_X7_roundOf
set_option maxRecDepth 20000 in
theorem ggX7_edits_X4_find : GoodIn wsX7_edits wsX4_find := goodIn_r _ [29, 30, 31, 32, 28, 33, 34, 35, 36, 37, 38, 39, 40, 41, 42, 43, 44, 45, 46, 47, 48, 49, 50, 5, 51, 52, 53, 54, 55, 56, 57, 58, 59, 60, 61, 62, 63, 64, 65, 66, 67, 68, 69, 70, 71, 72, 73, 74, 103, 104, 105, 106, 107, 108] (by decide +kernel) (by decide +kernel)
set_option maxRecDepth 20000 in
theorem gX7_edits_X4_find : GoodIn wsX7_edits (wsV RX7 255 RX4 yX4_find wsX4_find) := goodIn_app (goodIn_of _ (by decide +kernel)) ggX7_edits_X4_find
set_option maxRecDepth 20000 in
theorem ggX7_edits_X4_size : GoodIn wsX7_edits wsX4_size := goodIn_r _ [78, 60, 103, 104, 105, 106] (by decide +kernel) (by decide +kernel)
set_option maxRecDepth 20000 in
theorem gX7_edits_X4_size : GoodIn wsX7_edits (wsV RX7 259 RX4 yX4_size wsX4_size) := goodIn_app (goodIn_of _ (by decide +kernel)) ggX7_edits_X4_size
theorem dX7_edits_0 : decode cX7_edits 0 = .ok (.aload_n 0, 1) := by decide +kernel
theorem dX7_edits_1 : decode cX7_edits 1 = .ok (.iload_n 1, 1) := by decide +kernel
theorem dX7_edits_2 : decode cX7_edits 2 = .ok (.invokevirtual 104, 3) := by decide +kernel
theorem dX7_edits_5 : decode cX7_edits 5 = .ok (.astore 4, 2) := by decide +kernel
theorem dX7_edits_7 : decode cX7_edits 7 = .ok (.aload_n 0, 1) := by decide +kernel
theorem dX7_edits_8 : decode cX7_edits 8 = .ok (.getfield 38, 3) := by decide +kernel
theorem dX7_edits_11 : decode cX7_edits 11 = .ok (.aload 4, 2) := by decide +kernel
theorem dX7_edits_13 : decode cX7_edits 13 = .ok (.iload_n 2, 1) := by decide +kernel
theorem dX7_edits_14 : decode cX7_edits 14 = .ok (.invokestatic 251, 3) := by decide +kernel
theorem dX7_edits_17 : decode cX7_edits 17 = .ok (.aload 4, 2) := by decide +kernel
theorem dX7_edits_19 : decode cX7_edits 19 = .ok (.iload_n 3, 1) := by decide +kernel
theorem dX7_edits_20 : decode cX7_edits 20 = .ok (.invokestatic 251, 3) := by decide +kernel
theorem dX7_edits_23 : decode cX7_edits 23 = .ok (.invokevirtual 255, 3) := by decide +kernel
theorem dX7_edits_26 : decode cX7_edits 26 = .ok (.aload_n 0, 1) := by decide +kernel
theorem dX7_edits_27 : decode cX7_edits 27 = .ok (.getfield 38, 3) := by decide +kernel
theorem dX7_edits_30 : decode cX7_edits 30 = .ok (.invokevirtual 259, 3) := by decide +kernel
theorem dX7_edits_33 : decode cX7_edits 33 = .ok (.ireturn, 1) := by decide +kernel
set_option maxRecDepth 20000 in
theorem ggX7_editsByWays_X7_changeOf : GoodIn wsX7_editsByWays wsX7_changeOf := goodIn_ca (goodIn_r _ [6, 7, 8, 9, 57, 58, 59, 60, 61, 62, 63, 64, 65, 66, 67, 68, 69] (by decide +kernel) (by decide +kernel)) (goodIn_sub (fun _ h => List.mem_cons_of_mem _ (List.mem_append_left _ (List.mem_append_right _ h))) (by decide +kernel))
set_option maxRecDepth 20000 in
theorem gX7_editsByWays_X7_changeOf : GoodIn wsX7_editsByWays (wsV RX7 104 RX7 yX7_changeOf wsX7_changeOf) := goodIn_app (goodIn_of _ (by decide +kernel)) ggX7_editsByWays_X7_changeOf
set_option maxRecDepth 20000 in
theorem ggX7_editsByWays_X7_roundOf : GoodIn wsX7_editsByWays wsX7_roundOf := goodIn_ca (goodIn_r _ [12, 13, 14, 5, 15, 16, 17, 18, 19, 20, 21, 22, 23, 24, 70, 71, 72, 73, 74, 75, 76, 77, 78, 79, 80] (by decide +kernel) (by decide +kernel)) (goodIn_sub (fun _ h => List.mem_cons_of_mem _ (List.mem_append_right _ h)) (by decide +kernel))
set_option maxRecDepth 20000 in
theorem gX7_editsByWays_X7_roundOf : GoodIn wsX7_editsByWays (va_wsS RX7 251 yX7_roundOf wsX7_roundOf) := goodIn_app (goodIn_of _ (by decide +kernel)) ggX7_editsByWays_X7_roundOf
set_option maxRecDepth 20000 in
theorem ggX7_editsByWays_X6_fewestEdits : GoodIn wsX7_editsByWays wsX6_fewestEdits := goodIn_r _ [29, 30, 31, 32, 33, 34, 35, 36, 37, 5, 38, 39, 40, 41, 28, 42, 43, 44, 45, 46, 47, 48, 49, 50, 51, 52, 53, 54, 55, 56, 81, 82, 83] (by decide +kernel) (by decide +kernel)
set_option maxRecDepth 20000 in
theorem gX7_editsByWays_X6_fewestEdits : GoodIn wsX7_editsByWays (wsV RX7 260 RX6 yX6_fewestEdits wsX6_fewestEdits) := goodIn_app (goodIn_of _ (by decide +kernel)) ggX7_editsByWays_X6_fewestEdits
