theorem dX8_setPriority_40 : decode cX8_setPriority 40 = .ok (.iaload, 1) := by decide +kernel
theorem dX8_setPriority_41 : decode cX8_setPriority 41 = .ok (.istore_n 3, 1) := by decide +kernel
theorem dX8_setPriority_42 : decode cX8_setPriority 42 = .ok (.aload_n 0, 1) := by decide +kernel
theorem dX8_setPriority_43 : decode cX8_setPriority 43 = .ok (.getfield 34, 3) := by decide +kernel
theorem dX8_setPriority_46 : decode cX8_setPriority 46 = .ok (.iload_n 1, 1) := by decide +kernel
theorem dX8_setPriority_47 : decode cX8_setPriority 47 = .ok (.iload_n 2, 1) := by decide +kernel
theorem dX8_setPriority_48 : decode cX8_setPriority 48 = .ok (.iastore, 1) := by decide +kernel
theorem dX8_setPriority_49 : decode cX8_setPriority 49 = .ok (.iload_n 3, 1) := by decide +kernel
theorem dX8_setPriority_50 : decode cX8_setPriority 50 = .ok (.ireturn, 1) := by decide +kernel
set_option maxRecDepth 20000 in
theorem ggX8_comment_X8_isChange : GoodIn wsX8_comment wsX8_isChange := goodIn_r _ [13, 14, 15, 16, 12, 17, 29, 30, 31, 32, 33, 34, 35, 36, 37, 38, 39, 40, 41, 42, 43, 44, 45, 46, 47, 48, 49, 50, 51, 52, 53, 54] (by decide +kernel) (by decide +kernel)
set_option maxRecDepth 20000 in
theorem gX8_comment_X8_isChange : GoodIn wsX8_comment (wsV RX8 128 RX8 yX8_isChange wsX8_isChange) := goodIn_app (goodIn_of _ (by decide +kernel)) ggX8_comment_X8_isChange
set_option maxRecDepth 20000 in
theorem ggX8_comment_X8_fail : GoodIn wsX8_comment wsX8_fail := goodIn_r _ [21, 5, 29, 30, 31, 32, 33, 34, 35, 36, 37, 38, 39, 40, 41, 42, 43, 44, 45, 46, 47, 48, 49, 50, 51, 52, 53, 54] (by decide +kernel) (by decide +kernel)
set_option maxRecDepth 20000 in
theorem gX8_comment_X8_fail : GoodIn wsX8_comment (wsV RX8 121 RX8 yX8_fail wsX8_fail) := goodIn_app (goodIn_of _ (by decide +kernel)) ggX8_comment_X8_fail
set_option maxRecDepth 20000 in
theorem ggX8_comment_X8_present : GoodIn wsX8_comment wsX8_present := goodIn_r _ [25, 1, 26, 27, 12, 28, 29, 30, 31, 32, 33, 34, 35, 36, 37, 38, 39, 40, 41, 42, 43, 44, 45, 46, 47, 48, 49, 50, 51, 52, 53, 54] (by decide +kernel) (by decide +kernel)
set_option maxRecDepth 20000 in
theorem gX8_comment_X8_present : GoodIn wsX8_comment (wsV RX8 98 RX8 yX8_present wsX8_present) := goodIn_app (goodIn_of _ (by decide +kernel)) ggX8_comment_X8_present
set_option maxRecDepth 20000 in
theorem ggX8_comment_X8_isIn : GoodIn wsX8_comment wsX8_isIn := goodIn_r _ [17] (by decide +kernel) (by decide +kernel)
set_option maxRecDepth 20000 in
theorem gX8_comment_X8_isIn : GoodIn wsX8_comment (va_wsS RX8 77 yX8_isIn wsX8_isIn) := goodIn_app (goodIn_of _ (by decide +kernel)) ggX8_comment_X8_isIn
theorem dX8_comment_0 : decode cX8_comment 0 = .ok (.aload_n 0, 1) := by decide +kernel
theorem dX8_comment_1 : decode cX8_comment 1 = .ok (.iload_n 1, 1) := by decide +kernel
theorem dX8_comment_2 : decode cX8_comment 2 = .ok (.invokevirtual 128, 3) := by decide +kernel
theorem dX8_comment_5 : decode cX8_comment 5 = .ok (.ifCond .ne 9, 3) := by decide +kernel
theorem dX8_comment_8 : decode cX8_comment 8 = .ok (.aload_n 0, 1) := by decide +kernel
theorem dX8_comment_9 : decode cX8_comment 9 = .ok (.iconst 1, 1) := by decide +kernel
theorem dX8_comment_10 : decode cX8_comment 10 = .ok (.invokevirtual 121, 3) := by decide +kernel
theorem dX8_comment_13 : decode cX8_comment 13 = .ok (.ireturn, 1) := by decide +kernel
theorem dX8_comment_14 : decode cX8_comment 14 = .ok (.aload_n 0, 1) := by decide +kernel
theorem dX8_comment_15 : decode cX8_comment 15 = .ok (.getfield 28, 3) := by decide +kernel
theorem dX8_comment_18 : decode cX8_comment 18 = .ok (.iload_n 1, 1) := by decide +kernel
theorem dX8_comment_19 : decode cX8_comment 19 = .ok (.iaload, 1) := by decide +kernel
theorem dX8_comment_20 : decode cX8_comment 20 = .ok (.ifCond .eq 23, 3) := by decide +kernel
theorem dX8_comment_23 : decode cX8_comment 23 = .ok (.iload_n 2, 1) := by decide +kernel
theorem dX8_comment_24 : decode cX8_comment 24 = .ok (.iconst 0, 1) := by decide +kernel
theorem dX8_comment_25 : decode cX8_comment 25 = .ok (.aload_n 0, 1) := by decide +kernel
theorem dX8_comment_26 : decode cX8_comment 26 = .ok (.getfield 13, 3) := by decide +kernel
theorem dX8_comment_29 : decode cX8_comment 29 = .ok (.aload_n 0, 1) := by decide +kernel
theorem dX8_comment_30 : decode cX8_comment 30 = .ok (.iload_n 1, 1) := by decide +kernel
theorem dX8_comment_31 : decode cX8_comment 31 = .ok (.invokevirtual 98, 3) := by decide +kernel
theorem dX8_comment_34 : decode cX8_comment 34 = .ok (.iaload, 1) := by decide +kernel
theorem dX8_comment_35 : decode cX8_comment 35 = .ok (.iconst 1, 1) := by decide +kernel
theorem dX8_comment_36 : decode cX8_comment 36 = .ok (.isub, 1) := by decide +kernel
theorem dX8_comment_37 : decode cX8_comment 37 = .ok (.invokestatic 77, 3) := by decide +kernel
theorem dX8_comment_40 : decode cX8_comment 40 = .ok (.ifCond .ne 9, 3) := by decide +kernel
theorem dX8_comment_43 : decode cX8_comment 43 = .ok (.aload_n 0, 1) := by decide +kernel
theorem dX8_comment_44 : decode cX8_comment 44 = .ok (.iconst 2, 1) := by decide +kernel
theorem dX8_comment_45 : decode cX8_comment 45 = .ok (.invokevirtual 121, 3) := by decide +kernel
theorem dX8_comment_48 : decode cX8_comment 48 = .ok (.ireturn, 1) := by decide +kernel
theorem dX8_comment_49 : decode cX8_comment 49 = .ok (.aload_n 0, 1) := by decide +kernel
theorem dX8_comment_50 : decode cX8_comment 50 = .ok (.getfield 37, 3) := by decide +kernel
theorem dX8_comment_53 : decode cX8_comment 53 = .ok (.iload_n 1, 1) := by decide +kernel
theorem dX8_comment_54 : decode cX8_comment 54 = .ok (.iaload, 1) := by decide +kernel
theorem dX8_comment_55 : decode cX8_comment 55 = .ok (.iconst 1, 1) := by decide +kernel
theorem dX8_comment_56 : decode cX8_comment 56 = .ok (.if_icmp .eq 12, 3) := by decide +kernel
theorem dX8_comment_59 : decode cX8_comment 59 = .ok (.aload_n 0, 1) := by decide +kernel
theorem dX8_comment_60 : decode cX8_comment 60 = .ok (.getfield 114, 3) := by decide +kernel
theorem dX8_comment_63 : decode cX8_comment 63 = .ok (.bipush 12, 2) := by decide +kernel
theorem dX8_comment_65 : decode cX8_comment 65 = .ok (.if_icmp .ne 9, 3) := by decide +kernel
theorem dX8_comment_68 : decode cX8_comment 68 = .ok (.aload_n 0, 1) := by decide +kernel
theorem dX8_comment_69 : decode cX8_comment 69 = .ok (.iconst 3, 1) := by decide +kernel
theorem dX8_comment_70 : decode cX8_comment 70 = .ok (.invokevirtual 121, 3) := by decide +kernel
theorem dX8_comment_73 : decode cX8_comment 73 = .ok (.ireturn, 1) := by decide +kernel
theorem dX8_comment_74 : decode cX8_comment 74 = .ok (.aload_n 0, 1) := by decide +kernel
theorem dX8_comment_75 : decode cX8_comment 75 = .ok (.iconst 0, 1) := by decide +kernel
theorem dX8_comment_76 : decode cX8_comment 76 = .ok (.putfield 70, 3) := by decide +kernel
theorem dX8_comment_79 : decode cX8_comment 79 = .ok (.aload_n 0, 1) := by decide +kernel
theorem dX8_comment_80 : decode cX8_comment 80 = .ok (.getfield 46, 3) := by decide +kernel
theorem dX8_comment_83 : decode cX8_comment 83 = .ok (.aload_n 0, 1) := by decide +kernel
theorem dX8_comment_84 : decode cX8_comment 84 = .ok (.getfield 114, 3) := by decide +kernel
theorem dX8_comment_87 : decode cX8_comment 87 = .ok (.iload_n 1, 1) := by decide +kernel
theorem dX8_comment_88 : decode cX8_comment 88 = .ok (.iastore, 1) := by decide +kernel
theorem dX8_comment_89 : decode cX8_comment 89 = .ok (.aload_n 0, 1) := by decide +kernel
theorem dX8_comment_90 : decode cX8_comment 90 = .ok (.getfield 49, 3) := by decide +kernel
theorem dX8_comment_93 : decode cX8_comment 93 = .ok (.aload_n 0, 1) := by decide +kernel
theorem dX8_comment_94 : decode cX8_comment 94 = .ok (.getfield 114, 3) := by decide +kernel
theorem dX8_comment_97 : decode cX8_comment 97 = .ok (.aload_n 0, 1) := by decide +kernel
theorem dX8_comment_98 : decode cX8_comment 98 = .ok (.getfield 28, 3) := by decide +kernel
theorem dX8_comment_101 : decode cX8_comment 101 = .ok (.iload_n 1, 1) := by decide +kernel
theorem dX8_comment_102 : decode cX8_comment 102 = .ok (.iaload, 1) := by decide +kernel
theorem dX8_comment_103 : decode cX8_comment 103 = .ok (.iconst 1, 1) := by decide +kernel
theorem dX8_comment_104 : decode cX8_comment 104 = .ok (.isub, 1) := by decide +kernel
theorem dX8_comment_105 : decode cX8_comment 105 = .ok (.iastore, 1) := by decide +kernel
theorem dX8_comment_106 : decode cX8_comment 106 = .ok (.aload_n 0, 1) := by decide +kernel
theorem dX8_comment_107 : decode cX8_comment 107 = .ok (.getfield 52, 3) := by decide +kernel
theorem dX8_comment_110 : decode cX8_comment 110 = .ok (.aload_n 0, 1) := by decide +kernel
theorem dX8_comment_111 : decode cX8_comment 111 = .ok (.getfield 114, 3) := by decide +kernel
theorem dX8_comment_114 : decode cX8_comment 114 = .ok (.iload_n 2, 1) := by decide +kernel
theorem dX8_comment_115 : decode cX8_comment 115 = .ok (.iastore, 1) := by decide +kernel
theorem dX8_comment_116 : decode cX8_comment 116 = .ok (.aload_n 0, 1) := by decide +kernel
theorem dX8_comment_117 : decode cX8_comment 117 = .ok (.dup, 1) := by decide +kernel
theorem dX8_comment_118 : decode cX8_comment 118 = .ok (.getfield 114, 3) := by decide +kernel
theorem dX8_comment_121 : decode cX8_comment 121 = .ok (.iconst 1, 1) := by decide +kernel
theorem dX8_comment_122 : decode cX8_comment 122 = .ok (.iadd, 1) := by decide +kernel
theorem dX8_comment_123 : decode cX8_comment 123 = .ok (.putfield 114, 3) := by decide +kernel
theorem dX8_comment_126 : decode cX8_comment 126 = .ok (.aload_n 0, 1) := by decide +kernel
theorem dX8_comment_127 : decode cX8_comment 127 = .ok (.getfield 114, 3) := by decide +kernel
theorem dX8_comment_130 : decode cX8_comment 130 = .ok (.iconst 1, 1) := by decide +kernel
theorem dX8_comment_131 : decode cX8_comment 131 = .ok (.isub, 1) := by decide +kernel
theorem dX8_comment_132 : decode cX8_comment 132 = .ok (.ireturn, 1) := by decide +kernel
set_option maxRecDepth 20000 in
theorem ggX8_resolve_X8_isIn : GoodIn wsX8_resolve wsX8_isIn := goodIn_r _ [8] (by decide +kernel) (by decide +kernel)
set_option maxRecDepth 20000 in
theorem gX8_resolve_X8_isIn : GoodIn wsX8_resolve (va_wsS RX8 77 yX8_isIn wsX8_isIn) := goodIn_app (goodIn_of _ (by decide +kernel)) ggX8_resolve_X8_isIn
set_option maxRecDepth 20000 in
theorem ggX8_resolve_X8_fail : GoodIn wsX8_resolve wsX8_fail := goodIn_r _ [12, 3, 17, 18, 19, 20, 21, 22, 23, 24, 25, 26, 27, 28, 29, 30, 31, 32, 33, 34, 35, 36, 37, 38, 39, 40, 41, 42] (by decide +kernel) (by decide +kernel)
set_option maxRecDepth 20000 in
theorem gX8_resolve_X8_fail : GoodIn wsX8_resolve (wsV RX8 121 RX8 yX8_fail wsX8_fail) := goodIn_app (goodIn_of _ (by decide +kernel)) ggX8_resolve_X8_fail
set_option maxRecDepth 20000 in
theorem ggX8_resolve_X8_opens : GoodIn wsX8_resolve wsX8_opens := goodIn_r _ [16, 1, 4, 2, 17, 18, 19, 20, 21, 22, 23, 24, 25, 26, 27, 28, 29, 30, 31, 32, 33, 34, 35, 36, 37, 38, 39, 40, 41, 42] (by decide +kernel) (by decide +kernel)
set_option maxRecDepth 20000 in
theorem gX8_resolve_X8_opens : GoodIn wsX8_resolve (wsV RX8 134 RX8 yX8_opens wsX8_opens) := goodIn_app (goodIn_of _ (by decide +kernel)) ggX8_resolve_X8_opens
theorem dX8_resolve_0 : decode cX8_resolve 0 = .ok (.iload_n 1, 1) := by decide +kernel
theorem dX8_resolve_1 : decode cX8_resolve 1 = .ok (.iconst 0, 1) := by decide +kernel
theorem dX8_resolve_2 : decode cX8_resolve 2 = .ok (.aload_n 0, 1) := by decide +kernel
theorem dX8_resolve_3 : decode cX8_resolve 3 = .ok (.getfield 114, 3) := by decide +kernel
theorem dX8_resolve_6 : decode cX8_resolve 6 = .ok (.iconst 1, 1) := by decide +kernel
theorem dX8_resolve_7 : decode cX8_resolve 7 = .ok (.isub, 1) := by decide +kernel
theorem dX8_resolve_8 : decode cX8_resolve 8 = .ok (.invokestatic 77, 3) := by decide +kernel
theorem dX8_resolve_11 : decode cX8_resolve 11 = .ok (.ifCond .ne 9, 3) := by decide +kernel
theorem dX8_resolve_14 : decode cX8_resolve 14 = .ok (.aload_n 0, 1) := by decide +kernel
theorem dX8_resolve_15 : decode cX8_resolve 15 = .ok (.iconst 1, 1) := by decide +kernel
theorem dX8_resolve_16 : decode cX8_resolve 16 = .ok (.invokevirtual 121, 3) := by decide +kernel
theorem dX8_resolve_19 : decode cX8_resolve 19 = .ok (.ireturn, 1) := by decide +kernel
theorem dX8_resolve_20 : decode cX8_resolve 20 = .ok (.aload_n 0, 1) := by decide +kernel
theorem dX8_resolve_21 : decode cX8_resolve 21 = .ok (.getfield 55, 3) := by decide +kernel
theorem dX8_resolve_24 : decode cX8_resolve 24 = .ok (.iload_n 1, 1) := by decide +kernel
theorem dX8_resolve_25 : decode cX8_resolve 25 = .ok (.iaload, 1) := by decide +kernel
theorem dX8_resolve_26 : decode cX8_resolve 26 = .ok (.iconst 1, 1) := by decide +kernel
theorem dX8_resolve_27 : decode cX8_resolve 27 = .ok (.if_icmp .ne 9, 3) := by decide +kernel
theorem dX8_resolve_30 : decode cX8_resolve 30 = .ok (.aload_n 0, 1) := by decide +kernel
theorem dX8_resolve_31 : decode cX8_resolve 31 = .ok (.iconst 2, 1) := by decide +kernel
theorem dX8_resolve_32 : decode cX8_resolve 32 = .ok (.invokevirtual 121, 3) := by decide +kernel
theorem dX8_resolve_35 : decode cX8_resolve 35 = .ok (.ireturn, 1) := by decide +kernel
theorem dX8_resolve_36 : decode cX8_resolve 36 = .ok (.aload_n 0, 1) := by decide +kernel
theorem dX8_resolve_37 : decode cX8_resolve 37 = .ok (.iconst 0, 1) := by decide +kernel
theorem dX8_resolve_38 : decode cX8_resolve 38 = .ok (.putfield 70, 3) := by decide +kernel
theorem dX8_resolve_41 : decode cX8_resolve 41 = .ok (.aload_n 0, 1) := by decide +kernel
theorem dX8_resolve_42 : decode cX8_resolve 42 = .ok (.getfield 55, 3) := by decide +kernel
theorem dX8_resolve_45 : decode cX8_resolve 45 = .ok (.iload_n 1, 1) := by decide +kernel
theorem dX8_resolve_46 : decode cX8_resolve 46 = .ok (.iconst 1, 1) := by decide +kernel
theorem dX8_resolve_47 : decode cX8_resolve 47 = .ok (.iastore, 1) := by decide +kernel
theorem dX8_resolve_48 : decode cX8_resolve 48 = .ok (.aload_n 0, 1) := by decide +kernel
theorem dX8_resolve_49 : decode cX8_resolve 49 = .ok (.aload_n 0, 1) := by decide +kernel
theorem dX8_resolve_50 : decode cX8_resolve 50 = .ok (.getfield 46, 3) := by decide +kernel
theorem dX8_resolve_53 : decode cX8_resolve 53 = .ok (.iload_n 1, 1) := by decide +kernel
theorem dX8_resolve_54 : decode cX8_resolve 54 = .ok (.iaload, 1) := by decide +kernel
theorem dX8_resolve_55 : decode cX8_resolve 55 = .ok (.invokevirtual 134, 3) := by decide +kernel
theorem dX8_resolve_58 : decode cX8_resolve 58 = .ok (.ireturn, 1) := by decide +kernel
set_option maxRecDepth 20000 in
theorem ggX8_approve_X8_isChange : GoodIn wsX8_approve wsX8_isChange := goodIn_r _ [10, 11, 12, 13, 9, 14, 62, 63, 64, 65, 66, 67, 68, 69, 70, 71, 72, 73, 74, 75, 76, 77, 78, 79, 80, 81, 82, 83, 84, 85, 86, 87] (by decide +kernel) (by decide +kernel)
set_option maxRecDepth 20000 in
theorem gX8_approve_X8_isChange : GoodIn wsX8_approve (wsV RX8 128 RX8 yX8_isChange wsX8_isChange) := goodIn_app (goodIn_of _ (by decide +kernel)) ggX8_approve_X8_isChange
set_option maxRecDepth 20000 in
theorem ggX8_approve_X8_isUser : GoodIn wsX8_approve wsX8_isUser := goodIn_r _ [17, 12, 13, 9, 14] (by decide +kernel) (by decide +kernel)
set_option maxRecDepth 20000 in
theorem gX8_approve_X8_isUser : GoodIn wsX8_approve (va_wsS RX8 117 yX8_isUser wsX8_isUser) := goodIn_app (goodIn_of _ (by decide +kernel)) ggX8_approve_X8_isUser
set_option maxRecDepth 20000 in
theorem ggX8_approve_X8_fail : GoodIn wsX8_approve wsX8_fail := goodIn_r _ [21, 4, 62, 63, 64, 65, 66, 67, 68, 69, 70, 71, 72, 73, 74, 75, 76, 77, 78, 79, 80, 81, 82, 83, 84, 85, 86, 87] (by decide +kernel) (by decide +kernel)
set_option maxRecDepth 20000 in
theorem gX8_approve_X8_fail : GoodIn wsX8_approve (wsV RX8 121 RX8 yX8_fail wsX8_fail) := goodIn_app (goodIn_of _ (by decide +kernel)) ggX8_approve_X8_fail
set_option maxRecDepth 20000 in
theorem ggX8_approve_X8_fresh : GoodIn wsX8_approve wsX8_fresh := goodIn_r _ [25, 26, 27, 28, 9, 29, 5, 30, 31, 32, 33, 1, 34, 35, 36, 37, 38, 39, 40, 41, 42, 43, 44, 45, 46, 47, 48, 49, 50, 51, 52, 53, 54, 55, 56, 57, 58, 59, 60, 61, 62, 63, 64, 65, 66, 67, 68, 69, 70, 71, 72, 73, 74, 75, 76, 77, 78, 79, 80, 81, 82, 83, 84, 85, 86, 87] (by decide +kernel) (by decide +kernel)
set_option maxRecDepth 20000 in
theorem gX8_approve_X8_fresh : GoodIn wsX8_approve (wsV RX8 137 RX8 yX8_fresh wsX8_fresh) := goodIn_app (goodIn_of _ (by decide +kernel)) ggX8_approve_X8_fresh
theorem dX8_approve_0 : decode cX8_approve 0 = .ok (.aload_n 0, 1) := by decide +kernel
theorem dX8_approve_1 : decode cX8_approve 1 = .ok (.iload_n 1, 1) := by decide +kernel
theorem dX8_approve_2 : decode cX8_approve 2 = .ok (.invokevirtual 128, 3) := by decide +kernel
theorem dX8_approve_5 : decode cX8_approve 5 = .ok (.ifCond .eq 10, 3) := by decide +kernel
theorem dX8_approve_8 : decode cX8_approve 8 = .ok (.iload_n 2, 1) := by decide +kernel
theorem dX8_approve_9 : decode cX8_approve 9 = .ok (.invokestatic 117, 3) := by decide +kernel
theorem dX8_approve_12 : decode cX8_approve 12 = .ok (.ifCond .ne 9, 3) := by decide +kernel
theorem dX8_approve_15 : decode cX8_approve 15 = .ok (.aload_n 0, 1) := by decide +kernel
theorem dX8_approve_16 : decode cX8_approve 16 = .ok (.iconst 1, 1) := by decide +kernel
theorem dX8_approve_17 : decode cX8_approve 17 = .ok (.invokevirtual 121, 3) := by decide +kernel
theorem dX8_approve_20 : decode cX8_approve 20 = .ok (.ireturn, 1) := by decide +kernel
theorem dX8_approve_21 : decode cX8_approve 21 = .ok (.aload_n 0, 1) := by decide +kernel
theorem dX8_approve_22 : decode cX8_approve 22 = .ok (.getfield 28, 3) := by decide +kernel
theorem dX8_approve_25 : decode cX8_approve 25 = .ok (.iload_n 1, 1) := by decide +kernel
theorem dX8_approve_26 : decode cX8_approve 26 = .ok (.iaload, 1) := by decide +kernel
theorem dX8_approve_27 : decode cX8_approve 27 = .ok (.ifCond .ne 9, 3) := by decide +kernel
theorem dX8_approve_30 : decode cX8_approve 30 = .ok (.aload_n 0, 1) := by decide +kernel
theorem dX8_approve_31 : decode cX8_approve 31 = .ok (.iconst 2, 1) := by decide +kernel
theorem dX8_approve_32 : decode cX8_approve 32 = .ok (.invokevirtual 121, 3) := by decide +kernel
theorem dX8_approve_35 : decode cX8_approve 35 = .ok (.ireturn, 1) := by decide +kernel
theorem dX8_approve_36 : decode cX8_approve 36 = .ok (.aload_n 0, 1) := by decide +kernel
theorem dX8_approve_37 : decode cX8_approve 37 = .ok (.getfield 37, 3) := by decide +kernel
theorem dX8_approve_40 : decode cX8_approve 40 = .ok (.iload_n 1, 1) := by decide +kernel
theorem dX8_approve_41 : decode cX8_approve 41 = .ok (.iaload, 1) := by decide +kernel
theorem dX8_approve_42 : decode cX8_approve 42 = .ok (.iconst 1, 1) := by decide +kernel
theorem dX8_approve_43 : decode cX8_approve 43 = .ok (.if_icmp .eq 13, 3) := by decide +kernel
theorem dX8_approve_46 : decode cX8_approve 46 = .ok (.aload_n 0, 1) := by decide +kernel
theorem dX8_approve_47 : decode cX8_approve 47 = .ok (.getfield 25, 3) := by decide +kernel
theorem dX8_approve_50 : decode cX8_approve 50 = .ok (.iload_n 1, 1) := by decide +kernel
theorem dX8_approve_51 : decode cX8_approve 51 = .ok (.iaload, 1) := by decide +kernel
theorem dX8_approve_52 : decode cX8_approve 52 = .ok (.iload_n 2, 1) := by decide +kernel
theorem dX8_approve_53 : decode cX8_approve 53 = .ok (.if_icmp .ne 9, 3) := by decide +kernel
theorem dX8_approve_56 : decode cX8_approve 56 = .ok (.aload_n 0, 1) := by decide +kernel
theorem dX8_approve_57 : decode cX8_approve 57 = .ok (.iconst 3, 1) := by decide +kernel
theorem dX8_approve_58 : decode cX8_approve 58 = .ok (.invokevirtual 121, 3) := by decide +kernel
theorem dX8_approve_61 : decode cX8_approve 61 = .ok (.ireturn, 1) := by decide +kernel
theorem dX8_approve_62 : decode cX8_approve 62 = .ok (.aload_n 0, 1) := by decide +kernel
theorem dX8_approve_63 : decode cX8_approve 63 = .ok (.iconst 0, 1) := by decide +kernel
theorem dX8_approve_64 : decode cX8_approve 64 = .ok (.putfield 70, 3) := by decide +kernel
theorem dX8_approve_67 : decode cX8_approve 67 = .ok (.aload_n 0, 1) := by decide +kernel
theorem dX8_approve_68 : decode cX8_approve 68 = .ok (.getfield 43, 3) := by decide +kernel
theorem dX8_approve_71 : decode cX8_approve 71 = .ok (.iconst 5, 1) := by decide +kernel
theorem dX8_approve_72 : decode cX8_approve 72 = .ok (.iload_n 1, 1) := by decide +kernel
theorem dX8_approve_73 : decode cX8_approve 73 = .ok (.imul, 1) := by decide +kernel
theorem dX8_approve_74 : decode cX8_approve 74 = .ok (.iload_n 2, 1) := by decide +kernel
theorem dX8_approve_75 : decode cX8_approve 75 = .ok (.iadd, 1) := by decide +kernel
theorem dX8_approve_76 : decode cX8_approve 76 = .ok (.aload_n 0, 1) := by decide +kernel
theorem dX8_approve_77 : decode cX8_approve 77 = .ok (.getfield 28, 3) := by decide +kernel
theorem dX8_approve_80 : decode cX8_approve 80 = .ok (.iload_n 1, 1) := by decide +kernel
theorem dX8_approve_81 : decode cX8_approve 81 = .ok (.iaload, 1) := by decide +kernel
theorem dX8_approve_82 : decode cX8_approve 82 = .ok (.iastore, 1) := by decide +kernel
theorem dX8_approve_83 : decode cX8_approve 83 = .ok (.aload_n 0, 1) := by decide +kernel
theorem dX8_approve_84 : decode cX8_approve 84 = .ok (.iload_n 1, 1) := by decide +kernel
theorem dX8_approve_85 : decode cX8_approve 85 = .ok (.invokevirtual 137, 3) := by decide +kernel
theorem dX8_approve_88 : decode cX8_approve 88 = .ok (.ireturn, 1) := by decide +kernel
set_option maxRecDepth 20000 in
theorem ggX8_withdraw_X8_isChange : GoodIn wsX8_withdraw wsX8_isChange := goodIn_r _ [8, 9, 10, 11, 7, 12, 61, 62, 63, 64, 65, 66, 67, 68, 69, 70, 71, 72, 73, 74, 75, 76, 77, 78, 79, 80, 81, 82, 83, 84, 85, 86] (by decide +kernel) (by decide +kernel)
set_option maxRecDepth 20000 in
theorem gX8_withdraw_X8_isChange : GoodIn wsX8_withdraw (wsV RX8 128 RX8 yX8_isChange wsX8_isChange) := goodIn_app (goodIn_of _ (by decide +kernel)) ggX8_withdraw_X8_isChange
set_option maxRecDepth 20000 in
theorem ggX8_withdraw_X8_isUser : GoodIn wsX8_withdraw wsX8_isUser := goodIn_r _ [15, 10, 11, 7, 12] (by decide +kernel) (by decide +kernel)
set_option maxRecDepth 20000 in
theorem gX8_withdraw_X8_isUser : GoodIn wsX8_withdraw (va_wsS RX8 117 yX8_isUser wsX8_isUser) := goodIn_app (goodIn_of _ (by decide +kernel)) ggX8_withdraw_X8_isUser
set_option maxRecDepth 20000 in
theorem ggX8_withdraw_X8_fail : GoodIn wsX8_withdraw wsX8_fail := goodIn_r _ [19, 2, 61, 62, 63, 64, 65, 66, 67, 68, 69, 70, 71, 72, 73, 74, 75, 76, 77, 78, 79, 80, 81, 82, 83, 84, 85, 86] (by decide +kernel) (by decide +kernel)
set_option maxRecDepth 20000 in
theorem gX8_withdraw_X8_fail : GoodIn wsX8_withdraw (wsV RX8 121 RX8 yX8_fail wsX8_fail) := goodIn_app (goodIn_of _ (by decide +kernel)) ggX8_withdraw_X8_fail
set_option maxRecDepth 20000 in
theorem ggX8_withdraw_X8_given : GoodIn wsX8_withdraw wsX8_given := goodIn_r _ [23, 3, 61, 62, 63, 64, 65, 66, 67, 68, 69, 70, 71, 72, 73, 74, 75, 76, 77, 78, 79, 80, 81, 82, 83, 84, 85, 86] (by decide +kernel) (by decide +kernel)
set_option maxRecDepth 20000 in
theorem gX8_withdraw_X8_given : GoodIn wsX8_withdraw (wsV RX8 104 RX8 yX8_given wsX8_given) := goodIn_app (goodIn_of _ (by decide +kernel)) ggX8_withdraw_X8_given
set_option maxRecDepth 20000 in
theorem ggX8_withdraw_X8_fresh : GoodIn wsX8_withdraw wsX8_fresh := goodIn_r _ [27, 20, 21, 22, 7, 23, 3, 28, 29, 30, 31, 32, 33, 34, 35, 36, 37, 38, 39, 40, 41, 42, 43, 44, 45, 46, 47, 48, 49, 50, 51, 52, 53, 54, 55, 56, 57, 58, 59, 60, 61, 62, 63, 64, 65, 66, 67, 68, 69, 70, 71, 72, 73, 74, 75, 76, 77, 78, 79, 80, 81, 82, 83, 84, 85, 86] (by decide +kernel) (by decide +kernel)
set_option maxRecDepth 20000 in
theorem gX8_withdraw_X8_fresh : GoodIn wsX8_withdraw (wsV RX8 137 RX8 yX8_fresh wsX8_fresh) := goodIn_app (goodIn_of _ (by decide +kernel)) ggX8_withdraw_X8_fresh
theorem dX8_withdraw_0 : decode cX8_withdraw 0 = .ok (.aload_n 0, 1) := by decide +kernel
theorem dX8_withdraw_1 : decode cX8_withdraw 1 = .ok (.iload_n 1, 1) := by decide +kernel
theorem dX8_withdraw_2 : decode cX8_withdraw 2 = .ok (.invokevirtual 128, 3) := by decide +kernel
theorem dX8_withdraw_5 : decode cX8_withdraw 5 = .ok (.ifCond .eq 10, 3) := by decide +kernel
theorem dX8_withdraw_8 : decode cX8_withdraw 8 = .ok (.iload_n 2, 1) := by decide +kernel
theorem dX8_withdraw_9 : decode cX8_withdraw 9 = .ok (.invokestatic 117, 3) := by decide +kernel
theorem dX8_withdraw_12 : decode cX8_withdraw 12 = .ok (.ifCond .ne 9, 3) := by decide +kernel
theorem dX8_withdraw_15 : decode cX8_withdraw 15 = .ok (.aload_n 0, 1) := by decide +kernel
theorem dX8_withdraw_16 : decode cX8_withdraw 16 = .ok (.iconst 1, 1) := by decide +kernel
theorem dX8_withdraw_17 : decode cX8_withdraw 17 = .ok (.invokevirtual 121, 3) := by decide +kernel
theorem dX8_withdraw_20 : decode cX8_withdraw 20 = .ok (.ireturn, 1) := by decide +kernel
theorem dX8_withdraw_21 : decode cX8_withdraw 21 = .ok (.aload_n 0, 1) := by decide +kernel
theorem dX8_withdraw_22 : decode cX8_withdraw 22 = .ok (.iload_n 1, 1) := by decide +kernel
theorem dX8_withdraw_23 : decode cX8_withdraw 23 = .ok (.iload_n 2, 1) := by decide +kernel
theorem dX8_withdraw_24 : decode cX8_withdraw 24 = .ok (.invokevirtual 104, 3) := by decide +kernel
theorem dX8_withdraw_27 : decode cX8_withdraw 27 = .ok (.ifCond .ge 9, 3) := by decide +kernel
theorem dX8_withdraw_30 : decode cX8_withdraw 30 = .ok (.aload_n 0, 1) := by decide +kernel
theorem dX8_withdraw_31 : decode cX8_withdraw 31 = .ok (.iconst 2, 1) := by decide +kernel
theorem dX8_withdraw_32 : decode cX8_withdraw 32 = .ok (.invokevirtual 121, 3) := by decide +kernel
theorem dX8_withdraw_35 : decode cX8_withdraw 35 = .ok (.ireturn, 1) := by decide +kernel
theorem dX8_withdraw_36 : decode cX8_withdraw 36 = .ok (.aload_n 0, 1) := by decide +kernel
theorem dX8_withdraw_37 : decode cX8_withdraw 37 = .ok (.getfield 37, 3) := by decide +kernel
theorem dX8_withdraw_40 : decode cX8_withdraw 40 = .ok (.iload_n 1, 1) := by decide +kernel
theorem dX8_withdraw_41 : decode cX8_withdraw 41 = .ok (.iaload, 1) := by decide +kernel
theorem dX8_withdraw_42 : decode cX8_withdraw 42 = .ok (.iconst 1, 1) := by decide +kernel
theorem dX8_withdraw_43 : decode cX8_withdraw 43 = .ok (.if_icmp .ne 9, 3) := by decide +kernel
theorem dX8_withdraw_46 : decode cX8_withdraw 46 = .ok (.aload_n 0, 1) := by decide +kernel
theorem dX8_withdraw_47 : decode cX8_withdraw 47 = .ok (.iconst 3, 1) := by decide +kernel
theorem dX8_withdraw_48 : decode cX8_withdraw 48 = .ok (.invokevirtual 121, 3) := by decide +kernel
theorem dX8_withdraw_51 : decode cX8_withdraw 51 = .ok (.ireturn, 1) := by decide +kernel
theorem dX8_withdraw_52 : decode cX8_withdraw 52 = .ok (.aload_n 0, 1) := by decide +kernel
theorem dX8_withdraw_53 : decode cX8_withdraw 53 = .ok (.iconst 0, 1) := by decide +kernel
theorem dX8_withdraw_54 : decode cX8_withdraw 54 = .ok (.putfield 70, 3) := by decide +kernel
theorem dX8_withdraw_57 : decode cX8_withdraw 57 = .ok (.aload_n 0, 1) := by decide +kernel
theorem dX8_withdraw_58 : decode cX8_withdraw 58 = .ok (.getfield 43, 3) := by decide +kernel
theorem dX8_withdraw_61 : decode cX8_withdraw 61 = .ok (.iconst 5, 1) := by decide +kernel
theorem dX8_withdraw_62 : decode cX8_withdraw 62 = .ok (.iload_n 1, 1) := by decide +kernel
theorem dX8_withdraw_63 : decode cX8_withdraw 63 = .ok (.imul, 1) := by decide +kernel
theorem dX8_withdraw_64 : decode cX8_withdraw 64 = .ok (.iload_n 2, 1) := by decide +kernel
theorem dX8_withdraw_65 : decode cX8_withdraw 65 = .ok (.iadd, 1) := by decide +kernel
theorem dX8_withdraw_66 : decode cX8_withdraw 66 = .ok (.iconst 0, 1) := by decide +kernel
theorem dX8_withdraw_67 : decode cX8_withdraw 67 = .ok (.iastore, 1) := by decide +kernel
theorem dX8_withdraw_68 : decode cX8_withdraw 68 = .ok (.aload_n 0, 1) := by decide +kernel
theorem dX8_withdraw_69 : decode cX8_withdraw 69 = .ok (.iload_n 1, 1) := by decide +kernel
theorem dX8_withdraw_70 : decode cX8_withdraw 70 = .ok (.invokevirtual 137, 3) := by decide +kernel
theorem dX8_withdraw_73 : decode cX8_withdraw 73 = .ok (.ireturn, 1) := by decide +kernel
set_option maxRecDepth 20000 in
theorem ggX8_isSame_X8_line : GoodIn wsX8_isSame wsX8_line := goodIn_r _ [5, 6, 7, 8, 9, 10, 11, 12, 13, 14, 15, 16, 17, 18, 19, 20, 21, 22, 23, 24, 25, 26, 27, 28, 29, 30, 31, 32] (by decide +kernel) (by decide +kernel)
set_option maxRecDepth 20000 in
theorem gX8_isSame_X8_line : GoodIn wsX8_isSame (wsV RX8 85 RX8 yX8_line wsX8_line) := goodIn_app (goodIn_of _ (by decide +kernel)) ggX8_isSame_X8_line
theorem dX8_isSame_0 : decode cX8_isSame 0 = .ok (.iload_n 3, 1) := by decide +kernel
theorem dX8_isSame_1 : decode cX8_isSame 1 = .ok (.iload_n 2, 1) := by decide +kernel
theorem dX8_isSame_2 : decode cX8_isSame 2 = .ok (.isub, 1) := by decide +kernel
theorem dX8_isSame_3 : decode cX8_isSame 3 = .ok (.iload 6, 2) := by decide +kernel
theorem dX8_isSame_5 : decode cX8_isSame 5 = .ok (.iload 5, 2) := by decide +kernel
theorem dX8_isSame_7 : decode cX8_isSame 7 = .ok (.isub, 1) := by decide +kernel
theorem dX8_isSame_8 : decode cX8_isSame 8 = .ok (.if_icmp .eq 5, 3) := by decide +kernel
theorem dX8_isSame_11 : decode cX8_isSame 11 = .ok (.iconst 0, 1) := by decide +kernel
theorem dX8_isSame_12 : decode cX8_isSame 12 = .ok (.ireturn, 1) := by decide +kernel
theorem dX8_isSame_13 : decode cX8_isSame 13 = .ok (.iconst 0, 1) := by decide +kernel
theorem dX8_isSame_14 : decode cX8_isSame 14 = .ok (.istore 7, 2) := by decide +kernel
theorem dX8_isSame_16 : decode cX8_isSame 16 = .ok (.iload_n 2, 1) := by decide +kernel
theorem dX8_isSame_17 : decode cX8_isSame 17 = .ok (.iload 7, 2) := by decide +kernel
theorem dX8_isSame_19 : decode cX8_isSame 19 = .ok (.iadd, 1) := by decide +kernel
theorem dX8_isSame_20 : decode cX8_isSame 20 = .ok (.iload_n 3, 1) := by decide +kernel
theorem dX8_isSame_21 : decode cX8_isSame 21 = .ok (.if_icmp .ge 34, 3) := by decide +kernel
theorem dX8_isSame_24 : decode cX8_isSame 24 = .ok (.aload_n 0, 1) := by decide +kernel
theorem dX8_isSame_25 : decode cX8_isSame 25 = .ok (.iload_n 1, 1) := by decide +kernel
theorem dX8_isSame_26 : decode cX8_isSame 26 = .ok (.iload_n 2, 1) := by decide +kernel
theorem dX8_isSame_27 : decode cX8_isSame 27 = .ok (.iload 7, 2) := by decide +kernel
theorem dX8_isSame_29 : decode cX8_isSame 29 = .ok (.iadd, 1) := by decide +kernel
theorem dX8_isSame_30 : decode cX8_isSame 30 = .ok (.invokevirtual 85, 3) := by decide +kernel
theorem dX8_isSame_33 : decode cX8_isSame 33 = .ok (.aload_n 0, 1) := by decide +kernel
theorem dX8_isSame_34 : decode cX8_isSame 34 = .ok (.iload 4, 2) := by decide +kernel
theorem dX8_isSame_36 : decode cX8_isSame 36 = .ok (.iload 5, 2) := by decide +kernel
theorem dX8_isSame_38 : decode cX8_isSame 38 = .ok (.iload 7, 2) := by decide +kernel
theorem dX8_isSame_40 : decode cX8_isSame 40 = .ok (.iadd, 1) := by decide +kernel
theorem dX8_isSame_41 : decode cX8_isSame 41 = .ok (.invokevirtual 85, 3) := by decide +kernel
theorem dX8_isSame_44 : decode cX8_isSame 44 = .ok (.if_icmp .eq 5, 3) := by decide +kernel
theorem dX8_isSame_47 : decode cX8_isSame 47 = .ok (.iconst 0, 1) := by decide +kernel
theorem dX8_isSame_48 : decode cX8_isSame 48 = .ok (.ireturn, 1) := by decide +kernel
theorem dX8_isSame_49 : decode cX8_isSame 49 = .ok (.iinc 7 1, 3) := by decide +kernel
theorem dX8_isSame_52 : decode cX8_isSame 52 = .ok (.goto (-36), 3) := by decide +kernel
theorem dX8_isSame_55 : decode cX8_isSame 55 = .ok (.iconst 1, 1) := by decide +kernel
theorem dX8_isSame_56 : decode cX8_isSame 56 = .ok (.ireturn, 1) := by decide +kernel
set_option maxRecDepth 20000 in
theorem ggX8_adds_X8_line : GoodIn wsX8_adds wsX8_line := goodIn_r _ [7, 2, 8, 9, 10, 11, 12, 13, 14, 15, 16, 17, 18, 19, 20, 21, 22, 23, 24, 25, 26, 27, 28, 29, 30, 31, 32, 33] (by decide +kernel) (by decide +kernel)
set_option maxRecDepth 20000 in
theorem gX8_adds_X8_line : GoodIn wsX8_adds (wsV RX8 85 RX8 yX8_line wsX8_line) := goodIn_app (goodIn_of _ (by decide +kernel)) ggX8_adds_X8_line
theorem dX8_adds_0 : decode cX8_adds 0 = .ok (.iload_n 2, 1) := by decide +kernel
theorem dX8_adds_1 : decode cX8_adds 1 = .ok (.istore 4, 2) := by decide +kernel
theorem dX8_adds_3 : decode cX8_adds 3 = .ok (.iload 4, 2) := by decide +kernel
theorem dX8_adds_5 : decode cX8_adds 5 = .ok (.iload_n 3, 1) := by decide +kernel
theorem dX8_adds_6 : decode cX8_adds 6 = .ok (.if_icmp .ge 48, 3) := by decide +kernel
theorem dX8_adds_9 : decode cX8_adds 9 = .ok (.aload_n 0, 1) := by decide +kernel
theorem dX8_adds_10 : decode cX8_adds 10 = .ok (.getfield 140, 3) := by decide +kernel
theorem dX8_adds_13 : decode cX8_adds 13 = .ok (.bipush 12, 2) := by decide +kernel
theorem dX8_adds_15 : decode cX8_adds 15 = .ok (.if_icmp .ge 23, 3) := by decide +kernel
theorem dX8_adds_18 : decode cX8_adds 18 = .ok (.aload_n 0, 1) := by decide +kernel
theorem dX8_adds_19 : decode cX8_adds 19 = .ok (.getfield 7, 3) := by decide +kernel
theorem dX8_adds_22 : decode cX8_adds 22 = .ok (.sipush 300, 3) := by decide +kernel
theorem dX8_adds_25 : decode cX8_adds 25 = .ok (.aload_n 0, 1) := by decide +kernel
theorem dX8_adds_26 : decode cX8_adds 26 = .ok (.getfield 140, 3) := by decide +kernel
theorem dX8_adds_29 : decode cX8_adds 29 = .ok (.iadd, 1) := by decide +kernel
theorem dX8_adds_30 : decode cX8_adds 30 = .ok (.aload_n 0, 1) := by decide +kernel
theorem dX8_adds_31 : decode cX8_adds 31 = .ok (.iload_n 1, 1) := by decide +kernel
theorem dX8_adds_32 : decode cX8_adds 32 = .ok (.iload 4, 2) := by decide +kernel
theorem dX8_adds_34 : decode cX8_adds 34 = .ok (.invokevirtual 85, 3) := by decide +kernel
theorem dX8_adds_37 : decode cX8_adds 37 = .ok (.iastore, 1) := by decide +kernel
theorem dX8_adds_38 : decode cX8_adds 38 = .ok (.aload_n 0, 1) := by decide +kernel
theorem dX8_adds_39 : decode cX8_adds 39 = .ok (.dup, 1) := by decide +kernel
theorem dX8_adds_40 : decode cX8_adds 40 = .ok (.getfield 140, 3) := by decide +kernel
theorem dX8_adds_43 : decode cX8_adds 43 = .ok (.iconst 1, 1) := by decide +kernel
theorem dX8_adds_44 : decode cX8_adds 44 = .ok (.iadd, 1) := by decide +kernel
theorem dX8_adds_45 : decode cX8_adds 45 = .ok (.putfield 140, 3) := by decide +kernel
theorem dX8_adds_48 : decode cX8_adds 48 = .ok (.iinc 4 1, 3) := by decide +kernel
theorem dX8_adds_51 : decode cX8_adds 51 = .ok (.goto (-48), 3) := by decide +kernel
theorem dX8_adds_54 : decode cX8_adds 54 = .ok (.return_, 1) := by decide +kernel
set_option maxRecDepth 20000 in
theorem ggX8_merges_X8_present : GoodIn wsX8_merges wsX8_present := goodIn_r _ [9, 10, 11, 12, 8, 13, 33, 34, 35, 36, 37, 38, 39, 40, 41, 42, 43, 44, 45, 46, 47, 48, 49, 50, 51, 52, 53, 54, 55, 56, 57, 58] (by decide +kernel) (by decide +kernel)
set_option maxRecDepth 20000 in
theorem gX8_merges_X8_present : GoodIn wsX8_merges (wsV RX8 98 RX8 yX8_present wsX8_present) := goodIn_app (goodIn_of _ (by decide +kernel)) ggX8_merges_X8_present
set_option maxRecDepth 20000 in
theorem ggX8_merges_X8_scripts : GoodIn wsX8_merges wsX8_scripts := goodIn_r _ [17, 4, 18, 2, 19, 20, 21, 22, 8, 23, 24, 33, 34, 35, 36, 37, 38, 39, 40, 41, 42, 43, 44, 45, 46, 47, 48, 49, 50, 51, 52, 53, 54, 55, 56, 57, 58] (by decide +kernel) (by decide +kernel)
set_option maxRecDepth 20000 in
theorem gX8_merges_X8_scripts : GoodIn wsX8_merges (wsV RX8 91 RX8 yX8_scripts wsX8_scripts) := goodIn_app (goodIn_of _ (by decide +kernel)) ggX8_merges_X8_scripts
set_option maxRecDepth 20000 in
theorem ggX8_merges_X8_isSame : GoodIn wsX8_merges wsX8_isSame := goodIn_r _ [28, 20, 21, 22, 8, 23, 24, 33, 34, 35, 36, 37, 38, 39, 40, 41, 42, 43, 44, 45, 46, 47, 48, 49, 50, 51, 52, 53, 54, 55, 56, 57, 58] (by decide +kernel) (by decide +kernel)
set_option maxRecDepth 20000 in
theorem gX8_merges_X8_isSame : GoodIn wsX8_merges (wsV RX8 143 RX8 yX8_isSame wsX8_isSame) := goodIn_app (goodIn_of _ (by decide +kernel)) ggX8_merges_X8_isSame
set_option maxRecDepth 20000 in
theorem ggX8_merges_X8_adds : GoodIn wsX8_merges wsX8_adds := goodIn_r _ [32, 3, 24, 20, 21, 22, 8, 23, 33, 34, 35, 36, 37, 38, 39, 40, 41, 42, 43, 44, 45, 46, 47, 48, 49, 50, 51, 52, 53, 54, 55, 56, 57, 58] (by decide +kernel) (by decide +kernel)
set_option maxRecDepth 20000 in
theorem gX8_merges_X8_adds : GoodIn wsX8_merges (wsV RX8 147 RX8 yX8_adds wsX8_adds) := goodIn_app (goodIn_of _ (by decide +kernel)) ggX8_merges_X8_adds
theorem dX8_merges_0 : decode cX8_merges 0 = .ok (.iconst 1, 1) := by decide +kernel
theorem dX8_merges_1 : decode cX8_merges 1 = .ok (.iload_n 1, 1) := by decide +kernel
theorem dX8_merges_2 : decode cX8_merges 2 = .ok (.iadd, 1) := by decide +kernel
theorem dX8_merges_3 : decode cX8_merges 3 = .ok (.istore_n 2, 1) := by decide +kernel
theorem dX8_merges_4 : decode cX8_merges 4 = .ok (.aload_n 0, 1) := by decide +kernel
theorem dX8_merges_5 : decode cX8_merges 5 = .ok (.iload_n 1, 1) := by decide +kernel
theorem dX8_merges_6 : decode cX8_merges 6 = .ok (.invokevirtual 98, 3) := by decide +kernel
theorem dX8_merges_9 : decode cX8_merges 9 = .ok (.istore_n 3, 1) := by decide +kernel
theorem dX8_merges_10 : decode cX8_merges 10 = .ok (.iconst 0, 1) := by decide +kernel
theorem dX8_merges_11 : decode cX8_merges 11 = .ok (.istore 4, 2) := by decide +kernel
theorem dX8_merges_13 : decode cX8_merges 13 = .ok (.iconst 0, 1) := by decide +kernel
theorem dX8_merges_14 : decode cX8_merges 14 = .ok (.istore 5, 2) := by decide +kernel
theorem dX8_merges_16 : decode cX8_merges 16 = .ok (.iconst 0, 1) := by decide +kernel
theorem dX8_merges_17 : decode cX8_merges 17 = .ok (.istore 6, 2) := by decide +kernel
theorem dX8_merges_19 : decode cX8_merges 19 = .ok (.aload_n 0, 1) := by decide +kernel
theorem dX8_merges_20 : decode cX8_merges 20 = .ok (.iload_n 2, 1) := by decide +kernel
theorem dX8_merges_21 : decode cX8_merges 21 = .ok (.iconst 0, 1) := by decide +kernel
theorem dX8_merges_22 : decode cX8_merges 22 = .ok (.invokevirtual 91, 3) := by decide +kernel
theorem dX8_merges_25 : decode cX8_merges 25 = .ok (.istore 7, 2) := by decide +kernel
theorem dX8_merges_27 : decode cX8_merges 27 = .ok (.iconst 0, 1) := by decide +kernel
theorem dX8_merges_28 : decode cX8_merges 28 = .ok (.istore 8, 2) := by decide +kernel
theorem dX8_merges_30 : decode cX8_merges 30 = .ok (.iload 8, 2) := by decide +kernel
theorem dX8_merges_32 : decode cX8_merges 32 = .ok (.bipush 12, 2) := by decide +kernel
theorem dX8_merges_34 : decode cX8_merges 34 = .ok (.if_icmp .ge 23, 3) := by decide +kernel
theorem dX8_merges_37 : decode cX8_merges 37 = .ok (.aload_n 0, 1) := by decide +kernel
theorem dX8_merges_38 : decode cX8_merges 38 = .ok (.getfield 67, 3) := by decide +kernel
theorem dX8_merges_41 : decode cX8_merges 41 = .ok (.iload 8, 2) := by decide +kernel
theorem dX8_merges_43 : decode cX8_merges 43 = .ok (.aload_n 0, 1) := by decide +kernel
theorem dX8_merges_44 : decode cX8_merges 44 = .ok (.getfield 61, 3) := by decide +kernel
theorem dX8_merges_47 : decode cX8_merges 47 = .ok (.iload 8, 2) := by decide +kernel
theorem dX8_merges_49 : decode cX8_merges 49 = .ok (.iaload, 1) := by decide +kernel
theorem dX8_merges_50 : decode cX8_merges 50 = .ok (.iastore, 1) := by decide +kernel
theorem dX8_merges_51 : decode cX8_merges 51 = .ok (.iinc 8 1, 3) := by decide +kernel
theorem dX8_merges_54 : decode cX8_merges 54 = .ok (.goto (-24), 3) := by decide +kernel
theorem dX8_merges_57 : decode cX8_merges 57 = .ok (.iload 7, 2) := by decide +kernel
theorem dX8_merges_59 : decode cX8_merges 59 = .ok (.aload_n 0, 1) := by decide +kernel
theorem dX8_merges_60 : decode cX8_merges 60 = .ok (.iload_n 2, 1) := by decide +kernel
theorem dX8_merges_61 : decode cX8_merges 61 = .ok (.iload_n 3, 1) := by decide +kernel
theorem dX8_merges_62 : decode cX8_merges 62 = .ok (.invokevirtual 91, 3) := by decide +kernel
theorem dX8_merges_65 : decode cX8_merges 65 = .ok (.iadd, 1) := by decide +kernel
theorem dX8_merges_66 : decode cX8_merges 66 = .ok (.istore 7, 2) := by decide +kernel
theorem dX8_merges_68 : decode cX8_merges 68 = .ok (.aload_n 0, 1) := by decide +kernel
theorem dX8_merges_69 : decode cX8_merges 69 = .ok (.iconst 0, 1) := by decide +kernel
theorem dX8_merges_70 : decode cX8_merges 70 = .ok (.putfield 140, 3) := by decide +kernel
theorem dX8_merges_73 : decode cX8_merges 73 = .ok (.iconst 0, 1) := by decide +kernel
theorem dX8_merges_74 : decode cX8_merges 74 = .ok (.istore 8, 2) := by decide +kernel
theorem dX8_merges_76 : decode cX8_merges 76 = .ok (.iload 8, 2) := by decide +kernel
theorem dX8_merges_78 : decode cX8_merges 78 = .ok (.aload_n 0, 1) := by decide +kernel
theorem dX8_merges_79 : decode cX8_merges 79 = .ok (.getfield 13, 3) := by decide +kernel
theorem dX8_merges_82 : decode cX8_merges 82 = .ok (.iload_n 2, 1) := by decide +kernel
theorem dX8_merges_83 : decode cX8_merges 83 = .ok (.iaload, 1) := by decide +kernel
theorem dX8_merges_84 : decode cX8_merges 84 = .ok (.if_icmp .gt 230, 3) := by decide +kernel
theorem dX8_merges_87 : decode cX8_merges 87 = .ok (.iload 8, 2) := by decide +kernel
theorem dX8_merges_89 : decode cX8_merges 89 = .ok (.aload_n 0, 1) := by decide +kernel
theorem dX8_merges_90 : decode cX8_merges 90 = .ok (.getfield 13, 3) := by decide +kernel
theorem dX8_merges_93 : decode cX8_merges 93 = .ok (.iload_n 2, 1) := by decide +kernel
theorem dX8_merges_94 : decode cX8_merges 94 = .ok (.iaload, 1) := by decide +kernel
theorem dX8_merges_95 : decode cX8_merges 95 = .ok (.if_icmp .ne 7, 3) := by decide +kernel
theorem dX8_merges_98 : decode cX8_merges 98 = .ok (.iconst 1, 1) := by decide +kernel
theorem dX8_merges_99 : decode cX8_merges 99 = .ok (.goto 4, 3) := by decide +kernel
theorem dX8_merges_102 : decode cX8_merges 102 = .ok (.iconst 0, 1) := by decide +kernel
theorem dX8_merges_103 : decode cX8_merges 103 = .ok (.istore 9, 2) := by decide +kernel
theorem dX8_merges_105 : decode cX8_merges 105 = .ok (.iload 9, 2) := by decide +kernel
theorem dX8_merges_107 : decode cX8_merges 107 = .ok (.ifCond .ne 26, 3) := by decide +kernel
theorem dX8_merges_110 : decode cX8_merges 110 = .ok (.aload_n 0, 1) := by decide +kernel
theorem dX8_merges_111 : decode cX8_merges 111 = .ok (.getfield 67, 3) := by decide +kernel
theorem dX8_merges_114 : decode cX8_merges 114 = .ok (.iload 8, 2) := by decide +kernel
theorem dX8_merges_116 : decode cX8_merges 116 = .ok (.iaload, 1) := by decide +kernel
theorem dX8_merges_117 : decode cX8_merges 117 = .ok (.ifCond .lt 191, 3) := by decide +kernel
theorem dX8_merges_120 : decode cX8_merges 120 = .ok (.aload_n 0, 1) := by decide +kernel
theorem dX8_merges_121 : decode cX8_merges 121 = .ok (.getfield 61, 3) := by decide +kernel
theorem dX8_merges_124 : decode cX8_merges 124 = .ok (.iload 8, 2) := by decide +kernel
theorem dX8_merges_126 : decode cX8_merges 126 = .ok (.iaload, 1) := by decide +kernel
theorem dX8_merges_127 : decode cX8_merges 127 = .ok (.ifCond .ge 6, 3) := by decide +kernel
theorem dX8_merges_130 : decode cX8_merges 130 = .ok (.goto 178, 3) := by decide +kernel
theorem dX8_merges_133 : decode cX8_merges 133 = .ok (.iload 9, 2) := by decide +kernel
theorem dX8_merges_135 : decode cX8_merges 135 = .ok (.ifCond .eq 12, 3) := by decide +kernel
theorem dX8_merges_138 : decode cX8_merges 138 = .ok (.aload_n 0, 1) := by decide +kernel
theorem dX8_merges_139 : decode cX8_merges 139 = .ok (.getfield 13, 3) := by decide +kernel
theorem dX8_merges_142 : decode cX8_merges 142 = .ok (.iconst 0, 1) := by decide +kernel
theorem dX8_merges_143 : decode cX8_merges 143 = .ok (.iaload, 1) := by decide +kernel
theorem dX8_merges_144 : decode cX8_merges 144 = .ok (.goto 10, 3) := by decide +kernel
theorem dX8_merges_147 : decode cX8_merges 147 = .ok (.aload_n 0, 1) := by decide +kernel
theorem dX8_merges_148 : decode cX8_merges 148 = .ok (.getfield 67, 3) := by decide +kernel
theorem dX8_merges_151 : decode cX8_merges 151 = .ok (.iload 8, 2) := by decide +kernel
theorem dX8_merges_153 : decode cX8_merges 153 = .ok (.iaload, 1) := by decide +kernel
theorem dX8_merges_154 : decode cX8_merges 154 = .ok (.istore 10, 2) := by decide +kernel
theorem dX8_merges_156 : decode cX8_merges 156 = .ok (.iload 9, 2) := by decide +kernel
theorem dX8_merges_158 : decode cX8_merges 158 = .ok (.ifCond .eq 12, 3) := by decide +kernel
theorem dX8_merges_161 : decode cX8_merges 161 = .ok (.aload_n 0, 1) := by decide +kernel
theorem dX8_merges_162 : decode cX8_merges 162 = .ok (.getfield 13, 3) := by decide +kernel
theorem dX8_merges_165 : decode cX8_merges 165 = .ok (.iload_n 3, 1) := by decide +kernel
theorem dX8_merges_166 : decode cX8_merges 166 = .ok (.iaload, 1) := by decide +kernel
theorem dX8_merges_167 : decode cX8_merges 167 = .ok (.goto 10, 3) := by decide +kernel
theorem dX8_merges_170 : decode cX8_merges 170 = .ok (.aload_n 0, 1) := by decide +kernel
theorem dX8_merges_171 : decode cX8_merges 171 = .ok (.getfield 61, 3) := by decide +kernel
theorem dX8_merges_174 : decode cX8_merges 174 = .ok (.iload 8, 2) := by decide +kernel
theorem dX8_merges_176 : decode cX8_merges 176 = .ok (.iaload, 1) := by decide +kernel
theorem dX8_merges_177 : decode cX8_merges 177 = .ok (.istore 11, 2) := by decide +kernel
theorem dX8_merges_179 : decode cX8_merges 179 = .ok (.aload_n 0, 1) := by decide +kernel
theorem dX8_merges_180 : decode cX8_merges 180 = .ok (.iconst 0, 1) := by decide +kernel
theorem dX8_merges_181 : decode cX8_merges 181 = .ok (.iload 5, 2) := by decide +kernel
theorem dX8_merges_183 : decode cX8_merges 183 = .ok (.iload 10, 2) := by decide +kernel
theorem dX8_merges_185 : decode cX8_merges 185 = .ok (.iload_n 2, 1) := by decide +kernel
theorem dX8_merges_186 : decode cX8_merges 186 = .ok (.iload 4, 2) := by decide +kernel
theorem dX8_merges_188 : decode cX8_merges 188 = .ok (.iload 8, 2) := by decide +kernel
theorem dX8_merges_190 : decode cX8_merges 190 = .ok (.invokevirtual 143, 3) := by decide +kernel
theorem dX8_merges_193 : decode cX8_merges 193 = .ok (.istore 12, 2) := by decide +kernel
theorem dX8_merges_195 : decode cX8_merges 195 = .ok (.aload_n 0, 1) := by decide +kernel
theorem dX8_merges_196 : decode cX8_merges 196 = .ok (.iload_n 3, 1) := by decide +kernel
theorem dX8_merges_197 : decode cX8_merges 197 = .ok (.iload 6, 2) := by decide +kernel
theorem dX8_merges_199 : decode cX8_merges 199 = .ok (.iload 11, 2) := by decide +kernel
theorem dX8_merges_201 : decode cX8_merges 201 = .ok (.iload_n 2, 1) := by decide +kernel
theorem dX8_merges_202 : decode cX8_merges 202 = .ok (.iload 4, 2) := by decide +kernel
theorem dX8_merges_204 : decode cX8_merges 204 = .ok (.iload 8, 2) := by decide +kernel
theorem dX8_merges_206 : decode cX8_merges 206 = .ok (.invokevirtual 143, 3) := by decide +kernel
theorem dX8_merges_209 : decode cX8_merges 209 = .ok (.ifCond .ne 20, 3) := by decide +kernel
theorem dX8_merges_212 : decode cX8_merges 212 = .ok (.aload_n 0, 1) := by decide +kernel
theorem dX8_merges_213 : decode cX8_merges 213 = .ok (.iload_n 3, 1) := by decide +kernel
theorem dX8_merges_214 : decode cX8_merges 214 = .ok (.iload 6, 2) := by decide +kernel
theorem dX8_merges_216 : decode cX8_merges 216 = .ok (.iload 11, 2) := by decide +kernel
theorem dX8_merges_218 : decode cX8_merges 218 = .ok (.iconst 0, 1) := by decide +kernel
theorem dX8_merges_219 : decode cX8_merges 219 = .ok (.iload 5, 2) := by decide +kernel
theorem dX8_merges_221 : decode cX8_merges 221 = .ok (.iload 10, 2) := by decide +kernel
theorem dX8_merges_223 : decode cX8_merges 223 = .ok (.invokevirtual 143, 3) := by decide +kernel
theorem dX8_merges_226 : decode cX8_merges 226 = .ok (.ifCond .eq 7, 3) := by decide +kernel
theorem dX8_merges_229 : decode cX8_merges 229 = .ok (.iconst 1, 1) := by decide +kernel
theorem dX8_merges_230 : decode cX8_merges 230 = .ok (.goto 4, 3) := by decide +kernel
theorem dX8_merges_233 : decode cX8_merges 233 = .ok (.iconst 0, 1) := by decide +kernel
theorem dX8_merges_234 : decode cX8_merges 234 = .ok (.istore 13, 2) := by decide +kernel
theorem dX8_merges_236 : decode cX8_merges 236 = .ok (.iload 12, 2) := by decide +kernel
theorem dX8_merges_238 : decode cX8_merges 238 = .ok (.ifCond .ne 10, 3) := by decide +kernel
theorem dX8_merges_241 : decode cX8_merges 241 = .ok (.iload 13, 2) := by decide +kernel
theorem dX8_merges_243 : decode cX8_merges 243 = .ok (.ifCond .ne 5, 3) := by decide +kernel
theorem dX8_merges_246 : decode cX8_merges 246 = .ok (.iconst 0, 1) := by decide +kernel
theorem dX8_merges_247 : decode cX8_merges 247 = .ok (.ireturn, 1) := by decide +kernel
theorem dX8_merges_248 : decode cX8_merges 248 = .ok (.iload 12, 2) := by decide +kernel
theorem dX8_merges_250 : decode cX8_merges 250 = .ok (.ifCond .eq 15, 3) := by decide +kernel
theorem dX8_merges_253 : decode cX8_merges 253 = .ok (.aload_n 0, 1) := by decide +kernel
theorem dX8_merges_254 : decode cX8_merges 254 = .ok (.iload_n 3, 1) := by decide +kernel
theorem dX8_merges_255 : decode cX8_merges 255 = .ok (.iload 6, 2) := by decide +kernel
theorem dX8_merges_257 : decode cX8_merges 257 = .ok (.iload 11, 2) := by decide +kernel
theorem dX8_merges_259 : decode cX8_merges 259 = .ok (.invokevirtual 147, 3) := by decide +kernel
theorem dX8_merges_262 : decode cX8_merges 262 = .ok (.goto 12, 3) := by decide +kernel
theorem dX8_merges_265 : decode cX8_merges 265 = .ok (.aload_n 0, 1) := by decide +kernel
theorem dX8_merges_266 : decode cX8_merges 266 = .ok (.iconst 0, 1) := by decide +kernel
theorem dX8_merges_267 : decode cX8_merges 267 = .ok (.iload 5, 2) := by decide +kernel
theorem dX8_merges_269 : decode cX8_merges 269 = .ok (.iload 10, 2) := by decide +kernel
theorem dX8_merges_271 : decode cX8_merges 271 = .ok (.invokevirtual 147, 3) := by decide +kernel
theorem dX8_merges_274 : decode cX8_merges 274 = .ok (.iload 9, 2) := by decide +kernel
theorem dX8_merges_276 : decode cX8_merges 276 = .ok (.ifCond .ne 14, 3) := by decide +kernel
theorem dX8_merges_279 : decode cX8_merges 279 = .ok (.aload_n 0, 1) := by decide +kernel
theorem dX8_merges_280 : decode cX8_merges 280 = .ok (.iload_n 2, 1) := by decide +kernel
theorem dX8_merges_281 : decode cX8_merges 281 = .ok (.iload 8, 2) := by decide +kernel
theorem dX8_merges_283 : decode cX8_merges 283 = .ok (.iload 8, 2) := by decide +kernel
theorem dX8_merges_285 : decode cX8_merges 285 = .ok (.iconst 1, 1) := by decide +kernel
theorem dX8_merges_286 : decode cX8_merges 286 = .ok (.iadd, 1) := by decide +kernel
theorem dX8_merges_287 : decode cX8_merges 287 = .ok (.invokevirtual 147, 3) := by decide +kernel
theorem dX8_merges_290 : decode cX8_merges 290 = .ok (.iload 8, 2) := by decide +kernel
theorem dX8_merges_292 : decode cX8_merges 292 = .ok (.iconst 1, 1) := by decide +kernel
theorem dX8_merges_293 : decode cX8_merges 293 = .ok (.iadd, 1) := by decide +kernel
theorem dX8_merges_294 : decode cX8_merges 294 = .ok (.istore 4, 2) := by decide +kernel
theorem dX8_merges_296 : decode cX8_merges 296 = .ok (.iload 10, 2) := by decide +kernel
theorem dX8_merges_298 : decode cX8_merges 298 = .ok (.iconst 1, 1) := by decide +kernel
theorem dX8_merges_299 : decode cX8_merges 299 = .ok (.iadd, 1) := by decide +kernel
theorem dX8_merges_300 : decode cX8_merges 300 = .ok (.istore 5, 2) := by decide +kernel
theorem dX8_merges_302 : decode cX8_merges 302 = .ok (.iload 11, 2) := by decide +kernel
theorem dX8_merges_304 : decode cX8_merges 304 = .ok (.iconst 1, 1) := by decide +kernel
theorem dX8_merges_305 : decode cX8_merges 305 = .ok (.iadd, 1) := by decide +kernel
theorem dX8_merges_306 : decode cX8_merges 306 = .ok (.istore 6, 2) := by decide +kernel
theorem dX8_merges_308 : decode cX8_merges 308 = .ok (.iinc 8 1, 3) := by decide +kernel
theorem dX8_merges_311 : decode cX8_merges 311 = .ok (.goto (-235), 3) := by decide +kernel
theorem dX8_merges_314 : decode cX8_merges 314 = .ok (.iload 7, 2) := by decide +kernel
theorem dX8_merges_316 : decode cX8_merges 316 = .ok (.ifCond .lt 7, 3) := by decide +kernel
theorem dX8_merges_319 : decode cX8_merges 319 = .ok (.iconst 1, 1) := by decide +kernel
theorem dX8_merges_320 : decode cX8_merges 320 = .ok (.goto 4, 3) := by decide +kernel
theorem dX8_merges_323 : decode cX8_merges 323 = .ok (.iconst 0, 1) := by decide +kernel
theorem dX8_merges_324 : decode cX8_merges 324 = .ok (.ireturn, 1) := by decide +kernel
set_option maxRecDepth 20000 in
theorem ggX8_against_X8_opens : GoodIn wsX8_against wsX8_opens := goodIn_r _ [10, 11, 12, 13, 77, 78, 79, 80, 81, 82, 83, 84, 85, 86, 87, 88, 89, 90, 91, 92, 93, 94, 95, 96, 97, 98, 99, 100, 101, 102] (by decide +kernel) (by decide +kernel)
set_option maxRecDepth 20000 in
theorem gX8_against_X8_opens : GoodIn wsX8_against (wsV RX8 134 RX8 yX8_opens wsX8_opens) := goodIn_app (goodIn_of _ (by decide +kernel)) ggX8_against_X8_opens
set_option maxRecDepth 20000 in
theorem ggX8_against_X8_lacking : GoodIn wsX8_against wsX8_lacking := goodIn_r _ [17, 18, 19, 20, 9, 21, 2, 22, 23, 24, 25, 26, 27, 28, 29, 30, 31, 32, 33, 34, 35, 36, 37, 38, 39, 40, 41, 42, 43, 44, 45, 46, 47, 48, 49, 50, 51, 52, 53, 54, 55, 56, 57, 58, 59, 60, 61, 62, 63, 77, 78, 79, 80, 81, 82, 83, 84, 85, 86, 87, 88, 89, 90, 91, 92, 93, 94, 95, 96, 97, 98, 99, 100, 101, 102] (by decide +kernel) (by decide +kernel)
set_option maxRecDepth 20000 in
theorem gX8_against_X8_lacking : GoodIn wsX8_against (wsV RX8 151 RX8 yX8_lacking wsX8_lacking) := goodIn_app (goodIn_of _ (by decide +kernel)) ggX8_against_X8_lacking
set_option maxRecDepth 20000 in
theorem ggX8_against_X8_merges : GoodIn wsX8_against wsX8_merges := goodIn_r _ [67, 68, 35, 5, 34, 23, 24, 25, 9, 26, 2, 27, 28, 29, 37, 38, 39, 40, 41, 36, 42, 43, 44, 45, 46, 69, 70, 71, 72, 73, 74, 75, 76, 77, 78, 79, 80, 81, 82, 83, 84, 85, 86, 87, 88, 89, 90, 91, 92, 93, 94, 95, 96, 97, 98, 99, 100, 101, 102] (by decide +kernel) (by decide +kernel)
set_option maxRecDepth 20000 in
theorem gX8_against_X8_merges : GoodIn wsX8_against (wsV RX8 154 RX8 yX8_merges wsX8_merges) := goodIn_app (goodIn_of _ (by decide +kernel)) ggX8_against_X8_merges
theorem dX8_against_0 : decode cX8_against 0 = .ok (.aload_n 0, 1) := by decide +kernel
theorem dX8_against_1 : decode cX8_against 1 = .ok (.getfield 37, 3) := by decide +kernel
theorem dX8_against_4 : decode cX8_against 4 = .ok (.iload_n 1, 1) := by decide +kernel
theorem dX8_against_5 : decode cX8_against 5 = .ok (.iaload, 1) := by decide +kernel
theorem dX8_against_6 : decode cX8_against 6 = .ok (.iconst 1, 1) := by decide +kernel
theorem dX8_against_7 : decode cX8_against 7 = .ok (.if_icmp .ne 6, 3) := by decide +kernel
theorem dX8_against_10 : decode cX8_against 10 = .ok (.bipush 108, 2) := by decide +kernel
theorem dX8_against_12 : decode cX8_against 12 = .ok (.ireturn, 1) := by decide +kernel
theorem dX8_against_13 : decode cX8_against 13 = .ok (.aload_n 0, 1) := by decide +kernel
theorem dX8_against_14 : decode cX8_against 14 = .ok (.getfield 28, 3) := by decide +kernel
theorem dX8_against_17 : decode cX8_against 17 = .ok (.iload_n 1, 1) := by decide +kernel
theorem dX8_against_18 : decode cX8_against 18 = .ok (.iaload, 1) := by decide +kernel
theorem dX8_against_19 : decode cX8_against 19 = .ok (.ifCond .ne 6, 3) := by decide +kernel
theorem dX8_against_22 : decode cX8_against 22 = .ok (.bipush 114, 2) := by decide +kernel
theorem dX8_against_24 : decode cX8_against 24 = .ok (.ireturn, 1) := by decide +kernel
theorem dX8_against_25 : decode cX8_against 25 = .ok (.iconst 0, 1) := by decide +kernel
theorem dX8_against_26 : decode cX8_against 26 = .ok (.istore_n 2, 1) := by decide +kernel
theorem dX8_against_27 : decode cX8_against 27 = .ok (.iload_n 2, 1) := by decide +kernel
theorem dX8_against_28 : decode cX8_against 28 = .ok (.aload_n 0, 1) := by decide +kernel
theorem dX8_against_29 : decode cX8_against 29 = .ok (.getfield 74, 3) := by decide +kernel
theorem dX8_against_32 : decode cX8_against 32 = .ok (.if_icmp .ge 35, 3) := by decide +kernel
theorem dX8_against_35 : decode cX8_against 35 = .ok (.aload_n 0, 1) := by decide +kernel
theorem dX8_against_36 : decode cX8_against 36 = .ok (.getfield 31, 3) := by decide +kernel
theorem dX8_against_39 : decode cX8_against 39 = .ok (.iload_n 1, 1) := by decide +kernel
theorem dX8_against_40 : decode cX8_against 40 = .ok (.iaload, 1) := by decide +kernel
theorem dX8_against_41 : decode cX8_against 41 = .ok (.iload_n 2, 1) := by decide +kernel
theorem dX8_against_42 : decode cX8_against 42 = .ok (.ishr, 1) := by decide +kernel
theorem dX8_against_43 : decode cX8_against 43 = .ok (.iconst 1, 1) := by decide +kernel
theorem dX8_against_44 : decode cX8_against 44 = .ok (.iand, 1) := by decide +kernel
theorem dX8_against_45 : decode cX8_against 45 = .ok (.iconst 1, 1) := by decide +kernel
theorem dX8_against_46 : decode cX8_against 46 = .ok (.if_icmp .ne 15, 3) := by decide +kernel
theorem dX8_against_49 : decode cX8_against 49 = .ok (.aload_n 0, 1) := by decide +kernel
theorem dX8_against_50 : decode cX8_against 50 = .ok (.getfield 37, 3) := by decide +kernel
theorem dX8_against_53 : decode cX8_against 53 = .ok (.iload_n 2, 1) := by decide +kernel
theorem dX8_against_54 : decode cX8_against 54 = .ok (.iaload, 1) := by decide +kernel
theorem dX8_against_55 : decode cX8_against 55 = .ok (.ifCond .ne 6, 3) := by decide +kernel
theorem dX8_against_58 : decode cX8_against 58 = .ok (.bipush 100, 2) := by decide +kernel
theorem dX8_against_60 : decode cX8_against 60 = .ok (.ireturn, 1) := by decide +kernel
theorem dX8_against_61 : decode cX8_against 61 = .ok (.iinc 2 1, 3) := by decide +kernel
theorem dX8_against_64 : decode cX8_against 64 = .ok (.goto (-37), 3) := by decide +kernel
theorem dX8_against_67 : decode cX8_against 67 = .ok (.aload_n 0, 1) := by decide +kernel
theorem dX8_against_68 : decode cX8_against 68 = .ok (.iload_n 1, 1) := by decide +kernel
theorem dX8_against_69 : decode cX8_against 69 = .ok (.invokevirtual 134, 3) := by decide +kernel
theorem dX8_against_72 : decode cX8_against 72 = .ok (.ifCond .le 6, 3) := by decide +kernel
theorem dX8_against_75 : decode cX8_against 75 = .ok (.bipush 99, 2) := by decide +kernel
theorem dX8_against_77 : decode cX8_against 77 = .ok (.ireturn, 1) := by decide +kernel
theorem dX8_against_78 : decode cX8_against 78 = .ok (.aload_n 0, 1) := by decide +kernel
theorem dX8_against_79 : decode cX8_against 79 = .ok (.iload_n 1, 1) := by decide +kernel
theorem dX8_against_80 : decode cX8_against 80 = .ok (.invokevirtual 151, 3) := by decide +kernel
theorem dX8_against_83 : decode cX8_against 83 = .ok (.ifCond .lt 6, 3) := by decide +kernel
theorem dX8_against_86 : decode cX8_against 86 = .ok (.bipush 97, 2) := by decide +kernel
theorem dX8_against_88 : decode cX8_against 88 = .ok (.ireturn, 1) := by decide +kernel
theorem dX8_against_89 : decode cX8_against 89 = .ok (.aload_n 0, 1) := by decide +kernel
theorem dX8_against_90 : decode cX8_against 90 = .ok (.iload_n 1, 1) := by decide +kernel
theorem dX8_against_91 : decode cX8_against 91 = .ok (.invokevirtual 154, 3) := by decide +kernel
theorem dX8_against_94 : decode cX8_against 94 = .ok (.ifCond .ne 8, 3) := by decide +kernel
theorem dX8_against_97 : decode cX8_against 97 = .ok (.bipush 109, 2) := by decide +kernel
theorem dX8_against_99 : decode cX8_against 99 = .ok (.goto 18, 3) := by decide +kernel
theorem dX8_against_102 : decode cX8_against 102 = .ok (.aload_n 0, 1) := by decide +kernel
theorem dX8_against_103 : decode cX8_against 103 = .ok (.getfield 140, 3) := by decide +kernel
theorem dX8_against_106 : decode cX8_against 106 = .ok (.bipush 12, 2) := by decide +kernel
theorem dX8_against_108 : decode cX8_against 108 = .ok (.if_icmp .le 8, 3) := by decide +kernel
theorem dX8_against_111 : decode cX8_against 111 = .ok (.bipush 115, 2) := by decide +kernel
theorem dX8_against_113 : decode cX8_against 113 = .ok (.goto 4, 3) := by decide +kernel
theorem dX8_against_116 : decode cX8_against 116 = .ok (.iconst 0, 1) := by decide +kernel
theorem dX8_against_117 : decode cX8_against 117 = .ok (.ireturn, 1) := by decide +kernel
set_option maxRecDepth 20000 in
theorem ggX8_lands_X8_copies : GoodIn wsX8_lands wsX8_copies := goodIn_r _ [10, 1, 11, 12, 13, 14, 9, 15, 16, 17, 18, 19, 20, 21, 22, 23, 24, 25, 26, 27, 28, 29, 30, 31, 32, 33, 34, 35, 36, 37, 38, 39, 40, 41] (by decide +kernel) (by decide +kernel)
set_option maxRecDepth 20000 in
theorem gX8_lands_X8_copies : GoodIn wsX8_lands (wsV RX8 124 RX8 yX8_copies wsX8_copies) := goodIn_app (goodIn_of _ (by decide +kernel)) ggX8_lands_X8_copies
theorem dX8_lands_0 : decode cX8_lands 0 = .ok (.aload_n 0, 1) := by decide +kernel
theorem dX8_lands_1 : decode cX8_lands 1 = .ok (.getfield 13, 3) := by decide +kernel
theorem dX8_lands_4 : decode cX8_lands 4 = .ok (.bipush 25, 2) := by decide +kernel
theorem dX8_lands_6 : decode cX8_lands 6 = .ok (.aload_n 0, 1) := by decide +kernel
theorem dX8_lands_7 : decode cX8_lands 7 = .ok (.getfield 140, 3) := by decide +kernel
theorem dX8_lands_10 : decode cX8_lands 10 = .ok (.iastore, 1) := by decide +kernel
theorem dX8_lands_11 : decode cX8_lands 11 = .ok (.aload_n 0, 1) := by decide +kernel
theorem dX8_lands_12 : decode cX8_lands 12 = .ok (.bipush 25, 2) := by decide +kernel
theorem dX8_lands_14 : decode cX8_lands 14 = .ok (.iconst 0, 1) := by decide +kernel
theorem dX8_lands_15 : decode cX8_lands 15 = .ok (.invokevirtual 124, 3) := by decide +kernel
theorem dX8_lands_18 : decode cX8_lands 18 = .ok (.aload_n 0, 1) := by decide +kernel
theorem dX8_lands_19 : decode cX8_lands 19 = .ok (.getfield 37, 3) := by decide +kernel
theorem dX8_lands_22 : decode cX8_lands 22 = .ok (.iload_n 1, 1) := by decide +kernel
theorem dX8_lands_23 : decode cX8_lands 23 = .ok (.iconst 1, 1) := by decide +kernel
theorem dX8_lands_24 : decode cX8_lands 24 = .ok (.iastore, 1) := by decide +kernel
theorem dX8_lands_25 : decode cX8_lands 25 = .ok (.aload_n 0, 1) := by decide +kernel
theorem dX8_lands_26 : decode cX8_lands 26 = .ok (.getfield 40, 3) := by decide +kernel
theorem dX8_lands_29 : decode cX8_lands 29 = .ok (.aload_n 0, 1) := by decide +kernel
theorem dX8_lands_30 : decode cX8_lands 30 = .ok (.getfield 157, 3) := by decide +kernel
theorem dX8_lands_33 : decode cX8_lands 33 = .ok (.iload_n 1, 1) := by decide +kernel
theorem dX8_lands_34 : decode cX8_lands 34 = .ok (.iastore, 1) := by decide +kernel
theorem dX8_lands_35 : decode cX8_lands 35 = .ok (.aload_n 0, 1) := by decide +kernel
theorem dX8_lands_36 : decode cX8_lands 36 = .ok (.dup, 1) := by decide +kernel
theorem dX8_lands_37 : decode cX8_lands 37 = .ok (.getfield 157, 3) := by decide +kernel
theorem dX8_lands_40 : decode cX8_lands 40 = .ok (.iconst 1, 1) := by decide +kernel
theorem dX8_lands_41 : decode cX8_lands 41 = .ok (.iadd, 1) := by decide +kernel
theorem dX8_lands_42 : decode cX8_lands 42 = .ok (.putfield 157, 3) := by decide +kernel
theorem dX8_lands_45 : decode cX8_lands 45 = .ok (.return_, 1) := by decide +kernel
set_option maxRecDepth 20000 in
theorem ggX8_land_X8_isChange : GoodIn wsX8_land wsX8_isChange := goodIn_r _ [7, 8, 9, 10, 6, 11, 103, 104, 105, 106, 107, 108, 109, 110, 111, 112, 113, 114, 115, 116, 117, 118, 119, 120, 121, 122, 123, 124, 125, 126, 127, 128] (by decide +kernel) (by decide +kernel)
set_option maxRecDepth 20000 in
theorem gX8_land_X8_isChange : GoodIn wsX8_land (wsV RX8 128 RX8 yX8_isChange wsX8_isChange) := goodIn_app (goodIn_of _ (by decide +kernel)) ggX8_land_X8_isChange
set_option maxRecDepth 20000 in
theorem ggX8_land_X8_fail : GoodIn wsX8_land wsX8_fail := goodIn_r _ [15, 1, 103, 104, 105, 106, 107, 108, 109, 110, 111, 112, 113, 114, 115, 116, 117, 118, 119, 120, 121, 122, 123, 124, 125, 126, 127, 128] (by decide +kernel) (by decide +kernel)
set_option maxRecDepth 20000 in
theorem gX8_land_X8_fail : GoodIn wsX8_land (wsV RX8 121 RX8 yX8_fail wsX8_fail) := goodIn_app (goodIn_of _ (by decide +kernel)) ggX8_land_X8_fail
set_option maxRecDepth 20000 in
theorem ggX8_land_X8_against : GoodIn wsX8_land wsX8_against := goodIn_r _ [19, 20, 21, 8, 22, 23, 24, 25, 26, 6, 27, 28, 29, 30, 31, 32, 33, 34, 35, 36, 37, 38, 39, 40, 41, 42, 43, 44, 45, 46, 47, 48, 49, 50, 2, 51, 52, 53, 54, 55, 56, 57, 58, 59, 60, 61, 62, 63, 64, 65, 66, 67, 68, 69, 70, 71, 72, 73, 74, 75, 76, 77, 78, 79, 80, 81, 82, 83, 84, 85, 86, 87, 88, 89, 90, 91, 92, 103, 104, 105, 106, 107, 108, 109, 110, 111, 112, 113, 114, 115, 116, 117, 118, 119, 120, 121, 122, 123, 124, 125, 126, 127, 128] (by decide +kernel) (by decide +kernel)
set_option maxRecDepth 20000 in
theorem gX8_land_X8_against : GoodIn wsX8_land (wsV RX8 160 RX8 yX8_against wsX8_against) := goodIn_app (goodIn_of _ (by decide +kernel)) ggX8_land_X8_against
set_option maxRecDepth 20000 in
theorem ggX8_land_X8_lands : GoodIn wsX8_land wsX8_lands := goodIn_r _ [96, 2, 23, 20, 97, 98, 99, 100, 101, 6, 102, 62, 58, 59, 60, 61, 103, 104, 105, 106, 107, 108, 109, 110, 111, 112, 113, 114, 115, 116, 117, 118, 119, 120, 121, 122, 123, 124, 125, 126, 127, 128] (by decide +kernel) (by decide +kernel)
set_option maxRecDepth 20000 in
theorem gX8_land_X8_lands : GoodIn wsX8_land (wsV RX8 163 RX8 yX8_lands wsX8_lands) := goodIn_app (goodIn_of _ (by decide +kernel)) ggX8_land_X8_lands
theorem dX8_land_0 : decode cX8_land 0 = .ok (.aload_n 0, 1) := by decide +kernel
theorem dX8_land_1 : decode cX8_land 1 = .ok (.iload_n 1, 1) := by decide +kernel
theorem dX8_land_2 : decode cX8_land 2 = .ok (.invokevirtual 128, 3) := by decide +kernel
theorem dX8_land_5 : decode cX8_land 5 = .ok (.ifCond .ne 9, 3) := by decide +kernel
theorem dX8_land_8 : decode cX8_land 8 = .ok (.aload_n 0, 1) := by decide +kernel
theorem dX8_land_9 : decode cX8_land 9 = .ok (.iconst 1, 1) := by decide +kernel
theorem dX8_land_10 : decode cX8_land 10 = .ok (.invokevirtual 121, 3) := by decide +kernel
theorem dX8_land_13 : decode cX8_land 13 = .ok (.ireturn, 1) := by decide +kernel
theorem dX8_land_14 : decode cX8_land 14 = .ok (.aload_n 0, 1) := by decide +kernel
theorem dX8_land_15 : decode cX8_land 15 = .ok (.iload_n 1, 1) := by decide +kernel
theorem dX8_land_16 : decode cX8_land 16 = .ok (.invokevirtual 160, 3) := by decide +kernel
theorem dX8_land_19 : decode cX8_land 19 = .ok (.ifCond .eq 9, 3) := by decide +kernel
theorem dX8_land_22 : decode cX8_land 22 = .ok (.aload_n 0, 1) := by decide +kernel
theorem dX8_land_23 : decode cX8_land 23 = .ok (.iconst 2, 1) := by decide +kernel
theorem dX8_land_24 : decode cX8_land 24 = .ok (.invokevirtual 121, 3) := by decide +kernel
theorem dX8_land_27 : decode cX8_land 27 = .ok (.ireturn, 1) := by decide +kernel
theorem dX8_land_28 : decode cX8_land 28 = .ok (.aload_n 0, 1) := by decide +kernel
theorem dX8_land_29 : decode cX8_land 29 = .ok (.iconst 0, 1) := by decide +kernel
theorem dX8_land_30 : decode cX8_land 30 = .ok (.putfield 70, 3) := by decide +kernel
theorem dX8_land_33 : decode cX8_land 33 = .ok (.aload_n 0, 1) := by decide +kernel
theorem dX8_land_34 : decode cX8_land 34 = .ok (.iload_n 1, 1) := by decide +kernel
theorem dX8_land_35 : decode cX8_land 35 = .ok (.invokevirtual 163, 3) := by decide +kernel
theorem dX8_land_38 : decode cX8_land 38 = .ok (.aload_n 0, 1) := by decide +kernel
theorem dX8_land_39 : decode cX8_land 39 = .ok (.getfield 13, 3) := by decide +kernel
theorem dX8_land_42 : decode cX8_land 42 = .ok (.iconst 0, 1) := by decide +kernel
theorem dX8_land_43 : decode cX8_land 43 = .ok (.iaload, 1) := by decide +kernel
theorem dX8_land_44 : decode cX8_land 44 = .ok (.ireturn, 1) := by decide +kernel
set_option maxRecDepth 20000 in
theorem ggX8_landAll_X8_against : GoodIn wsX8_landAll wsX8_against := goodIn_r _ [8, 9, 10, 2, 11, 12, 13, 14, 15, 7, 16, 17, 18, 19, 20, 21, 22, 23, 24, 25, 26, 27, 28, 29, 30, 31, 32, 33, 34, 35, 36, 37, 38, 39, 40, 41, 42, 43, 44, 45, 46, 47, 48, 49, 50, 51, 52, 53, 54, 55, 56, 57, 58, 59, 60, 61, 62, 63, 64, 65, 66, 67, 68, 69, 70, 71, 72, 73, 74, 75, 76, 77, 78, 79, 80, 81, 82, 93, 94, 95, 96, 97, 98, 99, 100, 101, 102, 103, 104, 105, 106, 107, 108, 109, 110, 111, 112, 113, 114, 115, 116, 117, 118] (by decide +kernel) (by decide +kernel)
set_option maxRecDepth 20000 in
theorem gX8_landAll_X8_against : GoodIn wsX8_landAll (wsV RX8 160 RX8 yX8_against wsX8_against) := goodIn_app (goodIn_of _ (by decide +kernel)) ggX8_landAll_X8_against
set_option maxRecDepth 20000 in
theorem ggX8_landAll_X8_lands : GoodIn wsX8_landAll wsX8_lands := goodIn_r _ [86, 40, 12, 9, 87, 88, 89, 90, 91, 7, 92, 52, 48, 49, 50, 51, 93, 94, 95, 96, 97, 98, 99, 100, 101, 102, 103, 104, 105, 106, 107, 108, 109, 110, 111, 112, 113, 114, 115, 116, 117, 118] (by decide +kernel) (by decide +kernel)
set_option maxRecDepth 20000 in
theorem gX8_landAll_X8_lands : GoodIn wsX8_landAll (wsV RX8 163 RX8 yX8_lands wsX8_lands) := goodIn_app (goodIn_of _ (by decide +kernel)) ggX8_landAll_X8_lands
theorem dX8_landAll_0 : decode cX8_landAll 0 = .ok (.aload_n 0, 1) := by decide +kernel
theorem dX8_landAll_1 : decode cX8_landAll 1 = .ok (.iconst 0, 1) := by decide +kernel
theorem dX8_landAll_2 : decode cX8_landAll 2 = .ok (.putfield 70, 3) := by decide +kernel
theorem dX8_landAll_5 : decode cX8_landAll 5 = .ok (.iconst 0, 1) := by decide +kernel
theorem dX8_landAll_6 : decode cX8_landAll 6 = .ok (.istore_n 1, 1) := by decide +kernel
theorem dX8_landAll_7 : decode cX8_landAll 7 = .ok (.iconst 0, 1) := by decide +kernel
theorem dX8_landAll_8 : decode cX8_landAll 8 = .ok (.istore_n 2, 1) := by decide +kernel
theorem dX8_landAll_9 : decode cX8_landAll 9 = .ok (.iload_n 2, 1) := by decide +kernel
theorem dX8_landAll_10 : decode cX8_landAll 10 = .ok (.ifCond .lt 74, 3) := by decide +kernel
theorem dX8_landAll_13 : decode cX8_landAll 13 = .ok (.iconst (-1), 1) := by decide +kernel
theorem dX8_landAll_14 : decode cX8_landAll 14 = .ok (.istore_n 2, 1) := by decide +kernel
theorem dX8_landAll_15 : decode cX8_landAll 15 = .ok (.iconst 0, 1) := by decide +kernel
theorem dX8_landAll_16 : decode cX8_landAll 16 = .ok (.istore_n 3, 1) := by decide +kernel
theorem dX8_landAll_17 : decode cX8_landAll 17 = .ok (.iload_n 3, 1) := by decide +kernel
theorem dX8_landAll_18 : decode cX8_landAll 18 = .ok (.aload_n 0, 1) := by decide +kernel
theorem dX8_landAll_19 : decode cX8_landAll 19 = .ok (.getfield 74, 3) := by decide +kernel
theorem dX8_landAll_22 : decode cX8_landAll 22 = .ok (.if_icmp .ge 38, 3) := by decide +kernel
theorem dX8_landAll_25 : decode cX8_landAll 25 = .ok (.iload_n 2, 1) := by decide +kernel
theorem dX8_landAll_26 : decode cX8_landAll 26 = .ok (.ifCond .lt 18, 3) := by decide +kernel
theorem dX8_landAll_29 : decode cX8_landAll 29 = .ok (.aload_n 0, 1) := by decide +kernel
theorem dX8_landAll_30 : decode cX8_landAll 30 = .ok (.getfield 34, 3) := by decide +kernel
theorem dX8_landAll_33 : decode cX8_landAll 33 = .ok (.iload_n 3, 1) := by decide +kernel
theorem dX8_landAll_34 : decode cX8_landAll 34 = .ok (.iaload, 1) := by decide +kernel
theorem dX8_landAll_35 : decode cX8_landAll 35 = .ok (.aload_n 0, 1) := by decide +kernel
theorem dX8_landAll_36 : decode cX8_landAll 36 = .ok (.getfield 34, 3) := by decide +kernel
theorem dX8_landAll_39 : decode cX8_landAll 39 = .ok (.iload_n 2, 1) := by decide +kernel
theorem dX8_landAll_40 : decode cX8_landAll 40 = .ok (.iaload, 1) := by decide +kernel
theorem dX8_landAll_41 : decode cX8_landAll 41 = .ok (.if_icmp .le 13, 3) := by decide +kernel
theorem dX8_landAll_44 : decode cX8_landAll 44 = .ok (.aload_n 0, 1) := by decide +kernel
theorem dX8_landAll_45 : decode cX8_landAll 45 = .ok (.iload_n 3, 1) := by decide +kernel
theorem dX8_landAll_46 : decode cX8_landAll 46 = .ok (.invokevirtual 160, 3) := by decide +kernel
theorem dX8_landAll_49 : decode cX8_landAll 49 = .ok (.ifCond .ne 5, 3) := by decide +kernel
theorem dX8_landAll_52 : decode cX8_landAll 52 = .ok (.iload_n 3, 1) := by decide +kernel
theorem dX8_landAll_53 : decode cX8_landAll 53 = .ok (.istore_n 2, 1) := by decide +kernel
theorem dX8_landAll_54 : decode cX8_landAll 54 = .ok (.iinc 3 1, 3) := by decide +kernel
theorem dX8_landAll_57 : decode cX8_landAll 57 = .ok (.goto (-40), 3) := by decide +kernel
theorem dX8_landAll_60 : decode cX8_landAll 60 = .ok (.iload_n 2, 1) := by decide +kernel
theorem dX8_landAll_61 : decode cX8_landAll 61 = .ok (.ifCond .ge 6, 3) := by decide +kernel
theorem dX8_landAll_64 : decode cX8_landAll 64 = .ok (.goto (-55), 3) := by decide +kernel
theorem dX8_landAll_67 : decode cX8_landAll 67 = .ok (.aload_n 0, 1) := by decide +kernel
theorem dX8_landAll_68 : decode cX8_landAll 68 = .ok (.iload_n 2, 1) := by decide +kernel
theorem dX8_landAll_69 : decode cX8_landAll 69 = .ok (.invokevirtual 160, 3) := by decide +kernel
theorem dX8_landAll_72 : decode cX8_landAll 72 = .ok (.istore_n 3, 1) := by decide +kernel
theorem dX8_landAll_73 : decode cX8_landAll 73 = .ok (.aload_n 0, 1) := by decide +kernel
theorem dX8_landAll_74 : decode cX8_landAll 74 = .ok (.iload_n 2, 1) := by decide +kernel
theorem dX8_landAll_75 : decode cX8_landAll 75 = .ok (.invokevirtual 163, 3) := by decide +kernel
theorem dX8_landAll_78 : decode cX8_landAll 78 = .ok (.iinc 1 1, 3) := by decide +kernel
theorem dX8_landAll_81 : decode cX8_landAll 81 = .ok (.goto (-72), 3) := by decide +kernel
theorem dX8_landAll_84 : decode cX8_landAll 84 = .ok (.iload_n 1, 1) := by decide +kernel
theorem dX8_landAll_85 : decode cX8_landAll 85 = .ok (.ireturn, 1) := by decide +kernel
set_option maxRecDepth 20000 in
theorem ggX8_reasonAgainst_X8_isChange : GoodIn wsX8_reasonAgainst wsX8_isChange := goodIn_r _ [6, 7, 8, 9, 5, 10, 89, 90, 91, 92, 93, 94, 95, 96, 97, 98, 99, 100, 101, 102, 103, 104, 105, 106, 107, 108, 109, 110, 111, 112, 113, 114] (by decide +kernel) (by decide +kernel)
set_option maxRecDepth 20000 in
theorem gX8_reasonAgainst_X8_isChange : GoodIn wsX8_reasonAgainst (wsV RX8 128 RX8 yX8_isChange wsX8_isChange) := goodIn_app (goodIn_of _ (by decide +kernel)) ggX8_reasonAgainst_X8_isChange
set_option maxRecDepth 20000 in
theorem ggX8_reasonAgainst_X8_against : GoodIn wsX8_reasonAgainst wsX8_against := goodIn_r _ [14, 15, 16, 7, 17, 18, 19, 20, 21, 5, 22, 23, 24, 25, 26, 27, 28, 29, 30, 31, 32, 33, 34, 35, 36, 37, 38, 39, 40, 41, 42, 43, 44, 45, 46, 47, 48, 49, 50, 51, 52, 53, 54, 55, 56, 57, 58, 59, 60, 61, 62, 63, 64, 65, 66, 67, 68, 69, 70, 71, 72, 73, 74, 75, 76, 77, 78, 79, 80, 81, 82, 83, 84, 85, 86, 87, 88, 89, 90, 91, 92, 93, 94, 95, 96, 97, 98, 99, 100, 101, 102, 103, 104, 105, 106, 107, 108, 109, 110, 111, 112, 113, 114] (by decide +kernel) (by decide +kernel)
set_option maxRecDepth 20000 in
theorem gX8_reasonAgainst_X8_against : GoodIn wsX8_reasonAgainst (wsV RX8 160 RX8 yX8_against wsX8_against) := goodIn_app (goodIn_of _ (by decide +kernel)) ggX8_reasonAgainst_X8_against
theorem dX8_reasonAgainst_0 : decode cX8_reasonAgainst 0 = .ok (.aload_n 0, 1) := by decide +kernel
theorem dX8_reasonAgainst_1 : decode cX8_reasonAgainst 1 = .ok (.aload_n 0, 1) := by decide +kernel
theorem dX8_reasonAgainst_2 : decode cX8_reasonAgainst 2 = .ok (.iload_n 1, 1) := by decide +kernel
theorem dX8_reasonAgainst_3 : decode cX8_reasonAgainst 3 = .ok (.invokevirtual 128, 3) := by decide +kernel
theorem dX8_reasonAgainst_6 : decode cX8_reasonAgainst 6 = .ok (.ifCond .eq 7, 3) := by decide +kernel
theorem dX8_reasonAgainst_9 : decode cX8_reasonAgainst 9 = .ok (.iconst 0, 1) := by decide +kernel
theorem dX8_reasonAgainst_10 : decode cX8_reasonAgainst 10 = .ok (.goto 4, 3) := by decide +kernel
theorem dX8_reasonAgainst_13 : decode cX8_reasonAgainst 13 = .ok (.iconst 1, 1) := by decide +kernel
theorem dX8_reasonAgainst_14 : decode cX8_reasonAgainst 14 = .ok (.putfield 70, 3) := by decide +kernel
theorem dX8_reasonAgainst_17 : decode cX8_reasonAgainst 17 = .ok (.aload_n 0, 1) := by decide +kernel
theorem dX8_reasonAgainst_18 : decode cX8_reasonAgainst 18 = .ok (.getfield 70, 3) := by decide +kernel
theorem dX8_reasonAgainst_21 : decode cX8_reasonAgainst 21 = .ok (.ifCond .eq 6, 3) := by decide +kernel
theorem dX8_reasonAgainst_24 : decode cX8_reasonAgainst 24 = .ok (.bipush 108, 2) := by decide +kernel
theorem dX8_reasonAgainst_26 : decode cX8_reasonAgainst 26 = .ok (.ireturn, 1) := by decide +kernel
theorem dX8_reasonAgainst_27 : decode cX8_reasonAgainst 27 = .ok (.aload_n 0, 1) := by decide +kernel
theorem dX8_reasonAgainst_28 : decode cX8_reasonAgainst 28 = .ok (.iload_n 1, 1) := by decide +kernel
theorem dX8_reasonAgainst_29 : decode cX8_reasonAgainst 29 = .ok (.invokevirtual 160, 3) := by decide +kernel
theorem dX8_reasonAgainst_32 : decode cX8_reasonAgainst 32 = .ok (.istore_n 2, 1) := by decide +kernel
theorem dX8_reasonAgainst_33 : decode cX8_reasonAgainst 33 = .ok (.aload_n 0, 1) := by decide +kernel
theorem dX8_reasonAgainst_34 : decode cX8_reasonAgainst 34 = .ok (.iload_n 2, 1) := by decide +kernel
theorem dX8_reasonAgainst_35 : decode cX8_reasonAgainst 35 = .ok (.ifCond .ne 7, 3) := by decide +kernel
theorem dX8_reasonAgainst_38 : decode cX8_reasonAgainst 38 = .ok (.iconst 2, 1) := by decide +kernel
theorem dX8_reasonAgainst_39 : decode cX8_reasonAgainst 39 = .ok (.goto 4, 3) := by decide +kernel
theorem dX8_reasonAgainst_42 : decode cX8_reasonAgainst 42 = .ok (.iconst 0, 1) := by decide +kernel
theorem dX8_reasonAgainst_43 : decode cX8_reasonAgainst 43 = .ok (.putfield 70, 3) := by decide +kernel
theorem dX8_reasonAgainst_46 : decode cX8_reasonAgainst 46 = .ok (.iload_n 2, 1) := by decide +kernel
theorem dX8_reasonAgainst_47 : decode cX8_reasonAgainst 47 = .ok (.ifCond .ne 8, 3) := by decide +kernel
theorem dX8_reasonAgainst_50 : decode cX8_reasonAgainst 50 = .ok (.bipush 108, 2) := by decide +kernel
theorem dX8_reasonAgainst_52 : decode cX8_reasonAgainst 52 = .ok (.goto 5, 3) := by decide +kernel
theorem dX8_reasonAgainst_55 : decode cX8_reasonAgainst 55 = .ok (.iload_n 2, 1) := by decide +kernel
theorem dX8_reasonAgainst_56 : decode cX8_reasonAgainst 56 = .ok (.i2c, 1) := by decide +kernel
theorem dX8_reasonAgainst_57 : decode cX8_reasonAgainst 57 = .ok (.ireturn, 1) := by decide +kernel
set_option maxRecDepth 20000 in
theorem ggX8_missingUser_X8_isChange : GoodIn wsX8_missingUser wsX8_isChange := goodIn_r _ [6, 7, 8, 9, 5, 10, 66, 67, 68, 69, 70, 71, 72, 73, 74, 75, 76, 77, 78, 79, 80, 81, 82, 83, 84, 85, 86, 87, 88, 89, 90, 91] (by decide +kernel) (by decide +kernel)
set_option maxRecDepth 20000 in
theorem gX8_missingUser_X8_isChange : GoodIn wsX8_missingUser (wsV RX8 128 RX8 yX8_isChange wsX8_isChange) := goodIn_app (goodIn_of _ (by decide +kernel)) ggX8_missingUser_X8_isChange
set_option maxRecDepth 20000 in
theorem ggX8_missingUser_X8_fail : GoodIn wsX8_missingUser wsX8_fail := goodIn_r _ [14, 1, 66, 67, 68, 69, 70, 71, 72, 73, 74, 75, 76, 77, 78, 79, 80, 81, 82, 83, 84, 85, 86, 87, 88, 89, 90, 91] (by decide +kernel) (by decide +kernel)
set_option maxRecDepth 20000 in
theorem gX8_missingUser_X8_fail : GoodIn wsX8_missingUser (wsV RX8 121 RX8 yX8_fail wsX8_fail) := goodIn_app (goodIn_of _ (by decide +kernel)) ggX8_missingUser_X8_fail
set_option maxRecDepth 20000 in
theorem ggX8_missingUser_X8_lacking : GoodIn wsX8_missingUser wsX8_lacking := goodIn_r _ [18, 19, 20, 21, 5, 22, 23, 24, 25, 26, 27, 28, 29, 30, 31, 32, 33, 34, 35, 36, 37, 38, 39, 40, 41, 42, 43, 44, 45, 46, 47, 48, 49, 50, 51, 52, 53, 54, 55, 56, 57, 58, 59, 60, 61, 62, 63, 64, 65, 66, 67, 68, 69, 70, 71, 72, 73, 74, 75, 76, 77, 78, 79, 80, 81, 82, 83, 84, 85, 86, 87, 88, 89, 90, 91] (by decide +kernel) (by decide +kernel)
set_option maxRecDepth 20000 in
theorem gX8_missingUser_X8_lacking : GoodIn wsX8_missingUser (wsV RX8 151 RX8 yX8_lacking wsX8_lacking) := goodIn_app (goodIn_of _ (by decide +kernel)) ggX8_missingUser_X8_lacking
theorem dX8_missingUser_0 : decode cX8_missingUser 0 = .ok (.aload_n 0, 1) := by decide +kernel
theorem dX8_missingUser_1 : decode cX8_missingUser 1 = .ok (.iload_n 1, 1) := by decide +kernel
theorem dX8_missingUser_2 : decode cX8_missingUser 2 = .ok (.invokevirtual 128, 3) := by decide +kernel
theorem dX8_missingUser_5 : decode cX8_missingUser 5 = .ok (.ifCond .ne 9, 3) := by decide +kernel
theorem dX8_missingUser_8 : decode cX8_missingUser 8 = .ok (.aload_n 0, 1) := by decide +kernel
theorem dX8_missingUser_9 : decode cX8_missingUser 9 = .ok (.iconst 1, 1) := by decide +kernel
theorem dX8_missingUser_10 : decode cX8_missingUser 10 = .ok (.invokevirtual 121, 3) := by decide +kernel
theorem dX8_missingUser_13 : decode cX8_missingUser 13 = .ok (.ireturn, 1) := by decide +kernel
theorem dX8_missingUser_14 : decode cX8_missingUser 14 = .ok (.aload_n 0, 1) := by decide +kernel
theorem dX8_missingUser_15 : decode cX8_missingUser 15 = .ok (.iload_n 1, 1) := by decide +kernel
theorem dX8_missingUser_16 : decode cX8_missingUser 16 = .ok (.invokevirtual 151, 3) := by decide +kernel
theorem dX8_missingUser_19 : decode cX8_missingUser 19 = .ok (.istore_n 2, 1) := by decide +kernel
theorem dX8_missingUser_20 : decode cX8_missingUser 20 = .ok (.aload_n 0, 1) := by decide +kernel
theorem dX8_missingUser_21 : decode cX8_missingUser 21 = .ok (.iload_n 2, 1) := by decide +kernel
theorem dX8_missingUser_22 : decode cX8_missingUser 22 = .ok (.ifCond .ge 7, 3) := by decide +kernel
theorem dX8_missingUser_25 : decode cX8_missingUser 25 = .ok (.iconst 2, 1) := by decide +kernel
theorem dX8_missingUser_26 : decode cX8_missingUser 26 = .ok (.goto 4, 3) := by decide +kernel
theorem dX8_missingUser_29 : decode cX8_missingUser 29 = .ok (.iconst 0, 1) := by decide +kernel
theorem dX8_missingUser_30 : decode cX8_missingUser 30 = .ok (.putfield 70, 3) := by decide +kernel
theorem dX8_missingUser_33 : decode cX8_missingUser 33 = .ok (.iload_n 2, 1) := by decide +kernel
theorem dX8_missingUser_34 : decode cX8_missingUser 34 = .ok (.ifCond .ge 7, 3) := by decide +kernel
theorem dX8_missingUser_37 : decode cX8_missingUser 37 = .ok (.iconst 0, 1) := by decide +kernel
theorem dX8_missingUser_38 : decode cX8_missingUser 38 = .ok (.goto 4, 3) := by decide +kernel
theorem dX8_missingUser_41 : decode cX8_missingUser 41 = .ok (.iload_n 2, 1) := by decide +kernel
theorem dX8_missingUser_42 : decode cX8_missingUser 42 = .ok (.ireturn, 1) := by decide +kernel
set_option maxRecDepth 20000 in
theorem ggX8_landedAt_X8_isIn : GoodIn wsX8_landedAt wsX8_isIn := goodIn_r _ [7] (by decide +kernel) (by decide +kernel)
set_option maxRecDepth 20000 in
theorem gX8_landedAt_X8_isIn : GoodIn wsX8_landedAt (va_wsS RX8 77 yX8_isIn wsX8_isIn) := goodIn_app (goodIn_of _ (by decide +kernel)) ggX8_landedAt_X8_isIn
theorem dX8_landedAt_0 : decode cX8_landedAt 0 = .ok (.aload_n 0, 1) := by decide +kernel
theorem dX8_landedAt_1 : decode cX8_landedAt 1 = .ok (.iload_n 1, 1) := by decide +kernel
theorem dX8_landedAt_2 : decode cX8_landedAt 2 = .ok (.iconst 0, 1) := by decide +kernel
theorem dX8_landedAt_3 : decode cX8_landedAt 3 = .ok (.aload_n 0, 1) := by decide +kernel
theorem dX8_landedAt_4 : decode cX8_landedAt 4 = .ok (.getfield 157, 3) := by decide +kernel
theorem dX8_landedAt_7 : decode cX8_landedAt 7 = .ok (.iconst 1, 1) := by decide +kernel
theorem dX8_landedAt_8 : decode cX8_landedAt 8 = .ok (.isub, 1) := by decide +kernel
theorem dX8_landedAt_9 : decode cX8_landedAt 9 = .ok (.invokestatic 77, 3) := by decide +kernel
theorem dX8_landedAt_12 : decode cX8_landedAt 12 = .ok (.ifCond .eq 7, 3) := by decide +kernel
theorem dX8_landedAt_15 : decode cX8_landedAt 15 = .ok (.iconst 0, 1) := by decide +kernel
theorem dX8_landedAt_16 : decode cX8_landedAt 16 = .ok (.goto 4, 3) := by decide +kernel
theorem dX8_landedAt_19 : decode cX8_landedAt 19 = .ok (.iconst 1, 1) := by decide +kernel
theorem dX8_landedAt_20 : decode cX8_landedAt 20 = .ok (.putfield 70, 3) := by decide +kernel
theorem dX8_landedAt_23 : decode cX8_landedAt 23 = .ok (.aload_n 0, 1) := by decide +kernel
theorem dX8_landedAt_24 : decode cX8_landedAt 24 = .ok (.getfield 70, 3) := by decide +kernel
theorem dX8_landedAt_27 : decode cX8_landedAt 27 = .ok (.ifCond .ne 12, 3) := by decide +kernel
theorem dX8_landedAt_30 : decode cX8_landedAt 30 = .ok (.aload_n 0, 1) := by decide +kernel
theorem dX8_landedAt_31 : decode cX8_landedAt 31 = .ok (.getfield 40, 3) := by decide +kernel
theorem dX8_landedAt_34 : decode cX8_landedAt 34 = .ok (.iload_n 1, 1) := by decide +kernel
theorem dX8_landedAt_35 : decode cX8_landedAt 35 = .ok (.iaload, 1) := by decide +kernel
theorem dX8_landedAt_36 : decode cX8_landedAt 36 = .ok (.goto 4, 3) := by decide +kernel
theorem dX8_landedAt_39 : decode cX8_landedAt 39 = .ok (.iconst 0, 1) := by decide +kernel
theorem dX8_landedAt_40 : decode cX8_landedAt 40 = .ok (.ireturn, 1) := by decide +kernel
theorem dX8_mainLines_0 : decode cX8_mainLines 0 = .ok (.aload_n 0, 1) := by decide +kernel
theorem dX8_mainLines_1 : decode cX8_mainLines 1 = .ok (.iconst 0, 1) := by decide +kernel
theorem dX8_mainLines_2 : decode cX8_mainLines 2 = .ok (.putfield 70, 3) := by decide +kernel
theorem dX8_mainLines_5 : decode cX8_mainLines 5 = .ok (.aload_n 0, 1) := by decide +kernel
theorem dX8_mainLines_6 : decode cX8_mainLines 6 = .ok (.getfield 13, 3) := by decide +kernel
theorem dX8_mainLines_9 : decode cX8_mainLines 9 = .ok (.iconst 0, 1) := by decide +kernel
theorem dX8_mainLines_10 : decode cX8_mainLines 10 = .ok (.iaload, 1) := by decide +kernel
theorem dX8_mainLines_11 : decode cX8_mainLines 11 = .ok (.ireturn, 1) := by decide +kernel
set_option maxRecDepth 20000 in
theorem ggX8_mainLine_X8_isIn : GoodIn wsX8_mainLine wsX8_isIn := goodIn_r _ [6] (by decide +kernel) (by decide +kernel)
set_option maxRecDepth 20000 in
theorem gX8_mainLine_X8_isIn : GoodIn wsX8_mainLine (va_wsS RX8 77 yX8_isIn wsX8_isIn) := goodIn_app (goodIn_of _ (by decide +kernel)) ggX8_mainLine_X8_isIn
set_option maxRecDepth 20000 in
theorem ggX8_mainLine_X8_line : GoodIn wsX8_mainLine wsX8_line := goodIn_r _ [10, 11, 12, 13, 14, 15, 16, 17, 18, 19, 20, 21, 22, 23, 24, 25, 26, 27, 28, 29, 30, 31, 32, 33, 34, 35, 36, 37] (by decide +kernel) (by decide +kernel)
set_option maxRecDepth 20000 in
theorem gX8_mainLine_X8_line : GoodIn wsX8_mainLine (wsV RX8 85 RX8 yX8_line wsX8_line) := goodIn_app (goodIn_of _ (by decide +kernel)) ggX8_mainLine_X8_line
theorem dX8_mainLine_0 : decode cX8_mainLine 0 = .ok (.aload_n 0, 1) := by decide +kernel
theorem dX8_mainLine_1 : decode cX8_mainLine 1 = .ok (.iload_n 1, 1) := by decide +kernel
theorem dX8_mainLine_2 : decode cX8_mainLine 2 = .ok (.iconst 0, 1) := by decide +kernel
theorem dX8_mainLine_3 : decode cX8_mainLine 3 = .ok (.aload_n 0, 1) := by decide +kernel
theorem dX8_mainLine_4 : decode cX8_mainLine 4 = .ok (.getfield 13, 3) := by decide +kernel
theorem dX8_mainLine_7 : decode cX8_mainLine 7 = .ok (.iconst 0, 1) := by decide +kernel
theorem dX8_mainLine_8 : decode cX8_mainLine 8 = .ok (.iaload, 1) := by decide +kernel
theorem dX8_mainLine_9 : decode cX8_mainLine 9 = .ok (.iconst 1, 1) := by decide +kernel
theorem dX8_mainLine_10 : decode cX8_mainLine 10 = .ok (.isub, 1) := by decide +kernel
theorem dX8_mainLine_11 : decode cX8_mainLine 11 = .ok (.invokestatic 77, 3) := by decide +kernel
theorem dX8_mainLine_14 : decode cX8_mainLine 14 = .ok (.ifCond .eq 7, 3) := by decide +kernel
theorem dX8_mainLine_17 : decode cX8_mainLine 17 = .ok (.iconst 0, 1) := by decide +kernel
theorem dX8_mainLine_18 : decode cX8_mainLine 18 = .ok (.goto 4, 3) := by decide +kernel
theorem dX8_mainLine_21 : decode cX8_mainLine 21 = .ok (.iconst 1, 1) := by decide +kernel
theorem dX8_mainLine_22 : decode cX8_mainLine 22 = .ok (.putfield 70, 3) := by decide +kernel
theorem dX8_mainLine_25 : decode cX8_mainLine 25 = .ok (.aload_n 0, 1) := by decide +kernel
theorem dX8_mainLine_26 : decode cX8_mainLine 26 = .ok (.getfield 70, 3) := by decide +kernel
theorem dX8_mainLine_29 : decode cX8_mainLine 29 = .ok (.ifCond .ne 12, 3) := by decide +kernel
theorem dX8_mainLine_32 : decode cX8_mainLine 32 = .ok (.aload_n 0, 1) := by decide +kernel
theorem dX8_mainLine_33 : decode cX8_mainLine 33 = .ok (.iconst 0, 1) := by decide +kernel
theorem dX8_mainLine_34 : decode cX8_mainLine 34 = .ok (.iload_n 1, 1) := by decide +kernel
theorem dX8_mainLine_35 : decode cX8_mainLine 35 = .ok (.invokevirtual 85, 3) := by decide +kernel
theorem dX8_mainLine_38 : decode cX8_mainLine 38 = .ok (.goto 4, 3) := by decide +kernel
theorem dX8_mainLine_41 : decode cX8_mainLine 41 = .ok (.iconst 0, 1) := by decide +kernel
theorem dX8_mainLine_42 : decode cX8_mainLine 42 = .ok (.ireturn, 1) := by decide +kernel
set_option maxRecDepth 20000 in
theorem ggX8_rounds_X8_isChange : GoodIn wsX8_rounds wsX8_isChange := goodIn_r _ [7, 8, 9, 10, 6, 11, 12, 13, 14, 15, 16, 17, 18, 19, 20, 21, 22, 23, 24, 25, 26, 27, 28, 29, 30, 31, 32, 33, 34, 35, 36, 37] (by decide +kernel) (by decide +kernel)
set_option maxRecDepth 20000 in
theorem gX8_rounds_X8_isChange : GoodIn wsX8_rounds (wsV RX8 128 RX8 yX8_isChange wsX8_isChange) := goodIn_app (goodIn_of _ (by decide +kernel)) ggX8_rounds_X8_isChange
theorem dX8_rounds_0 : decode cX8_rounds 0 = .ok (.aload_n 0, 1) := by decide +kernel
theorem dX8_rounds_1 : decode cX8_rounds 1 = .ok (.aload_n 0, 1) := by decide +kernel
theorem dX8_rounds_2 : decode cX8_rounds 2 = .ok (.iload_n 1, 1) := by decide +kernel
theorem dX8_rounds_3 : decode cX8_rounds 3 = .ok (.invokevirtual 128, 3) := by decide +kernel
theorem dX8_rounds_6 : decode cX8_rounds 6 = .ok (.ifCond .eq 7, 3) := by decide +kernel
theorem dX8_rounds_9 : decode cX8_rounds 9 = .ok (.iconst 0, 1) := by decide +kernel
theorem dX8_rounds_10 : decode cX8_rounds 10 = .ok (.goto 4, 3) := by decide +kernel
theorem dX8_rounds_13 : decode cX8_rounds 13 = .ok (.iconst 1, 1) := by decide +kernel
theorem dX8_rounds_14 : decode cX8_rounds 14 = .ok (.putfield 70, 3) := by decide +kernel
theorem dX8_rounds_17 : decode cX8_rounds 17 = .ok (.aload_n 0, 1) := by decide +kernel
theorem dX8_rounds_18 : decode cX8_rounds 18 = .ok (.getfield 70, 3) := by decide +kernel
theorem dX8_rounds_21 : decode cX8_rounds 21 = .ok (.ifCond .ne 12, 3) := by decide +kernel
theorem dX8_rounds_24 : decode cX8_rounds 24 = .ok (.aload_n 0, 1) := by decide +kernel
theorem dX8_rounds_25 : decode cX8_rounds 25 = .ok (.getfield 28, 3) := by decide +kernel
theorem dX8_rounds_28 : decode cX8_rounds 28 = .ok (.iload_n 1, 1) := by decide +kernel
theorem dX8_rounds_29 : decode cX8_rounds 29 = .ok (.iaload, 1) := by decide +kernel
theorem dX8_rounds_30 : decode cX8_rounds 30 = .ok (.goto 4, 3) := by decide +kernel
theorem dX8_rounds_33 : decode cX8_rounds 33 = .ok (.iconst 0, 1) := by decide +kernel
theorem dX8_rounds_34 : decode cX8_rounds 34 = .ok (.ireturn, 1) := by decide +kernel
set_option maxRecDepth 20000 in
theorem ggX8_isRound_X8_isChange : GoodIn wsX8_isRound wsX8_isChange := goodIn_r _ [7, 8, 9, 10, 6, 11, 12, 13, 14, 15, 16, 17, 18, 19, 20, 21, 22, 23, 24, 25, 26, 27, 28, 29, 30, 31, 32, 33, 34, 35, 36, 37] (by decide +kernel) (by decide +kernel)
set_option maxRecDepth 20000 in
theorem gX8_isRound_X8_isChange : GoodIn wsX8_isRound (wsV RX8 128 RX8 yX8_isChange wsX8_isChange) := goodIn_app (goodIn_of _ (by decide +kernel)) ggX8_isRound_X8_isChange
set_option maxRecDepth 20000 in
theorem ggX8_isRound_X8_isIn : GoodIn wsX8_isRound wsX8_isIn := goodIn_r _ [11] (by decide +kernel) (by decide +kernel)
set_option maxRecDepth 20000 in
theorem gX8_isRound_X8_isIn : GoodIn wsX8_isRound (va_wsS RX8 77 yX8_isIn wsX8_isIn) := goodIn_app (goodIn_of _ (by decide +kernel)) ggX8_isRound_X8_isIn
theorem dX8_isRound_0 : decode cX8_isRound 0 = .ok (.aload_n 0, 1) := by decide +kernel
theorem dX8_isRound_1 : decode cX8_isRound 1 = .ok (.aload_n 0, 1) := by decide +kernel
theorem dX8_isRound_2 : decode cX8_isRound 2 = .ok (.iload_n 1, 1) := by decide +kernel
theorem dX8_isRound_3 : decode cX8_isRound 3 = .ok (.invokevirtual 128, 3) := by decide +kernel
theorem dX8_isRound_6 : decode cX8_isRound 6 = .ok (.ifCond .ne 7, 3) := by decide +kernel
theorem dX8_isRound_9 : decode cX8_isRound 9 = .ok (.iconst 1, 1) := by decide +kernel
theorem dX8_isRound_10 : decode cX8_isRound 10 = .ok (.goto 24, 3) := by decide +kernel
theorem dX8_isRound_13 : decode cX8_isRound 13 = .ok (.iload_n 2, 1) := by decide +kernel
theorem dX8_isRound_14 : decode cX8_isRound 14 = .ok (.iconst 0, 1) := by decide +kernel
theorem dX8_isRound_15 : decode cX8_isRound 15 = .ok (.aload_n 0, 1) := by decide +kernel
theorem dX8_isRound_16 : decode cX8_isRound 16 = .ok (.getfield 28, 3) := by decide +kernel
theorem dX8_isRound_19 : decode cX8_isRound 19 = .ok (.iload_n 1, 1) := by decide +kernel
theorem dX8_isRound_20 : decode cX8_isRound 20 = .ok (.iaload, 1) := by decide +kernel
theorem dX8_isRound_21 : decode cX8_isRound 21 = .ok (.iconst 1, 1) := by decide +kernel
theorem dX8_isRound_22 : decode cX8_isRound 22 = .ok (.isub, 1) := by decide +kernel
theorem dX8_isRound_23 : decode cX8_isRound 23 = .ok (.invokestatic 77, 3) := by decide +kernel
theorem dX8_isRound_26 : decode cX8_isRound 26 = .ok (.ifCond .ne 7, 3) := by decide +kernel
theorem dX8_isRound_29 : decode cX8_isRound 29 = .ok (.iconst 2, 1) := by decide +kernel
theorem dX8_isRound_30 : decode cX8_isRound 30 = .ok (.goto 4, 3) := by decide +kernel
theorem dX8_isRound_33 : decode cX8_isRound 33 = .ok (.iconst 0, 1) := by decide +kernel
theorem dX8_isRound_34 : decode cX8_isRound 34 = .ok (.putfield 70, 3) := by decide +kernel
theorem dX8_isRound_37 : decode cX8_isRound 37 = .ok (.aload_n 0, 1) := by decide +kernel
theorem dX8_isRound_38 : decode cX8_isRound 38 = .ok (.getfield 70, 3) := by decide +kernel
theorem dX8_isRound_41 : decode cX8_isRound 41 = .ok (.ifCond .ne 7, 3) := by decide +kernel
theorem dX8_isRound_44 : decode cX8_isRound 44 = .ok (.iconst 1, 1) := by decide +kernel
theorem dX8_isRound_45 : decode cX8_isRound 45 = .ok (.goto 4, 3) := by decide +kernel
theorem dX8_isRound_48 : decode cX8_isRound 48 = .ok (.iconst 0, 1) := by decide +kernel
theorem dX8_isRound_49 : decode cX8_isRound 49 = .ok (.ireturn, 1) := by decide +kernel
set_option maxRecDepth 20000 in
theorem ggX8_lines_X8_isRound : GoodIn wsX8_lines wsX8_isRound := goodIn_r _ [6, 7, 8, 9, 10, 11, 5, 12, 13, 14, 15, 16, 20, 21, 22, 23, 24, 25, 26, 27, 28, 29, 30, 31, 32, 33, 34, 35, 36, 37, 38, 39, 40, 41, 42, 43, 44, 45] (by decide +kernel) (by decide +kernel)
set_option maxRecDepth 20000 in
theorem gX8_lines_X8_isRound : GoodIn wsX8_lines (wsV RX8 167 RX8 yX8_isRound wsX8_isRound) := goodIn_app (goodIn_of _ (by decide +kernel)) ggX8_lines_X8_isRound
set_option maxRecDepth 20000 in
theorem ggX8_lines_X8_slot : GoodIn wsX8_lines wsX8_slot := goodIn_r _ [19] (by decide +kernel) (by decide +kernel)
set_option maxRecDepth 20000 in
theorem gX8_lines_X8_slot : GoodIn wsX8_lines (va_wsS RX8 81 yX8_slot wsX8_slot) := goodIn_app (goodIn_of _ (by decide +kernel)) ggX8_lines_X8_slot
theorem dX8_lines_0 : decode cX8_lines 0 = .ok (.aload_n 0, 1) := by decide +kernel
theorem dX8_lines_1 : decode cX8_lines 1 = .ok (.iload_n 1, 1) := by decide +kernel
theorem dX8_lines_2 : decode cX8_lines 2 = .ok (.iload_n 2, 1) := by decide +kernel
theorem dX8_lines_3 : decode cX8_lines 3 = .ok (.invokevirtual 167, 3) := by decide +kernel
theorem dX8_lines_6 : decode cX8_lines 6 = .ok (.ifCond .eq 16, 3) := by decide +kernel
theorem dX8_lines_9 : decode cX8_lines 9 = .ok (.aload_n 0, 1) := by decide +kernel
theorem dX8_lines_10 : decode cX8_lines 10 = .ok (.getfield 13, 3) := by decide +kernel
theorem dX8_lines_13 : decode cX8_lines 13 = .ok (.iload_n 1, 1) := by decide +kernel
theorem dX8_lines_14 : decode cX8_lines 14 = .ok (.iload_n 2, 1) := by decide +kernel
theorem dX8_lines_15 : decode cX8_lines 15 = .ok (.invokestatic 81, 3) := by decide +kernel
theorem dX8_lines_18 : decode cX8_lines 18 = .ok (.iaload, 1) := by decide +kernel
theorem dX8_lines_19 : decode cX8_lines 19 = .ok (.goto 4, 3) := by decide +kernel
theorem dX8_lines_22 : decode cX8_lines 22 = .ok (.iconst 0, 1) := by decide +kernel
theorem dX8_lines_23 : decode cX8_lines 23 = .ok (.ireturn, 1) := by decide +kernel
set_option maxRecDepth 20000 in
theorem ggX8_lineAt_X8_isRound : GoodIn wsX8_lineAt wsX8_isRound := goodIn_r _ [7, 8, 2, 9, 10, 11, 6, 12, 13, 14, 15, 16, 25, 26, 27, 28, 29, 30, 31, 32, 33, 34, 35, 36, 37, 38, 39, 40, 41, 42, 43, 44, 45, 46, 47, 48, 49, 50] (by decide +kernel) (by decide +kernel)
set_option maxRecDepth 20000 in
theorem gX8_lineAt_X8_isRound : GoodIn wsX8_lineAt (wsV RX8 167 RX8 yX8_isRound wsX8_isRound) := goodIn_app (goodIn_of _ (by decide +kernel)) ggX8_lineAt_X8_isRound
set_option maxRecDepth 20000 in
theorem ggX8_lineAt_X8_slot : GoodIn wsX8_lineAt wsX8_slot := goodIn_r _ [19] (by decide +kernel) (by decide +kernel)
set_option maxRecDepth 20000 in
theorem gX8_lineAt_X8_slot : GoodIn wsX8_lineAt (va_wsS RX8 81 yX8_slot wsX8_slot) := goodIn_app (goodIn_of _ (by decide +kernel)) ggX8_lineAt_X8_slot
set_option maxRecDepth 20000 in
theorem ggX8_lineAt_X8_isIn : GoodIn wsX8_lineAt wsX8_isIn := goodIn_r _ [16] (by decide +kernel) (by decide +kernel)
set_option maxRecDepth 20000 in
theorem gX8_lineAt_X8_isIn : GoodIn wsX8_lineAt (va_wsS RX8 77 yX8_isIn wsX8_isIn) := goodIn_app (goodIn_of _ (by decide +kernel)) ggX8_lineAt_X8_isIn
set_option maxRecDepth 20000 in
theorem ggX8_lineAt_X8_line : GoodIn wsX8_lineAt wsX8_line := goodIn_r _ [23, 24, 25, 26, 27, 28, 29, 30, 31, 32, 33, 34, 35, 36, 37, 38, 39, 40, 41, 42, 43, 44, 45, 46, 47, 48, 49, 50] (by decide +kernel) (by decide +kernel)
set_option maxRecDepth 20000 in
theorem gX8_lineAt_X8_line : GoodIn wsX8_lineAt (wsV RX8 85 RX8 yX8_line wsX8_line) := goodIn_app (goodIn_of _ (by decide +kernel)) ggX8_lineAt_X8_line
theorem dX8_lineAt_0 : decode cX8_lineAt 0 = .ok (.aload_n 0, 1) := by decide +kernel
theorem dX8_lineAt_1 : decode cX8_lineAt 1 = .ok (.iload_n 1, 1) := by decide +kernel
theorem dX8_lineAt_2 : decode cX8_lineAt 2 = .ok (.iload_n 2, 1) := by decide +kernel
theorem dX8_lineAt_3 : decode cX8_lineAt 3 = .ok (.invokevirtual 167, 3) := by decide +kernel
theorem dX8_lineAt_6 : decode cX8_lineAt 6 = .ok (.ifCond .ne 5, 3) := by decide +kernel
theorem dX8_lineAt_9 : decode cX8_lineAt 9 = .ok (.iconst 0, 1) := by decide +kernel
theorem dX8_lineAt_10 : decode cX8_lineAt 10 = .ok (.ireturn, 1) := by decide +kernel
theorem dX8_lineAt_11 : decode cX8_lineAt 11 = .ok (.aload_n 0, 1) := by decide +kernel
theorem dX8_lineAt_12 : decode cX8_lineAt 12 = .ok (.iload_n 3, 1) := by decide +kernel
theorem dX8_lineAt_13 : decode cX8_lineAt 13 = .ok (.iconst 0, 1) := by decide +kernel
theorem dX8_lineAt_14 : decode cX8_lineAt 14 = .ok (.aload_n 0, 1) := by decide +kernel
theorem dX8_lineAt_15 : decode cX8_lineAt 15 = .ok (.getfield 13, 3) := by decide +kernel
theorem dX8_lineAt_18 : decode cX8_lineAt 18 = .ok (.iload_n 1, 1) := by decide +kernel
theorem dX8_lineAt_19 : decode cX8_lineAt 19 = .ok (.iload_n 2, 1) := by decide +kernel
theorem dX8_lineAt_20 : decode cX8_lineAt 20 = .ok (.invokestatic 81, 3) := by decide +kernel
theorem dX8_lineAt_23 : decode cX8_lineAt 23 = .ok (.iaload, 1) := by decide +kernel
theorem dX8_lineAt_24 : decode cX8_lineAt 24 = .ok (.iconst 1, 1) := by decide +kernel
theorem dX8_lineAt_25 : decode cX8_lineAt 25 = .ok (.isub, 1) := by decide +kernel
theorem dX8_lineAt_26 : decode cX8_lineAt 26 = .ok (.invokestatic 77, 3) := by decide +kernel
theorem dX8_lineAt_29 : decode cX8_lineAt 29 = .ok (.ifCond .eq 7, 3) := by decide +kernel
theorem dX8_lineAt_32 : decode cX8_lineAt 32 = .ok (.iconst 0, 1) := by decide +kernel
theorem dX8_lineAt_33 : decode cX8_lineAt 33 = .ok (.goto 4, 3) := by decide +kernel
theorem dX8_lineAt_36 : decode cX8_lineAt 36 = .ok (.iconst 2, 1) := by decide +kernel
theorem dX8_lineAt_37 : decode cX8_lineAt 37 = .ok (.putfield 70, 3) := by decide +kernel
theorem dX8_lineAt_40 : decode cX8_lineAt 40 = .ok (.aload_n 0, 1) := by decide +kernel
theorem dX8_lineAt_41 : decode cX8_lineAt 41 = .ok (.getfield 70, 3) := by decide +kernel
theorem dX8_lineAt_44 : decode cX8_lineAt 44 = .ok (.ifCond .ne 16, 3) := by decide +kernel
theorem dX8_lineAt_47 : decode cX8_lineAt 47 = .ok (.aload_n 0, 1) := by decide +kernel
theorem dX8_lineAt_48 : decode cX8_lineAt 48 = .ok (.iload_n 1, 1) := by decide +kernel
theorem dX8_lineAt_49 : decode cX8_lineAt 49 = .ok (.iload_n 2, 1) := by decide +kernel
theorem dX8_lineAt_50 : decode cX8_lineAt 50 = .ok (.invokestatic 81, 3) := by decide +kernel
theorem dX8_lineAt_53 : decode cX8_lineAt 53 = .ok (.iload_n 3, 1) := by decide +kernel
theorem dX8_lineAt_54 : decode cX8_lineAt 54 = .ok (.invokevirtual 85, 3) := by decide +kernel
theorem dX8_lineAt_57 : decode cX8_lineAt 57 = .ok (.goto 4, 3) := by decide +kernel
theorem dX8_lineAt_60 : decode cX8_lineAt 60 = .ok (.iconst 0, 1) := by decide +kernel
theorem dX8_lineAt_61 : decode cX8_lineAt 61 = .ok (.ireturn, 1) := by decide +kernel
set_option maxRecDepth 20000 in
theorem ggX8_edits_X8_isRound : GoodIn wsX8_edits wsX8_isRound := goodIn_r _ [5, 6, 7, 8, 9, 10, 4, 11, 12, 13, 14, 15, 32, 33, 34, 35, 36, 37, 38, 39, 40, 41, 42, 43, 44, 45, 46, 47, 48, 49, 50, 51, 52, 53, 54, 55, 56, 57] (by decide +kernel) (by decide +kernel)
set_option maxRecDepth 20000 in
theorem gX8_edits_X8_isRound : GoodIn wsX8_edits (wsV RX8 167 RX8 yX8_isRound wsX8_isRound) := goodIn_app (goodIn_of _ (by decide +kernel)) ggX8_edits_X8_isRound
set_option maxRecDepth 20000 in
theorem ggX8_edits_X8_slot : GoodIn wsX8_edits wsX8_slot := goodIn_r _ [18] (by decide +kernel) (by decide +kernel)
set_option maxRecDepth 20000 in
theorem gX8_edits_X8_slot : GoodIn wsX8_edits (va_wsS RX8 81 yX8_slot wsX8_slot) := goodIn_app (goodIn_of _ (by decide +kernel)) ggX8_edits_X8_slot
set_option maxRecDepth 20000 in
theorem ggX8_edits_X8_scripts : GoodIn wsX8_edits wsX8_scripts := goodIn_r _ [22, 23, 24, 25, 26, 27, 28, 29, 4, 30, 31, 32, 33, 34, 35, 36, 37, 38, 39, 40, 41, 42, 43, 44, 45, 46, 47, 48, 49, 50, 51, 52, 53, 54, 55, 56, 57] (by decide +kernel) (by decide +kernel)
set_option maxRecDepth 20000 in
theorem gX8_edits_X8_scripts : GoodIn wsX8_edits (wsV RX8 91 RX8 yX8_scripts wsX8_scripts) := goodIn_app (goodIn_of _ (by decide +kernel)) ggX8_edits_X8_scripts
theorem dX8_edits_0 : decode cX8_edits 0 = .ok (.aload_n 0, 1) := by decide +kernel
theorem dX8_edits_1 : decode cX8_edits 1 = .ok (.iload_n 1, 1) := by decide +kernel
theorem dX8_edits_2 : decode cX8_edits 2 = .ok (.iload_n 2, 1) := by decide +kernel
theorem dX8_edits_3 : decode cX8_edits 3 = .ok (.invokevirtual 167, 3) := by decide +kernel
theorem dX8_edits_6 : decode cX8_edits 6 = .ok (.ifCond .eq 29, 3) := by decide +kernel
theorem dX8_edits_9 : decode cX8_edits 9 = .ok (.aload_n 0, 1) := by decide +kernel
theorem dX8_edits_10 : decode cX8_edits 10 = .ok (.iload_n 1, 1) := by decide +kernel
theorem dX8_edits_11 : decode cX8_edits 11 = .ok (.iload_n 3, 1) := by decide +kernel
theorem dX8_edits_12 : decode cX8_edits 12 = .ok (.invokevirtual 167, 3) := by decide +kernel
theorem dX8_edits_15 : decode cX8_edits 15 = .ok (.ifCond .eq 20, 3) := by decide +kernel
theorem dX8_edits_18 : decode cX8_edits 18 = .ok (.aload_n 0, 1) := by decide +kernel
theorem dX8_edits_19 : decode cX8_edits 19 = .ok (.iload_n 1, 1) := by decide +kernel
theorem dX8_edits_20 : decode cX8_edits 20 = .ok (.iload_n 2, 1) := by decide +kernel
theorem dX8_edits_21 : decode cX8_edits 21 = .ok (.invokestatic 81, 3) := by decide +kernel
theorem dX8_edits_24 : decode cX8_edits 24 = .ok (.iload_n 1, 1) := by decide +kernel
theorem dX8_edits_25 : decode cX8_edits 25 = .ok (.iload_n 3, 1) := by decide +kernel
theorem dX8_edits_26 : decode cX8_edits 26 = .ok (.invokestatic 81, 3) := by decide +kernel
theorem dX8_edits_29 : decode cX8_edits 29 = .ok (.invokevirtual 91, 3) := by decide +kernel
theorem dX8_edits_32 : decode cX8_edits 32 = .ok (.goto 4, 3) := by decide +kernel
theorem dX8_edits_35 : decode cX8_edits 35 = .ok (.iconst 0, 1) := by decide +kernel
theorem dX8_edits_36 : decode cX8_edits 36 = .ok (.ireturn, 1) := by decide +kernel
set_option maxRecDepth 20000 in
theorem ggX8_editsByWays_X8_edits : GoodIn wsX8_editsByWays wsX8_edits := goodIn_r _ [5, 6, 7, 8, 4, 9, 10, 11, 12, 13, 14, 15, 16, 17, 18, 19, 20, 21, 22, 23, 24, 25, 26, 27, 28, 29, 30, 31, 32, 33, 34, 35, 36, 37, 38, 39, 40, 41, 42, 43, 44, 45, 46, 47, 48, 49, 50, 51, 52, 53, 54, 55, 56, 57, 58, 59, 60, 61] (by decide +kernel) (by decide +kernel)
set_option maxRecDepth 20000 in
theorem gX8_editsByWays_X8_edits : GoodIn wsX8_editsByWays (wsV RX8 170 RX8 yX8_edits wsX8_edits) := goodIn_app (goodIn_of _ (by decide +kernel)) ggX8_editsByWays_X8_edits
theorem dX8_editsByWays_0 : decode cX8_editsByWays 0 = .ok (.aload_n 0, 1) := by decide +kernel
theorem dX8_editsByWays_1 : decode cX8_editsByWays 1 = .ok (.iload_n 1, 1) := by decide +kernel
theorem dX8_editsByWays_2 : decode cX8_editsByWays 2 = .ok (.iload_n 2, 1) := by decide +kernel
theorem dX8_editsByWays_3 : decode cX8_editsByWays 3 = .ok (.iload_n 3, 1) := by decide +kernel
theorem dX8_editsByWays_4 : decode cX8_editsByWays 4 = .ok (.invokevirtual 170, 3) := by decide +kernel
theorem dX8_editsByWays_7 : decode cX8_editsByWays 7 = .ok (.ireturn, 1) := by decide +kernel
set_option maxRecDepth 20000 in
theorem ggX8_ownerOf_X8_isIn : GoodIn wsX8_ownerOf wsX8_isIn := goodIn_r _ [5] (by decide +kernel) (by decide +kernel)
set_option maxRecDepth 20000 in
theorem gX8_ownerOf_X8_isIn : GoodIn wsX8_ownerOf (va_wsS RX8 77 yX8_isIn wsX8_isIn) := goodIn_app (goodIn_of _ (by decide +kernel)) ggX8_ownerOf_X8_isIn
set_option maxRecDepth 20000 in
theorem ggX8_ownerOf_X8_fail : GoodIn wsX8_ownerOf wsX8_fail := goodIn_r _ [9, 1, 18, 19, 20, 21, 22, 23, 24, 25, 26, 27, 28, 29, 30, 31, 32, 33, 34, 35, 36, 37, 38, 39, 40, 41, 42, 43] (by decide +kernel) (by decide +kernel)
set_option maxRecDepth 20000 in
theorem gX8_ownerOf_X8_fail : GoodIn wsX8_ownerOf (wsV RX8 121 RX8 yX8_fail wsX8_fail) := goodIn_app (goodIn_of _ (by decide +kernel)) ggX8_ownerOf_X8_fail
set_option maxRecDepth 20000 in
theorem ggX8_ownerOf_X8_ownerFor : GoodIn wsX8_ownerOf wsX8_ownerFor := goodIn_r _ [13, 14, 15, 16, 17, 18, 19, 20, 21, 22, 23, 24, 25, 26, 27, 28, 29, 30, 31, 32, 33, 34, 35, 36, 37, 38, 39, 40, 41, 42, 43] (by decide +kernel) (by decide +kernel)
set_option maxRecDepth 20000 in
theorem gX8_ownerOf_X8_ownerFor : GoodIn wsX8_ownerOf (wsV RX8 94 RX8 yX8_ownerFor wsX8_ownerFor) := goodIn_app (goodIn_of _ (by decide +kernel)) ggX8_ownerOf_X8_ownerFor
theorem dX8_ownerOf_0 : decode cX8_ownerOf 0 = .ok (.iload_n 1, 1) := by decide +kernel
theorem dX8_ownerOf_1 : decode cX8_ownerOf 1 = .ok (.iconst 0, 1) := by decide +kernel
theorem dX8_ownerOf_2 : decode cX8_ownerOf 2 = .ok (.bipush 99, 2) := by decide +kernel
theorem dX8_ownerOf_4 : decode cX8_ownerOf 4 = .ok (.invokestatic 77, 3) := by decide +kernel
theorem dX8_ownerOf_7 : decode cX8_ownerOf 7 = .ok (.ifCond .ne 9, 3) := by decide +kernel
theorem dX8_ownerOf_10 : decode cX8_ownerOf 10 = .ok (.aload_n 0, 1) := by decide +kernel
theorem dX8_ownerOf_11 : decode cX8_ownerOf 11 = .ok (.iconst 1, 1) := by decide +kernel
theorem dX8_ownerOf_12 : decode cX8_ownerOf 12 = .ok (.invokevirtual 121, 3) := by decide +kernel
theorem dX8_ownerOf_15 : decode cX8_ownerOf 15 = .ok (.ireturn, 1) := by decide +kernel
theorem dX8_ownerOf_16 : decode cX8_ownerOf 16 = .ok (.aload_n 0, 1) := by decide +kernel
theorem dX8_ownerOf_17 : decode cX8_ownerOf 17 = .ok (.iload_n 1, 1) := by decide +kernel
theorem dX8_ownerOf_18 : decode cX8_ownerOf 18 = .ok (.invokevirtual 94, 3) := by decide +kernel
theorem dX8_ownerOf_21 : decode cX8_ownerOf 21 = .ok (.istore_n 2, 1) := by decide +kernel
theorem dX8_ownerOf_22 : decode cX8_ownerOf 22 = .ok (.aload_n 0, 1) := by decide +kernel
theorem dX8_ownerOf_23 : decode cX8_ownerOf 23 = .ok (.iload_n 2, 1) := by decide +kernel
theorem dX8_ownerOf_24 : decode cX8_ownerOf 24 = .ok (.ifCond .ge 7, 3) := by decide +kernel
theorem dX8_ownerOf_27 : decode cX8_ownerOf 27 = .ok (.iconst 2, 1) := by decide +kernel
theorem dX8_ownerOf_28 : decode cX8_ownerOf 28 = .ok (.goto 4, 3) := by decide +kernel
theorem dX8_ownerOf_31 : decode cX8_ownerOf 31 = .ok (.iconst 0, 1) := by decide +kernel
theorem dX8_ownerOf_32 : decode cX8_ownerOf 32 = .ok (.putfield 70, 3) := by decide +kernel
theorem dX8_ownerOf_35 : decode cX8_ownerOf 35 = .ok (.iload_n 2, 1) := by decide +kernel
theorem dX8_ownerOf_36 : decode cX8_ownerOf 36 = .ok (.ifCond .ge 7, 3) := by decide +kernel
theorem dX8_ownerOf_39 : decode cX8_ownerOf 39 = .ok (.iconst 0, 1) := by decide +kernel
theorem dX8_ownerOf_40 : decode cX8_ownerOf 40 = .ok (.goto 4, 3) := by decide +kernel
theorem dX8_ownerOf_43 : decode cX8_ownerOf 43 = .ok (.iload_n 2, 1) := by decide +kernel
theorem dX8_ownerOf_44 : decode cX8_ownerOf 44 = .ok (.ireturn, 1) := by decide +kernel
set_option maxRecDepth 20000 in
theorem ggX8_needs_X8_isChange : GoodIn wsX8_needs wsX8_isChange := goodIn_r _ [6, 7, 8, 9, 5, 10, 52, 53, 54, 55, 56, 57, 58, 59, 60, 61, 62, 63, 64, 65, 66, 67, 68, 69, 70, 71, 72, 73, 74, 75, 76, 77] (by decide +kernel) (by decide +kernel)
set_option maxRecDepth 20000 in
theorem gX8_needs_X8_isChange : GoodIn wsX8_needs (wsV RX8 128 RX8 yX8_isChange wsX8_isChange) := goodIn_app (goodIn_of _ (by decide +kernel)) ggX8_needs_X8_isChange
set_option maxRecDepth 20000 in
theorem ggX8_needs_X8_isUser : GoodIn wsX8_needs wsX8_isUser := goodIn_r _ [13, 8, 9, 5, 10] (by decide +kernel) (by decide +kernel)
set_option maxRecDepth 20000 in
theorem gX8_needs_X8_isUser : GoodIn wsX8_needs (va_wsS RX8 117 yX8_isUser wsX8_isUser) := goodIn_app (goodIn_of _ (by decide +kernel)) ggX8_needs_X8_isUser
set_option maxRecDepth 20000 in
theorem ggX8_needs_X8_isNeeded : GoodIn wsX8_needs wsX8_isNeeded := goodIn_r _ [17, 18, 19, 20, 21, 22, 5, 23, 24, 25, 26, 27, 28, 29, 30, 31, 32, 33, 34, 35, 36, 37, 38, 39, 40, 41, 42, 43, 44, 45, 46, 47, 48, 49, 50, 51, 52, 53, 54, 55, 56, 57, 58, 59, 60, 61, 62, 63, 64, 65, 66, 67, 68, 69, 70, 71, 72, 73, 74, 75, 76, 77] (by decide +kernel) (by decide +kernel)
set_option maxRecDepth 20000 in
theorem gX8_needs_X8_isNeeded : GoodIn wsX8_needs (wsV RX8 111 RX8 yX8_isNeeded wsX8_isNeeded) := goodIn_app (goodIn_of _ (by decide +kernel)) ggX8_needs_X8_isNeeded
theorem dX8_needs_0 : decode cX8_needs 0 = .ok (.aload_n 0, 1) := by decide +kernel
theorem dX8_needs_1 : decode cX8_needs 1 = .ok (.aload_n 0, 1) := by decide +kernel
theorem dX8_needs_2 : decode cX8_needs 2 = .ok (.iload_n 1, 1) := by decide +kernel
theorem dX8_needs_3 : decode cX8_needs 3 = .ok (.invokevirtual 128, 3) := by decide +kernel
theorem dX8_needs_6 : decode cX8_needs 6 = .ok (.ifCond .eq 14, 3) := by decide +kernel
theorem dX8_needs_9 : decode cX8_needs 9 = .ok (.iload_n 2, 1) := by decide +kernel
theorem dX8_needs_10 : decode cX8_needs 10 = .ok (.invokestatic 117, 3) := by decide +kernel
theorem dX8_needs_13 : decode cX8_needs 13 = .ok (.ifCond .eq 7, 3) := by decide +kernel
theorem dX8_needs_16 : decode cX8_needs 16 = .ok (.iconst 0, 1) := by decide +kernel
theorem dX8_needs_17 : decode cX8_needs 17 = .ok (.goto 4, 3) := by decide +kernel
theorem dX8_needs_20 : decode cX8_needs 20 = .ok (.iconst 1, 1) := by decide +kernel
theorem dX8_needs_21 : decode cX8_needs 21 = .ok (.putfield 70, 3) := by decide +kernel
theorem dX8_needs_24 : decode cX8_needs 24 = .ok (.aload_n 0, 1) := by decide +kernel
theorem dX8_needs_25 : decode cX8_needs 25 = .ok (.getfield 70, 3) := by decide +kernel
theorem dX8_needs_28 : decode cX8_needs 28 = .ok (.ifCond .ne 16, 3) := by decide +kernel
theorem dX8_needs_31 : decode cX8_needs 31 = .ok (.aload_n 0, 1) := by decide +kernel
theorem dX8_needs_32 : decode cX8_needs 32 = .ok (.iload_n 1, 1) := by decide +kernel
theorem dX8_needs_33 : decode cX8_needs 33 = .ok (.iload_n 2, 1) := by decide +kernel
theorem dX8_needs_34 : decode cX8_needs 34 = .ok (.invokevirtual 111, 3) := by decide +kernel
theorem dX8_needs_37 : decode cX8_needs 37 = .ok (.ifCond .eq 7, 3) := by decide +kernel
theorem dX8_needs_40 : decode cX8_needs 40 = .ok (.iconst 1, 1) := by decide +kernel
theorem dX8_needs_41 : decode cX8_needs 41 = .ok (.goto 4, 3) := by decide +kernel
theorem dX8_needs_44 : decode cX8_needs 44 = .ok (.iconst 0, 1) := by decide +kernel
theorem dX8_needs_45 : decode cX8_needs 45 = .ok (.ireturn, 1) := by decide +kernel
set_option maxRecDepth 20000 in
theorem ggX8_placeIn_X8_isIn : GoodIn wsX8_placeIn wsX8_isIn := goodIn_r _ [11] (by decide +kernel) (by decide +kernel)
set_option maxRecDepth 20000 in
theorem gX8_placeIn_X8_isIn : GoodIn wsX8_placeIn (va_wsS RX8 77 yX8_isIn wsX8_isIn) := goodIn_app (goodIn_of _ (by decide +kernel)) ggX8_placeIn_X8_isIn
set_option maxRecDepth 20000 in
theorem ggX8_placeIn_X8_fail : GoodIn wsX8_placeIn wsX8_fail := goodIn_r _ [15, 7, 31, 32, 33, 34, 35, 36, 37, 38, 39, 40, 41, 42, 43, 44, 45, 46, 47, 48, 49, 50, 51, 52, 53, 54, 55, 56] (by decide +kernel) (by decide +kernel)
set_option maxRecDepth 20000 in
theorem gX8_placeIn_X8_fail : GoodIn wsX8_placeIn (wsV RX8 121 RX8 yX8_fail wsX8_fail) := goodIn_app (goodIn_of _ (by decide +kernel)) ggX8_placeIn_X8_fail
set_option maxRecDepth 20000 in
theorem ggX8_placeIn_X8_slot : GoodIn wsX8_placeIn wsX8_slot := goodIn_r _ [18] (by decide +kernel) (by decide +kernel)
set_option maxRecDepth 20000 in
theorem gX8_placeIn_X8_slot : GoodIn wsX8_placeIn (va_wsS RX8 81 yX8_slot wsX8_slot) := goodIn_app (goodIn_of _ (by decide +kernel)) ggX8_placeIn_X8_slot
set_option maxRecDepth 20000 in
theorem ggX8_placeIn_X8_scripts : GoodIn wsX8_placeIn wsX8_scripts := goodIn_r _ [22, 23, 24, 6, 25, 26, 27, 28, 10, 29, 30, 31, 32, 33, 34, 35, 36, 37, 38, 39, 40, 41, 42, 43, 44, 45, 46, 47, 48, 49, 50, 51, 52, 53, 54, 55, 56] (by decide +kernel) (by decide +kernel)
set_option maxRecDepth 20000 in
theorem gX8_placeIn_X8_scripts : GoodIn wsX8_placeIn (wsV RX8 91 RX8 yX8_scripts wsX8_scripts) := goodIn_app (goodIn_of _ (by decide +kernel)) ggX8_placeIn_X8_scripts
theorem dX8_placeIn_0 : decode cX8_placeIn 0 = .ok (.iload_n 1, 1) := by decide +kernel
theorem dX8_placeIn_1 : decode cX8_placeIn 1 = .ok (.iconst 0, 1) := by decide +kernel
theorem dX8_placeIn_2 : decode cX8_placeIn 2 = .ok (.aload_n 0, 1) := by decide +kernel
theorem dX8_placeIn_3 : decode cX8_placeIn 3 = .ok (.getfield 114, 3) := by decide +kernel
theorem dX8_placeIn_6 : decode cX8_placeIn 6 = .ok (.iconst 1, 1) := by decide +kernel
theorem dX8_placeIn_7 : decode cX8_placeIn 7 = .ok (.isub, 1) := by decide +kernel
theorem dX8_placeIn_8 : decode cX8_placeIn 8 = .ok (.invokestatic 77, 3) := by decide +kernel
theorem dX8_placeIn_11 : decode cX8_placeIn 11 = .ok (.ifCond .ne 9, 3) := by decide +kernel
theorem dX8_placeIn_14 : decode cX8_placeIn 14 = .ok (.aload_n 0, 1) := by decide +kernel
theorem dX8_placeIn_15 : decode cX8_placeIn 15 = .ok (.iconst 1, 1) := by decide +kernel
theorem dX8_placeIn_16 : decode cX8_placeIn 16 = .ok (.invokevirtual 121, 3) := by decide +kernel
theorem dX8_placeIn_19 : decode cX8_placeIn 19 = .ok (.ireturn, 1) := by decide +kernel
theorem dX8_placeIn_20 : decode cX8_placeIn 20 = .ok (.aload_n 0, 1) := by decide +kernel
theorem dX8_placeIn_21 : decode cX8_placeIn 21 = .ok (.getfield 46, 3) := by decide +kernel
theorem dX8_placeIn_24 : decode cX8_placeIn 24 = .ok (.iload_n 1, 1) := by decide +kernel
theorem dX8_placeIn_25 : decode cX8_placeIn 25 = .ok (.iaload, 1) := by decide +kernel
theorem dX8_placeIn_26 : decode cX8_placeIn 26 = .ok (.istore_n 3, 1) := by decide +kernel
theorem dX8_placeIn_27 : decode cX8_placeIn 27 = .ok (.aload_n 0, 1) := by decide +kernel
theorem dX8_placeIn_28 : decode cX8_placeIn 28 = .ok (.getfield 52, 3) := by decide +kernel
theorem dX8_placeIn_31 : decode cX8_placeIn 31 = .ok (.iload_n 1, 1) := by decide +kernel
theorem dX8_placeIn_32 : decode cX8_placeIn 32 = .ok (.iaload, 1) := by decide +kernel
theorem dX8_placeIn_33 : decode cX8_placeIn 33 = .ok (.istore 4, 2) := by decide +kernel
theorem dX8_placeIn_35 : decode cX8_placeIn 35 = .ok (.iload_n 2, 1) := by decide +kernel
theorem dX8_placeIn_36 : decode cX8_placeIn 36 = .ok (.aload_n 0, 1) := by decide +kernel
theorem dX8_placeIn_37 : decode cX8_placeIn 37 = .ok (.getfield 49, 3) := by decide +kernel
theorem dX8_placeIn_40 : decode cX8_placeIn 40 = .ok (.iload_n 1, 1) := by decide +kernel
theorem dX8_placeIn_41 : decode cX8_placeIn 41 = .ok (.iaload, 1) := by decide +kernel
theorem dX8_placeIn_42 : decode cX8_placeIn 42 = .ok (.aload_n 0, 1) := by decide +kernel
theorem dX8_placeIn_43 : decode cX8_placeIn 43 = .ok (.getfield 28, 3) := by decide +kernel
theorem dX8_placeIn_46 : decode cX8_placeIn 46 = .ok (.iload_n 3, 1) := by decide +kernel
theorem dX8_placeIn_47 : decode cX8_placeIn 47 = .ok (.iaload, 1) := by decide +kernel
theorem dX8_placeIn_48 : decode cX8_placeIn 48 = .ok (.iconst 1, 1) := by decide +kernel
theorem dX8_placeIn_49 : decode cX8_placeIn 49 = .ok (.isub, 1) := by decide +kernel
theorem dX8_placeIn_50 : decode cX8_placeIn 50 = .ok (.invokestatic 77, 3) := by decide +kernel
theorem dX8_placeIn_53 : decode cX8_placeIn 53 = .ok (.ifCond .ne 9, 3) := by decide +kernel
theorem dX8_placeIn_56 : decode cX8_placeIn 56 = .ok (.aload_n 0, 1) := by decide +kernel
theorem dX8_placeIn_57 : decode cX8_placeIn 57 = .ok (.iconst 2, 1) := by decide +kernel
theorem dX8_placeIn_58 : decode cX8_placeIn 58 = .ok (.invokevirtual 121, 3) := by decide +kernel
theorem dX8_placeIn_61 : decode cX8_placeIn 61 = .ok (.ireturn, 1) := by decide +kernel
theorem dX8_placeIn_62 : decode cX8_placeIn 62 = .ok (.aload_n 0, 1) := by decide +kernel
theorem dX8_placeIn_63 : decode cX8_placeIn 63 = .ok (.getfield 49, 3) := by decide +kernel
theorem dX8_placeIn_66 : decode cX8_placeIn 66 = .ok (.iload_n 1, 1) := by decide +kernel
theorem dX8_placeIn_67 : decode cX8_placeIn 67 = .ok (.iaload, 1) := by decide +kernel
theorem dX8_placeIn_68 : decode cX8_placeIn 68 = .ok (.istore 5, 2) := by decide +kernel
theorem dX8_placeIn_70 : decode cX8_placeIn 70 = .ok (.iload 5, 2) := by decide +kernel
theorem dX8_placeIn_72 : decode cX8_placeIn 72 = .ok (.iload_n 2, 1) := by decide +kernel
theorem dX8_placeIn_73 : decode cX8_placeIn 73 = .ok (.if_icmp .ge 43, 3) := by decide +kernel
theorem dX8_placeIn_76 : decode cX8_placeIn 76 = .ok (.iload 4, 2) := by decide +kernel
theorem dX8_placeIn_78 : decode cX8_placeIn 78 = .ok (.ifCond .lt 38, 3) := by decide +kernel
theorem dX8_placeIn_81 : decode cX8_placeIn 81 = .ok (.aload_n 0, 1) := by decide +kernel
theorem dX8_placeIn_82 : decode cX8_placeIn 82 = .ok (.iload_n 3, 1) := by decide +kernel
theorem dX8_placeIn_83 : decode cX8_placeIn 83 = .ok (.iload 5, 2) := by decide +kernel
theorem dX8_placeIn_85 : decode cX8_placeIn 85 = .ok (.invokestatic 81, 3) := by decide +kernel
theorem dX8_placeIn_88 : decode cX8_placeIn 88 = .ok (.iload_n 3, 1) := by decide +kernel
theorem dX8_placeIn_89 : decode cX8_placeIn 89 = .ok (.iload 5, 2) := by decide +kernel
theorem dX8_placeIn_91 : decode cX8_placeIn 91 = .ok (.iconst 1, 1) := by decide +kernel
theorem dX8_placeIn_92 : decode cX8_placeIn 92 = .ok (.iadd, 1) := by decide +kernel
theorem dX8_placeIn_93 : decode cX8_placeIn 93 = .ok (.invokestatic 81, 3) := by decide +kernel
theorem dX8_placeIn_96 : decode cX8_placeIn 96 = .ok (.invokevirtual 91, 3) := by decide +kernel
theorem dX8_placeIn_99 : decode cX8_placeIn 99 = .ok (.istore 6, 2) := by decide +kernel
theorem dX8_placeIn_101 : decode cX8_placeIn 101 = .ok (.aload_n 0, 1) := by decide +kernel
theorem dX8_placeIn_102 : decode cX8_placeIn 102 = .ok (.getfield 61, 3) := by decide +kernel
theorem dX8_placeIn_105 : decode cX8_placeIn 105 = .ok (.iload 4, 2) := by decide +kernel
theorem dX8_placeIn_107 : decode cX8_placeIn 107 = .ok (.iaload, 1) := by decide +kernel
theorem dX8_placeIn_108 : decode cX8_placeIn 108 = .ok (.istore 4, 2) := by decide +kernel
theorem dX8_placeIn_110 : decode cX8_placeIn 110 = .ok (.iinc 5 1, 3) := by decide +kernel
theorem dX8_placeIn_113 : decode cX8_placeIn 113 = .ok (.goto (-43), 3) := by decide +kernel
theorem dX8_placeIn_116 : decode cX8_placeIn 116 = .ok (.aload_n 0, 1) := by decide +kernel
theorem dX8_placeIn_117 : decode cX8_placeIn 117 = .ok (.iload 4, 2) := by decide +kernel
theorem dX8_placeIn_119 : decode cX8_placeIn 119 = .ok (.ifCond .ge 7, 3) := by decide +kernel
theorem dX8_placeIn_122 : decode cX8_placeIn 122 = .ok (.iconst 2, 1) := by decide +kernel
theorem dX8_placeIn_123 : decode cX8_placeIn 123 = .ok (.goto 4, 3) := by decide +kernel
theorem dX8_placeIn_126 : decode cX8_placeIn 126 = .ok (.iconst 0, 1) := by decide +kernel
theorem dX8_placeIn_127 : decode cX8_placeIn 127 = .ok (.putfield 70, 3) := by decide +kernel
theorem dX8_placeIn_130 : decode cX8_placeIn 130 = .ok (.iload 4, 2) := by decide +kernel
theorem dX8_placeIn_132 : decode cX8_placeIn 132 = .ok (.ifCond .ge 7, 3) := by decide +kernel
theorem dX8_placeIn_135 : decode cX8_placeIn 135 = .ok (.iconst 0, 1) := by decide +kernel
theorem dX8_placeIn_136 : decode cX8_placeIn 136 = .ok (.goto 5, 3) := by decide +kernel
theorem dX8_placeIn_139 : decode cX8_placeIn 139 = .ok (.iload 4, 2) := by decide +kernel
theorem dX8_placeIn_141 : decode cX8_placeIn 141 = .ok (.ireturn, 1) := by decide +kernel
set_option maxRecDepth 20000 in
theorem ggX8_placeByComparing_X8_placeIn : GoodIn wsX8_placeByComparing wsX8_placeIn := goodIn_r _ [5, 6, 7, 8, 9, 10, 11, 12, 13, 14, 4, 15, 16, 17, 18, 19, 20, 21, 22, 23, 24, 25, 26, 27, 28, 29, 30, 31, 32, 33, 34, 35, 36, 37, 38, 39, 40, 41, 42, 43, 44, 45, 46, 47, 48, 49, 50, 51, 52, 53, 54, 55, 56, 57, 58, 59, 60] (by decide +kernel) (by decide +kernel)
set_option maxRecDepth 20000 in
theorem gX8_placeByComparing_X8_placeIn : GoodIn wsX8_placeByComparing (wsV RX8 174 RX8 yX8_placeIn wsX8_placeIn) := goodIn_app (goodIn_of _ (by decide +kernel)) ggX8_placeByComparing_X8_placeIn
theorem dX8_placeByComparing_0 : decode cX8_placeByComparing 0 = .ok (.aload_n 0, 1) := by decide +kernel
theorem dX8_placeByComparing_1 : decode cX8_placeByComparing 1 = .ok (.iload_n 1, 1) := by decide +kernel
theorem dX8_placeByComparing_2 : decode cX8_placeByComparing 2 = .ok (.iload_n 2, 1) := by decide +kernel
theorem dX8_placeByComparing_3 : decode cX8_placeByComparing 3 = .ok (.invokevirtual 174, 3) := by decide +kernel
theorem dX8_placeByComparing_6 : decode cX8_placeByComparing 6 = .ok (.ireturn, 1) := by decide +kernel
set_option maxRecDepth 20000 in
theorem ggX8_isOpen_X8_isIn : GoodIn wsX8_isOpen wsX8_isIn := goodIn_r _ [7] (by decide +kernel) (by decide +kernel)
set_option maxRecDepth 20000 in
theorem gX8_isOpen_X8_isIn : GoodIn wsX8_isOpen (va_wsS RX8 77 yX8_isIn wsX8_isIn) := goodIn_app (goodIn_of _ (by decide +kernel)) ggX8_isOpen_X8_isIn
theorem dX8_isOpen_0 : decode cX8_isOpen 0 = .ok (.aload_n 0, 1) := by decide +kernel
theorem dX8_isOpen_1 : decode cX8_isOpen 1 = .ok (.iload_n 1, 1) := by decide +kernel
theorem dX8_isOpen_2 : decode cX8_isOpen 2 = .ok (.iconst 0, 1) := by decide +kernel
theorem dX8_isOpen_3 : decode cX8_isOpen 3 = .ok (.aload_n 0, 1) := by decide +kernel
theorem dX8_isOpen_4 : decode cX8_isOpen 4 = .ok (.getfield 114, 3) := by decide +kernel
theorem dX8_isOpen_7 : decode cX8_isOpen 7 = .ok (.iconst 1, 1) := by decide +kernel
theorem dX8_isOpen_8 : decode cX8_isOpen 8 = .ok (.isub, 1) := by decide +kernel
theorem dX8_isOpen_9 : decode cX8_isOpen 9 = .ok (.invokestatic 77, 3) := by decide +kernel
theorem dX8_isOpen_12 : decode cX8_isOpen 12 = .ok (.ifCond .eq 7, 3) := by decide +kernel
theorem dX8_isOpen_15 : decode cX8_isOpen 15 = .ok (.iconst 0, 1) := by decide +kernel
theorem dX8_isOpen_16 : decode cX8_isOpen 16 = .ok (.goto 4, 3) := by decide +kernel
theorem dX8_isOpen_19 : decode cX8_isOpen 19 = .ok (.iconst 1, 1) := by decide +kernel
theorem dX8_isOpen_20 : decode cX8_isOpen 20 = .ok (.putfield 70, 3) := by decide +kernel
theorem dX8_isOpen_23 : decode cX8_isOpen 23 = .ok (.aload_n 0, 1) := by decide +kernel
theorem dX8_isOpen_24 : decode cX8_isOpen 24 = .ok (.getfield 70, 3) := by decide +kernel
theorem dX8_isOpen_27 : decode cX8_isOpen 27 = .ok (.ifCond .ne 16, 3) := by decide +kernel
theorem dX8_isOpen_30 : decode cX8_isOpen 30 = .ok (.aload_n 0, 1) := by decide +kernel
theorem dX8_isOpen_31 : decode cX8_isOpen 31 = .ok (.getfield 55, 3) := by decide +kernel
theorem dX8_isOpen_34 : decode cX8_isOpen 34 = .ok (.iload_n 1, 1) := by decide +kernel
theorem dX8_isOpen_35 : decode cX8_isOpen 35 = .ok (.iaload, 1) := by decide +kernel
theorem dX8_isOpen_36 : decode cX8_isOpen 36 = .ok (.ifCond .ne 7, 3) := by decide +kernel
theorem dX8_isOpen_39 : decode cX8_isOpen 39 = .ok (.iconst 1, 1) := by decide +kernel
theorem dX8_isOpen_40 : decode cX8_isOpen 40 = .ok (.goto 4, 3) := by decide +kernel
theorem dX8_isOpen_43 : decode cX8_isOpen 43 = .ok (.iconst 0, 1) := by decide +kernel
theorem dX8_isOpen_44 : decode cX8_isOpen 44 = .ok (.ireturn, 1) := by decide +kernel
set_option maxRecDepth 20000 in
theorem ggX8_openComments_X8_isChange : GoodIn wsX8_openComments wsX8_isChange := goodIn_r _ [6, 7, 8, 9, 5, 10, 18, 19, 20, 21, 22, 23, 24, 25, 26, 27, 28, 29, 30, 31, 32, 33, 34, 35, 36, 37, 38, 39, 40, 41, 42, 43] (by decide +kernel) (by decide +kernel)
set_option maxRecDepth 20000 in
theorem gX8_openComments_X8_isChange : GoodIn wsX8_openComments (wsV RX8 128 RX8 yX8_isChange wsX8_isChange) := goodIn_app (goodIn_of _ (by decide +kernel)) ggX8_openComments_X8_isChange
set_option maxRecDepth 20000 in
theorem ggX8_openComments_X8_opens : GoodIn wsX8_openComments wsX8_opens := goodIn_r _ [14, 15, 16, 17, 18, 19, 20, 21, 22, 23, 24, 25, 26, 27, 28, 29, 30, 31, 32, 33, 34, 35, 36, 37, 38, 39, 40, 41, 42, 43] (by decide +kernel) (by decide +kernel)
set_option maxRecDepth 20000 in
theorem gX8_openComments_X8_opens : GoodIn wsX8_openComments (wsV RX8 134 RX8 yX8_opens wsX8_opens) := goodIn_app (goodIn_of _ (by decide +kernel)) ggX8_openComments_X8_opens
theorem dX8_openComments_0 : decode cX8_openComments 0 = .ok (.aload_n 0, 1) := by decide +kernel
theorem dX8_openComments_1 : decode cX8_openComments 1 = .ok (.aload_n 0, 1) := by decide +kernel
theorem dX8_openComments_2 : decode cX8_openComments 2 = .ok (.iload_n 1, 1) := by decide +kernel
theorem dX8_openComments_3 : decode cX8_openComments 3 = .ok (.invokevirtual 128, 3) := by decide +kernel
theorem dX8_openComments_6 : decode cX8_openComments 6 = .ok (.ifCond .eq 7, 3) := by decide +kernel
theorem dX8_openComments_9 : decode cX8_openComments 9 = .ok (.iconst 0, 1) := by decide +kernel
theorem dX8_openComments_10 : decode cX8_openComments 10 = .ok (.goto 4, 3) := by decide +kernel
theorem dX8_openComments_13 : decode cX8_openComments 13 = .ok (.iconst 1, 1) := by decide +kernel
theorem dX8_openComments_14 : decode cX8_openComments 14 = .ok (.putfield 70, 3) := by decide +kernel
theorem dX8_openComments_17 : decode cX8_openComments 17 = .ok (.aload_n 0, 1) := by decide +kernel
theorem dX8_openComments_18 : decode cX8_openComments 18 = .ok (.getfield 70, 3) := by decide +kernel
theorem dX8_openComments_21 : decode cX8_openComments 21 = .ok (.ifCond .ne 11, 3) := by decide +kernel
theorem dX8_openComments_24 : decode cX8_openComments 24 = .ok (.aload_n 0, 1) := by decide +kernel
theorem dX8_openComments_25 : decode cX8_openComments 25 = .ok (.iload_n 1, 1) := by decide +kernel
theorem dX8_openComments_26 : decode cX8_openComments 26 = .ok (.invokevirtual 134, 3) := by decide +kernel
theorem dX8_openComments_29 : decode cX8_openComments 29 = .ok (.goto 4, 3) := by decide +kernel
theorem dX8_openComments_32 : decode cX8_openComments 32 = .ok (.iconst 0, 1) := by decide +kernel
theorem dX8_openComments_33 : decode cX8_openComments 33 = .ok (.ireturn, 1) := by decide +kernel
set_option maxRecDepth 20000 in
theorem ggX8_hasApproved_X8_isChange : GoodIn wsX8_hasApproved wsX8_isChange := goodIn_r _ [6, 7, 8, 9, 5, 10, 19, 20, 21, 22, 23, 24, 25, 26, 27, 28, 29, 30, 31, 32, 33, 34, 35, 36, 37, 38, 39, 40, 41, 42, 43, 44] (by decide +kernel) (by decide +kernel)
set_option maxRecDepth 20000 in
theorem gX8_hasApproved_X8_isChange : GoodIn wsX8_hasApproved (wsV RX8 128 RX8 yX8_isChange wsX8_isChange) := goodIn_app (goodIn_of _ (by decide +kernel)) ggX8_hasApproved_X8_isChange
set_option maxRecDepth 20000 in
theorem ggX8_hasApproved_X8_isUser : GoodIn wsX8_hasApproved wsX8_isUser := goodIn_r _ [13, 8, 9, 5, 10] (by decide +kernel) (by decide +kernel)
set_option maxRecDepth 20000 in
theorem gX8_hasApproved_X8_isUser : GoodIn wsX8_hasApproved (va_wsS RX8 117 yX8_isUser wsX8_isUser) := goodIn_app (goodIn_of _ (by decide +kernel)) ggX8_hasApproved_X8_isUser
set_option maxRecDepth 20000 in
theorem ggX8_hasApproved_X8_given : GoodIn wsX8_hasApproved wsX8_given := goodIn_r _ [17, 18, 19, 20, 21, 22, 23, 24, 25, 26, 27, 28, 29, 30, 31, 32, 33, 34, 35, 36, 37, 38, 39, 40, 41, 42, 43, 44] (by decide +kernel) (by decide +kernel)
set_option maxRecDepth 20000 in
theorem gX8_hasApproved_X8_given : GoodIn wsX8_hasApproved (wsV RX8 104 RX8 yX8_given wsX8_given) := goodIn_app (goodIn_of _ (by decide +kernel)) ggX8_hasApproved_X8_given
theorem dX8_hasApproved_0 : decode cX8_hasApproved 0 = .ok (.aload_n 0, 1) := by decide +kernel
theorem dX8_hasApproved_1 : decode cX8_hasApproved 1 = .ok (.aload_n 0, 1) := by decide +kernel
theorem dX8_hasApproved_2 : decode cX8_hasApproved 2 = .ok (.iload_n 1, 1) := by decide +kernel
theorem dX8_hasApproved_3 : decode cX8_hasApproved 3 = .ok (.invokevirtual 128, 3) := by decide +kernel
theorem dX8_hasApproved_6 : decode cX8_hasApproved 6 = .ok (.ifCond .eq 14, 3) := by decide +kernel
theorem dX8_hasApproved_9 : decode cX8_hasApproved 9 = .ok (.iload_n 2, 1) := by decide +kernel
theorem dX8_hasApproved_10 : decode cX8_hasApproved 10 = .ok (.invokestatic 117, 3) := by decide +kernel
theorem dX8_hasApproved_13 : decode cX8_hasApproved 13 = .ok (.ifCond .eq 7, 3) := by decide +kernel
theorem dX8_hasApproved_16 : decode cX8_hasApproved 16 = .ok (.iconst 0, 1) := by decide +kernel
theorem dX8_hasApproved_17 : decode cX8_hasApproved 17 = .ok (.goto 4, 3) := by decide +kernel
theorem dX8_hasApproved_20 : decode cX8_hasApproved 20 = .ok (.iconst 1, 1) := by decide +kernel
theorem dX8_hasApproved_21 : decode cX8_hasApproved 21 = .ok (.putfield 70, 3) := by decide +kernel
theorem dX8_hasApproved_24 : decode cX8_hasApproved 24 = .ok (.aload_n 0, 1) := by decide +kernel
theorem dX8_hasApproved_25 : decode cX8_hasApproved 25 = .ok (.getfield 70, 3) := by decide +kernel
theorem dX8_hasApproved_28 : decode cX8_hasApproved 28 = .ok (.ifCond .ne 16, 3) := by decide +kernel
theorem dX8_hasApproved_31 : decode cX8_hasApproved 31 = .ok (.aload_n 0, 1) := by decide +kernel
theorem dX8_hasApproved_32 : decode cX8_hasApproved 32 = .ok (.iload_n 1, 1) := by decide +kernel
theorem dX8_hasApproved_33 : decode cX8_hasApproved 33 = .ok (.iload_n 2, 1) := by decide +kernel
theorem dX8_hasApproved_34 : decode cX8_hasApproved 34 = .ok (.invokevirtual 104, 3) := by decide +kernel
theorem dX8_hasApproved_37 : decode cX8_hasApproved 37 = .ok (.ifCond .lt 7, 3) := by decide +kernel
theorem dX8_hasApproved_40 : decode cX8_hasApproved 40 = .ok (.iconst 1, 1) := by decide +kernel
theorem dX8_hasApproved_41 : decode cX8_hasApproved 41 = .ok (.goto 4, 3) := by decide +kernel
theorem dX8_hasApproved_44 : decode cX8_hasApproved 44 = .ok (.iconst 0, 1) := by decide +kernel
theorem dX8_hasApproved_45 : decode cX8_hasApproved 45 = .ok (.ireturn, 1) := by decide +kernel
set_option maxRecDepth 20000 in
theorem ggX8_isStale_X8_isChange : GoodIn wsX8_isStale wsX8_isChange := goodIn_r _ [6, 7, 8, 9, 5, 10, 52, 53, 54, 55, 56, 57, 58, 59, 60, 61, 62, 63, 64, 65, 66, 67, 68, 69, 70, 71, 72, 73, 74, 75, 76, 77] (by decide +kernel) (by decide +kernel)
set_option maxRecDepth 20000 in
theorem gX8_isStale_X8_isChange : GoodIn wsX8_isStale (wsV RX8 128 RX8 yX8_isChange wsX8_isChange) := goodIn_app (goodIn_of _ (by decide +kernel)) ggX8_isStale_X8_isChange
set_option maxRecDepth 20000 in
theorem ggX8_isStale_X8_isUser : GoodIn wsX8_isStale wsX8_isUser := goodIn_r _ [13, 8, 9, 5, 10] (by decide +kernel) (by decide +kernel)
set_option maxRecDepth 20000 in
theorem gX8_isStale_X8_isUser : GoodIn wsX8_isStale (va_wsS RX8 117 yX8_isUser wsX8_isUser) := goodIn_app (goodIn_of _ (by decide +kernel)) ggX8_isStale_X8_isUser
set_option maxRecDepth 20000 in
theorem ggX8_isStale_X8_given : GoodIn wsX8_isStale wsX8_given := goodIn_r _ [17, 18, 52, 53, 54, 55, 56, 57, 58, 59, 60, 61, 62, 63, 64, 65, 66, 67, 68, 69, 70, 71, 72, 73, 74, 75, 76, 77] (by decide +kernel) (by decide +kernel)
set_option maxRecDepth 20000 in
theorem gX8_isStale_X8_given : GoodIn wsX8_isStale (wsV RX8 104 RX8 yX8_given wsX8_given) := goodIn_app (goodIn_of _ (by decide +kernel)) ggX8_isStale_X8_given
set_option maxRecDepth 20000 in
theorem ggX8_isStale_X8_isOld : GoodIn wsX8_isStale wsX8_isOld := goodIn_r _ [22, 23, 14, 15, 16, 5, 17, 18, 24, 25, 26, 27, 28, 29, 30, 31, 32, 33, 34, 35, 36, 37, 38, 39, 40, 41, 42, 43, 44, 45, 46, 47, 48, 49, 50, 51, 52, 53, 54, 55, 56, 57, 58, 59, 60, 61, 62, 63, 64, 65, 66, 67, 68, 69, 70, 71, 72, 73, 74, 75, 76, 77] (by decide +kernel) (by decide +kernel)
set_option maxRecDepth 20000 in
theorem gX8_isStale_X8_isOld : GoodIn wsX8_isStale (wsV RX8 107 RX8 yX8_isOld wsX8_isOld) := goodIn_app (goodIn_of _ (by decide +kernel)) ggX8_isStale_X8_isOld
theorem dX8_isStale_0 : decode cX8_isStale 0 = .ok (.aload_n 0, 1) := by decide +kernel
theorem dX8_isStale_1 : decode cX8_isStale 1 = .ok (.aload_n 0, 1) := by decide +kernel
theorem dX8_isStale_2 : decode cX8_isStale 2 = .ok (.iload_n 1, 1) := by decide +kernel
theorem dX8_isStale_3 : decode cX8_isStale 3 = .ok (.invokevirtual 128, 3) := by decide +kernel
theorem dX8_isStale_6 : decode cX8_isStale 6 = .ok (.ifCond .eq 10, 3) := by decide +kernel
theorem dX8_isStale_9 : decode cX8_isStale 9 = .ok (.iload_n 2, 1) := by decide +kernel
theorem dX8_isStale_10 : decode cX8_isStale 10 = .ok (.invokestatic 117, 3) := by decide +kernel
theorem dX8_isStale_13 : decode cX8_isStale 13 = .ok (.ifCond .ne 7, 3) := by decide +kernel
theorem dX8_isStale_16 : decode cX8_isStale 16 = .ok (.iconst 1, 1) := by decide +kernel
theorem dX8_isStale_17 : decode cX8_isStale 17 = .ok (.goto 17, 3) := by decide +kernel
theorem dX8_isStale_20 : decode cX8_isStale 20 = .ok (.aload_n 0, 1) := by decide +kernel
theorem dX8_isStale_21 : decode cX8_isStale 21 = .ok (.iload_n 1, 1) := by decide +kernel
theorem dX8_isStale_22 : decode cX8_isStale 22 = .ok (.iload_n 2, 1) := by decide +kernel
theorem dX8_isStale_23 : decode cX8_isStale 23 = .ok (.invokevirtual 104, 3) := by decide +kernel
theorem dX8_isStale_26 : decode cX8_isStale 26 = .ok (.ifCond .ge 7, 3) := by decide +kernel
theorem dX8_isStale_29 : decode cX8_isStale 29 = .ok (.iconst 2, 1) := by decide +kernel
theorem dX8_isStale_30 : decode cX8_isStale 30 = .ok (.goto 4, 3) := by decide +kernel
theorem dX8_isStale_33 : decode cX8_isStale 33 = .ok (.iconst 0, 1) := by decide +kernel
theorem dX8_isStale_34 : decode cX8_isStale 34 = .ok (.putfield 70, 3) := by decide +kernel
theorem dX8_isStale_37 : decode cX8_isStale 37 = .ok (.aload_n 0, 1) := by decide +kernel
theorem dX8_isStale_38 : decode cX8_isStale 38 = .ok (.getfield 70, 3) := by decide +kernel
theorem dX8_isStale_41 : decode cX8_isStale 41 = .ok (.ifCond .ne 16, 3) := by decide +kernel
theorem dX8_isStale_44 : decode cX8_isStale 44 = .ok (.aload_n 0, 1) := by decide +kernel
theorem dX8_isStale_45 : decode cX8_isStale 45 = .ok (.iload_n 1, 1) := by decide +kernel
theorem dX8_isStale_46 : decode cX8_isStale 46 = .ok (.iload_n 2, 1) := by decide +kernel
theorem dX8_isStale_47 : decode cX8_isStale 47 = .ok (.invokevirtual 107, 3) := by decide +kernel
theorem dX8_isStale_50 : decode cX8_isStale 50 = .ok (.ifCond .eq 7, 3) := by decide +kernel
theorem dX8_isStale_53 : decode cX8_isStale 53 = .ok (.iconst 1, 1) := by decide +kernel
theorem dX8_isStale_54 : decode cX8_isStale 54 = .ok (.goto 4, 3) := by decide +kernel
theorem dX8_isStale_57 : decode cX8_isStale 57 = .ok (.iconst 0, 1) := by decide +kernel
theorem dX8_isStale_58 : decode cX8_isStale 58 = .ok (.ireturn, 1) := by decide +kernel
theorem dJ6_bitCount_0f7a4_0 : decode cJ6_bitCount_0f7a4 0 = .ok (.iload_n 0, 1) := by decide +kernel
theorem dJ6_bitCount_0f7a4_1 : decode cJ6_bitCount_0f7a4 1 = .ok (.iload_n 0, 1) := by decide +kernel
theorem dJ6_bitCount_0f7a4_2 : decode cJ6_bitCount_0f7a4 2 = .ok (.iconst 1, 1) := by decide +kernel
theorem dJ6_bitCount_0f7a4_3 : decode cJ6_bitCount_0f7a4 3 = .ok (.iushr, 1) := by decide +kernel
theorem dJ6_bitCount_0f7a4_4 : decode cJ6_bitCount_0f7a4 4 = .ok (.ldc_w 265, 3) := by decide +kernel
theorem dJ6_bitCount_0f7a4_7 : decode cJ6_bitCount_0f7a4 7 = .ok (.iand, 1) := by decide +kernel
theorem dJ6_bitCount_0f7a4_8 : decode cJ6_bitCount_0f7a4 8 = .ok (.isub, 1) := by decide +kernel
theorem dJ6_bitCount_0f7a4_9 : decode cJ6_bitCount_0f7a4 9 = .ok (.istore_n 0, 1) := by decide +kernel
theorem dJ6_bitCount_0f7a4_10 : decode cJ6_bitCount_0f7a4 10 = .ok (.iload_n 0, 1) := by decide +kernel
theorem dJ6_bitCount_0f7a4_11 : decode cJ6_bitCount_0f7a4 11 = .ok (.ldc_w 266, 3) := by decide +kernel
theorem dJ6_bitCount_0f7a4_14 : decode cJ6_bitCount_0f7a4 14 = .ok (.iand, 1) := by decide +kernel
theorem dJ6_bitCount_0f7a4_15 : decode cJ6_bitCount_0f7a4 15 = .ok (.iload_n 0, 1) := by decide +kernel
theorem dJ6_bitCount_0f7a4_16 : decode cJ6_bitCount_0f7a4 16 = .ok (.iconst 2, 1) := by decide +kernel
theorem dJ6_bitCount_0f7a4_17 : decode cJ6_bitCount_0f7a4 17 = .ok (.iushr, 1) := by decide +kernel
theorem dJ6_bitCount_0f7a4_18 : decode cJ6_bitCount_0f7a4 18 = .ok (.ldc_w 266, 3) := by decide +kernel
theorem dJ6_bitCount_0f7a4_21 : decode cJ6_bitCount_0f7a4 21 = .ok (.iand, 1) := by decide +kernel
theorem dJ6_bitCount_0f7a4_22 : decode cJ6_bitCount_0f7a4 22 = .ok (.iadd, 1) := by decide +kernel
theorem dJ6_bitCount_0f7a4_23 : decode cJ6_bitCount_0f7a4 23 = .ok (.istore_n 0, 1) := by decide +kernel
theorem dJ6_bitCount_0f7a4_24 : decode cJ6_bitCount_0f7a4 24 = .ok (.iload_n 0, 1) := by decide +kernel
theorem dJ6_bitCount_0f7a4_25 : decode cJ6_bitCount_0f7a4 25 = .ok (.iload_n 0, 1) := by decide +kernel
theorem dJ6_bitCount_0f7a4_26 : decode cJ6_bitCount_0f7a4 26 = .ok (.iconst 4, 1) := by decide +kernel
theorem dJ6_bitCount_0f7a4_27 : decode cJ6_bitCount_0f7a4 27 = .ok (.iushr, 1) := by decide +kernel
theorem dJ6_bitCount_0f7a4_28 : decode cJ6_bitCount_0f7a4 28 = .ok (.iadd, 1) := by decide +kernel
theorem dJ6_bitCount_0f7a4_29 : decode cJ6_bitCount_0f7a4 29 = .ok (.ldc_w 267, 3) := by decide +kernel
theorem dJ6_bitCount_0f7a4_32 : decode cJ6_bitCount_0f7a4 32 = .ok (.iand, 1) := by decide +kernel
theorem dJ6_bitCount_0f7a4_33 : decode cJ6_bitCount_0f7a4 33 = .ok (.istore_n 0, 1) := by decide +kernel
theorem dJ6_bitCount_0f7a4_34 : decode cJ6_bitCount_0f7a4 34 = .ok (.iload_n 0, 1) := by decide +kernel
theorem dJ6_bitCount_0f7a4_35 : decode cJ6_bitCount_0f7a4 35 = .ok (.iload_n 0, 1) := by decide +kernel
theorem dJ6_bitCount_0f7a4_36 : decode cJ6_bitCount_0f7a4 36 = .ok (.bipush 8, 2) := by decide +kernel
theorem dJ6_bitCount_0f7a4_38 : decode cJ6_bitCount_0f7a4 38 = .ok (.iushr, 1) := by decide +kernel
theorem dJ6_bitCount_0f7a4_39 : decode cJ6_bitCount_0f7a4 39 = .ok (.iadd, 1) := by decide +kernel
theorem dJ6_bitCount_0f7a4_40 : decode cJ6_bitCount_0f7a4 40 = .ok (.istore_n 0, 1) := by decide +kernel
theorem dJ6_bitCount_0f7a4_41 : decode cJ6_bitCount_0f7a4 41 = .ok (.iload_n 0, 1) := by decide +kernel
theorem dJ6_bitCount_0f7a4_42 : decode cJ6_bitCount_0f7a4 42 = .ok (.iload_n 0, 1) := by decide +kernel
theorem dJ6_bitCount_0f7a4_43 : decode cJ6_bitCount_0f7a4 43 = .ok (.bipush 16, 2) := by decide +kernel
theorem dJ6_bitCount_0f7a4_45 : decode cJ6_bitCount_0f7a4 45 = .ok (.iushr, 1) := by decide +kernel
theorem dJ6_bitCount_0f7a4_46 : decode cJ6_bitCount_0f7a4 46 = .ok (.iadd, 1) := by decide +kernel
theorem dJ6_bitCount_0f7a4_47 : decode cJ6_bitCount_0f7a4 47 = .ok (.istore_n 0, 1) := by decide +kernel
theorem dJ6_bitCount_0f7a4_48 : decode cJ6_bitCount_0f7a4 48 = .ok (.iload_n 0, 1) := by decide +kernel
theorem dJ6_bitCount_0f7a4_49 : decode cJ6_bitCount_0f7a4 49 = .ok (.bipush 63, 2) := by decide +kernel
theorem dJ6_bitCount_0f7a4_51 : decode cJ6_bitCount_0f7a4 51 = .ok (.iand, 1) := by decide +kernel
theorem dJ6_bitCount_0f7a4_52 : decode cJ6_bitCount_0f7a4 52 = .ok (.ireturn, 1) := by decide +kernel
theorem dJ9_max_7cf53_0 : decode cJ9_max_7cf53 0 = .ok (.iload_n 0, 1) := by decide +kernel
theorem dJ9_max_7cf53_1 : decode cJ9_max_7cf53 1 = .ok (.iload_n 1, 1) := by decide +kernel
theorem dJ9_max_7cf53_2 : decode cJ9_max_7cf53 2 = .ok (.if_icmp .lt 7, 3) := by decide +kernel
theorem dJ9_max_7cf53_5 : decode cJ9_max_7cf53 5 = .ok (.iload_n 0, 1) := by decide +kernel
theorem dJ9_max_7cf53_6 : decode cJ9_max_7cf53 6 = .ok (.goto 4, 3) := by decide +kernel
theorem dJ9_max_7cf53_9 : decode cJ9_max_7cf53 9 = .ok (.iload_n 1, 1) := by decide +kernel
theorem dJ9_max_7cf53_10 : decode cJ9_max_7cf53 10 = .ok (.ireturn, 1) := by decide +kernel
theorem dJ9_min_7cf53_0 : decode cJ9_min_7cf53 0 = .ok (.iload_n 0, 1) := by decide +kernel
theorem dJ9_min_7cf53_1 : decode cJ9_min_7cf53 1 = .ok (.iload_n 1, 1) := by decide +kernel
theorem dJ9_min_7cf53_2 : decode cJ9_min_7cf53 2 = .ok (.if_icmp .gt 7, 3) := by decide +kernel
theorem dJ9_min_7cf53_5 : decode cJ9_min_7cf53 5 = .ok (.iload_n 0, 1) := by decide +kernel
theorem dJ9_min_7cf53_6 : decode cJ9_min_7cf53 6 = .ok (.goto 4, 3) := by decide +kernel
theorem dJ9_min_7cf53_9 : decode cJ9_min_7cf53 9 = .ok (.iload_n 1, 1) := by decide +kernel
theorem dJ9_min_7cf53_10 : decode cJ9_min_7cf53 10 = .ok (.ireturn, 1) := by decide +kernel
theorem dJ7_fill_53178_0 : decode cJ7_fill_53178 0 = .ok (.iconst 0, 1) := by decide +kernel
theorem dJ7_fill_53178_1 : decode cJ7_fill_53178 1 = .ok (.istore_n 2, 1) := by decide +kernel
theorem dJ7_fill_53178_2 : decode cJ7_fill_53178 2 = .ok (.aload_n 0, 1) := by decide +kernel
theorem dJ7_fill_53178_3 : decode cJ7_fill_53178 3 = .ok (.arraylength, 1) := by decide +kernel
theorem dJ7_fill_53178_4 : decode cJ7_fill_53178 4 = .ok (.istore_n 3, 1) := by decide +kernel
theorem dJ7_fill_53178_5 : decode cJ7_fill_53178 5 = .ok (.iload_n 2, 1) := by decide +kernel
theorem dJ7_fill_53178_6 : decode cJ7_fill_53178 6 = .ok (.iload_n 3, 1) := by decide +kernel
theorem dJ7_fill_53178_7 : decode cJ7_fill_53178 7 = .ok (.if_icmp .ge 13, 3) := by decide +kernel
theorem dJ7_fill_53178_10 : decode cJ7_fill_53178 10 = .ok (.aload_n 0, 1) := by decide +kernel
theorem dJ7_fill_53178_11 : decode cJ7_fill_53178 11 = .ok (.iload_n 2, 1) := by decide +kernel
theorem dJ7_fill_53178_12 : decode cJ7_fill_53178 12 = .ok (.iload_n 1, 1) := by decide +kernel
theorem dJ7_fill_53178_13 : decode cJ7_fill_53178 13 = .ok (.iastore, 1) := by decide +kernel
theorem dJ7_fill_53178_14 : decode cJ7_fill_53178 14 = .ok (.iinc 2 1, 3) := by decide +kernel
theorem dJ7_fill_53178_17 : decode cJ7_fill_53178 17 = .ok (.goto (-12), 3) := by decide +kernel
theorem dJ7_fill_53178_20 : decode cJ7_fill_53178 20 = .ok (.return_, 1) := by decide +kernel
set_option maxRecDepth 20000 in
theorem ggL_giveRange_X7_giveRange : GoodIn wsL_giveRange wsX7_giveRange := goodIn_ca (goodIn_ca (goodIn_ca (goodIn_r _ [8, 9, 10, 11, 12, 13, 14, 15, 16, 7, 17, 18, 19, 20, 21, 22, 23, 24, 25, 26, 27, 28, 29, 30, 31, 32, 33, 34, 35, 36, 37, 38] (by decide +kernel) (by decide +kernel)) (goodIn_sub (fun _ h => List.mem_cons_of_mem _ (List.mem_append_left _ (List.mem_append_left _ (List.mem_append_right _ h)))) (by decide +kernel))) (goodIn_sub (fun _ h => List.mem_cons_of_mem _ (List.mem_append_left _ (List.mem_append_right _ h))) (by decide +kernel))) (goodIn_sub (fun _ h => List.mem_cons_of_mem _ (List.mem_append_right _ h)) (by decide +kernel))
set_option maxRecDepth 20000 in
theorem gL_giveRange_X7_giveRange : GoodIn wsL_giveRange (wsV RL 7 RX7 yX7_giveRange wsX7_giveRange) := goodIn_app (goodIn_of _ (by decide +kernel)) ggL_giveRange_X7_giveRange
theorem dL_giveRange_0 : decode cL_giveRange 0 = .ok (.aload 4, 2) := by decide +kernel
theorem dL_giveRange_2 : decode cL_giveRange 2 = .ok (.iconst 0, 1) := by decide +kernel
theorem dL_giveRange_3 : decode cL_giveRange 3 = .ok (.aload_n 0, 1) := by decide +kernel
theorem dL_giveRange_4 : decode cL_giveRange 4 = .ok (.iload_n 1, 1) := by decide +kernel
theorem dL_giveRange_5 : decode cL_giveRange 5 = .ok (.iload_n 2, 1) := by decide +kernel
theorem dL_giveRange_6 : decode cL_giveRange 6 = .ok (.iload_n 3, 1) := by decide +kernel
theorem dL_giveRange_7 : decode cL_giveRange 7 = .ok (.invokevirtual 7, 3) := by decide +kernel
theorem dL_giveRange_10 : decode cL_giveRange 10 = .ok (.i2l, 1) := by decide +kernel
theorem dL_giveRange_11 : decode cL_giveRange 11 = .ok (.lastore, 1) := by decide +kernel
theorem dL_giveRange_12 : decode cL_giveRange 12 = .ok (.goto 15, 3) := by decide +kernel
theorem dL_giveRange_15 : decode cL_giveRange 15 = .ok (.astore 5, 2) := by decide +kernel
theorem dL_giveRange_17 : decode cL_giveRange 17 = .ok (.iconst 1, 1) := by decide +kernel
theorem dL_giveRange_18 : decode cL_giveRange 18 = .ok (.ireturn, 1) := by decide +kernel
theorem dL_giveRange_19 : decode cL_giveRange 19 = .ok (.astore 5, 2) := by decide +kernel
theorem dL_giveRange_21 : decode cL_giveRange 21 = .ok (.iconst 2, 1) := by decide +kernel
theorem dL_giveRange_22 : decode cL_giveRange 22 = .ok (.ireturn, 1) := by decide +kernel
theorem dL_giveRange_23 : decode cL_giveRange 23 = .ok (.astore 5, 2) := by decide +kernel
theorem dL_giveRange_25 : decode cL_giveRange 25 = .ok (.iconst 3, 1) := by decide +kernel
theorem dL_giveRange_26 : decode cL_giveRange 26 = .ok (.ireturn, 1) := by decide +kernel
theorem dL_giveRange_27 : decode cL_giveRange 27 = .ok (.iconst 0, 1) := by decide +kernel
theorem dL_giveRange_28 : decode cL_giveRange 28 = .ok (.ireturn, 1) := by decide +kernel
set_option maxRecDepth 20000 in
theorem ggL_open_X7_open : GoodIn wsL_open wsX7_open := goodIn_ca (goodIn_ca (goodIn_r _ [7, 8, 9, 10, 11, 12, 13, 14, 15, 16, 17, 6, 18, 19, 20, 21, 22, 23, 24, 25, 26, 27, 28, 29, 30, 31, 32, 33, 34, 35, 36, 37, 38, 39, 40, 41, 42, 43, 44, 45, 46, 47, 48, 49, 50, 51, 52, 53, 54, 55, 56, 57, 58, 59, 60, 61, 62, 63, 64, 65, 66, 67, 68, 69, 70, 71, 72, 73, 74, 75, 76, 77, 78, 79, 80, 81, 82, 83, 84, 85, 86, 87, 88, 89, 90, 91, 92, 93, 94, 95, 96, 97, 98] (by decide +kernel) (by decide +kernel)) (goodIn_sub (fun _ h => List.mem_cons_of_mem _ (List.mem_append_left _ (List.mem_append_right _ h))) (by decide +kernel))) (goodIn_sub (fun _ h => List.mem_cons_of_mem _ (List.mem_append_right _ h)) (by decide +kernel))
set_option maxRecDepth 20000 in
theorem gL_open_X7_open : GoodIn wsL_open (wsV RL 19 RX7 yX7_open wsX7_open) := goodIn_app (goodIn_of _ (by decide +kernel)) ggL_open_X7_open
theorem dL_open_0 : decode cL_open 0 = .ok (.aload_n 2, 1) := by decide +kernel
theorem dL_open_1 : decode cL_open 1 = .ok (.iconst 0, 1) := by decide +kernel
theorem dL_open_2 : decode cL_open 2 = .ok (.aload_n 0, 1) := by decide +kernel
theorem dL_open_3 : decode cL_open 3 = .ok (.iload_n 1, 1) := by decide +kernel
theorem dL_open_4 : decode cL_open 4 = .ok (.invokevirtual 19, 3) := by decide +kernel
theorem dL_open_7 : decode cL_open 7 = .ok (.i2l, 1) := by decide +kernel
theorem dL_open_8 : decode cL_open 8 = .ok (.lastore, 1) := by decide +kernel
theorem dL_open_9 : decode cL_open 9 = .ok (.goto 9, 3) := by decide +kernel
theorem dL_open_12 : decode cL_open 12 = .ok (.astore_n 3, 1) := by decide +kernel
theorem dL_open_13 : decode cL_open 13 = .ok (.iconst 1, 1) := by decide +kernel
theorem dL_open_14 : decode cL_open 14 = .ok (.ireturn, 1) := by decide +kernel
theorem dL_open_15 : decode cL_open 15 = .ok (.astore_n 3, 1) := by decide +kernel
theorem dL_open_16 : decode cL_open 16 = .ok (.iconst 2, 1) := by decide +kernel
theorem dL_open_17 : decode cL_open 17 = .ok (.ireturn, 1) := by decide +kernel
theorem dL_open_18 : decode cL_open 18 = .ok (.iconst 0, 1) := by decide +kernel
theorem dL_open_19 : decode cL_open 19 = .ok (.ireturn, 1) := by decide +kernel
set_option maxRecDepth 20000 in
theorem ggL_addLine_X7_addLine : GoodIn wsL_addLine wsX7_addLine := goodIn_ca (goodIn_ca (goodIn_ca (goodIn_r _ [8, 9, 10, 11, 12, 13, 7, 14, 15, 16, 17, 18, 19, 20, 21, 22, 23, 24, 25, 26, 27, 28, 29, 30, 31, 32, 33, 34, 35, 36, 37, 38, 39, 40, 41, 42, 43, 44, 45, 46, 47, 48, 49, 50, 51, 52, 53, 54, 55, 56, 57, 58, 59, 60, 61, 62, 63, 64] (by decide +kernel) (by decide +kernel)) (goodIn_sub (fun _ h => List.mem_cons_of_mem _ (List.mem_append_left _ (List.mem_append_left _ (List.mem_append_right _ h)))) (by decide +kernel))) (goodIn_sub (fun _ h => List.mem_cons_of_mem _ (List.mem_append_left _ (List.mem_append_right _ h))) (by decide +kernel))) (goodIn_sub (fun _ h => List.mem_cons_of_mem _ (List.mem_append_right _ h)) (by decide +kernel))
set_option maxRecDepth 20000 in
theorem gL_addLine_X7_addLine : GoodIn wsL_addLine (wsV RL 23 RX7 yX7_addLine wsX7_addLine) := goodIn_app (goodIn_of _ (by decide +kernel)) ggL_addLine_X7_addLine
theorem dL_addLine_0 : decode cL_addLine 0 = .ok (.aload_n 3, 1) := by decide +kernel
theorem dL_addLine_1 : decode cL_addLine 1 = .ok (.iconst 0, 1) := by decide +kernel
theorem dL_addLine_2 : decode cL_addLine 2 = .ok (.aload_n 0, 1) := by decide +kernel
theorem dL_addLine_3 : decode cL_addLine 3 = .ok (.iload_n 1, 1) := by decide +kernel
theorem dL_addLine_4 : decode cL_addLine 4 = .ok (.iload_n 2, 1) := by decide +kernel
theorem dL_addLine_5 : decode cL_addLine 5 = .ok (.invokevirtual 23, 3) := by decide +kernel
theorem dL_addLine_8 : decode cL_addLine 8 = .ok (.i2l, 1) := by decide +kernel
theorem dL_addLine_9 : decode cL_addLine 9 = .ok (.lastore, 1) := by decide +kernel
theorem dL_addLine_10 : decode cL_addLine 10 = .ok (.goto 15, 3) := by decide +kernel
theorem dL_addLine_13 : decode cL_addLine 13 = .ok (.astore 4, 2) := by decide +kernel
theorem dL_addLine_15 : decode cL_addLine 15 = .ok (.iconst 1, 1) := by decide +kernel
theorem dL_addLine_16 : decode cL_addLine 16 = .ok (.ireturn, 1) := by decide +kernel
theorem dL_addLine_17 : decode cL_addLine 17 = .ok (.astore 4, 2) := by decide +kernel
theorem dL_addLine_19 : decode cL_addLine 19 = .ok (.iconst 2, 1) := by decide +kernel
theorem dL_addLine_20 : decode cL_addLine 20 = .ok (.ireturn, 1) := by decide +kernel
theorem dL_addLine_21 : decode cL_addLine 21 = .ok (.astore 4, 2) := by decide +kernel
theorem dL_addLine_23 : decode cL_addLine 23 = .ok (.iconst 3, 1) := by decide +kernel
theorem dL_addLine_24 : decode cL_addLine 24 = .ok (.ireturn, 1) := by decide +kernel
theorem dL_addLine_25 : decode cL_addLine 25 = .ok (.iconst 0, 1) := by decide +kernel
theorem dL_addLine_26 : decode cL_addLine 26 = .ok (.ireturn, 1) := by decide +kernel
set_option maxRecDepth 20000 in
theorem ggL_lay_X7_lay : GoodIn wsL_lay wsX7_lay := goodIn_ca (goodIn_ca (goodIn_r _ [7, 8, 9, 10, 11, 12, 6, 13, 14, 15, 16, 17, 18, 19, 20, 21, 22, 23, 24, 25, 26, 27, 28, 29, 30, 31, 32, 33, 34, 35, 36, 37, 38, 39, 40, 41, 42, 43, 44, 45, 46, 47, 48, 49, 50, 51, 52, 53, 54, 55, 56, 57, 58, 59, 60, 61, 62, 63, 64, 65, 66, 67, 68, 69, 70, 71, 72, 73, 74, 75, 76, 77, 78, 79, 80, 81, 82, 83, 84, 85, 86, 87, 88, 89, 90, 91] (by decide +kernel) (by decide +kernel)) (goodIn_sub (fun _ h => List.mem_cons_of_mem _ (List.mem_append_left _ (List.mem_append_right _ h))) (by decide +kernel))) (goodIn_sub (fun _ h => List.mem_cons_of_mem _ (List.mem_append_right _ h)) (by decide +kernel))
set_option maxRecDepth 20000 in
theorem gL_lay_X7_lay : GoodIn wsL_lay (wsV RL 27 RX7 yX7_lay wsX7_lay) := goodIn_app (goodIn_of _ (by decide +kernel)) ggL_lay_X7_lay
theorem dL_lay_0 : decode cL_lay 0 = .ok (.aload_n 2, 1) := by decide +kernel
theorem dL_lay_1 : decode cL_lay 1 = .ok (.iconst 0, 1) := by decide +kernel
theorem dL_lay_2 : decode cL_lay 2 = .ok (.aload_n 0, 1) := by decide +kernel
theorem dL_lay_3 : decode cL_lay 3 = .ok (.iload_n 1, 1) := by decide +kernel
theorem dL_lay_4 : decode cL_lay 4 = .ok (.invokevirtual 27, 3) := by decide +kernel
theorem dL_lay_7 : decode cL_lay 7 = .ok (.i2l, 1) := by decide +kernel
theorem dL_lay_8 : decode cL_lay 8 = .ok (.lastore, 1) := by decide +kernel
theorem dL_lay_9 : decode cL_lay 9 = .ok (.goto 9, 3) := by decide +kernel
theorem dL_lay_12 : decode cL_lay 12 = .ok (.astore_n 3, 1) := by decide +kernel
theorem dL_lay_13 : decode cL_lay 13 = .ok (.iconst 1, 1) := by decide +kernel
theorem dL_lay_14 : decode cL_lay 14 = .ok (.ireturn, 1) := by decide +kernel
theorem dL_lay_15 : decode cL_lay 15 = .ok (.astore_n 3, 1) := by decide +kernel
theorem dL_lay_16 : decode cL_lay 16 = .ok (.iconst 2, 1) := by decide +kernel
theorem dL_lay_17 : decode cL_lay 17 = .ok (.ireturn, 1) := by decide +kernel
theorem dL_lay_18 : decode cL_lay 18 = .ok (.iconst 0, 1) := by decide +kernel
theorem dL_lay_19 : decode cL_lay 19 = .ok (.ireturn, 1) := by decide +kernel
set_option maxRecDepth 20000 in
theorem ggL_landAfter_X7_landAfter : GoodIn wsL_landAfter wsX7_landAfter := goodIn_ca (goodIn_ca (goodIn_ca (goodIn_r _ [8, 9, 10, 11, 12, 13, 7, 14, 15, 16, 17, 18, 19, 20, 21, 22, 23, 24, 25, 26, 27, 28, 29, 30, 31, 32, 33, 34, 35, 36, 37, 38, 39, 40, 41, 42, 43, 44, 45, 46, 47, 48, 49, 50, 51, 52, 53, 54, 55, 56, 57, 58, 59, 60, 61, 62, 63] (by decide +kernel) (by decide +kernel)) (goodIn_sub (fun _ h => List.mem_cons_of_mem _ (List.mem_append_left _ (List.mem_append_left _ (List.mem_append_right _ h)))) (by decide +kernel))) (goodIn_sub (fun _ h => List.mem_cons_of_mem _ (List.mem_append_left _ (List.mem_append_right _ h))) (by decide +kernel))) (goodIn_sub (fun _ h => List.mem_cons_of_mem _ (List.mem_append_right _ h)) (by decide +kernel))
set_option maxRecDepth 20000 in
theorem gL_landAfter_X7_landAfter : GoodIn wsL_landAfter (wsV RL 30 RX7 yX7_landAfter wsX7_landAfter) := goodIn_app (goodIn_of _ (by decide +kernel)) ggL_landAfter_X7_landAfter
theorem dL_landAfter_0 : decode cL_landAfter 0 = .ok (.aload_n 3, 1) := by decide +kernel
theorem dL_landAfter_1 : decode cL_landAfter 1 = .ok (.iconst 0, 1) := by decide +kernel
theorem dL_landAfter_2 : decode cL_landAfter 2 = .ok (.aload_n 0, 1) := by decide +kernel
theorem dL_landAfter_3 : decode cL_landAfter 3 = .ok (.iload_n 1, 1) := by decide +kernel
theorem dL_landAfter_4 : decode cL_landAfter 4 = .ok (.iload_n 2, 1) := by decide +kernel
theorem dL_landAfter_5 : decode cL_landAfter 5 = .ok (.invokevirtual 30, 3) := by decide +kernel
theorem dL_landAfter_8 : decode cL_landAfter 8 = .ok (.i2l, 1) := by decide +kernel
theorem dL_landAfter_9 : decode cL_landAfter 9 = .ok (.lastore, 1) := by decide +kernel
theorem dL_landAfter_10 : decode cL_landAfter 10 = .ok (.goto 15, 3) := by decide +kernel
theorem dL_landAfter_13 : decode cL_landAfter 13 = .ok (.astore 4, 2) := by decide +kernel
theorem dL_landAfter_15 : decode cL_landAfter 15 = .ok (.iconst 1, 1) := by decide +kernel
theorem dL_landAfter_16 : decode cL_landAfter 16 = .ok (.ireturn, 1) := by decide +kernel
theorem dL_landAfter_17 : decode cL_landAfter 17 = .ok (.astore 4, 2) := by decide +kernel
theorem dL_landAfter_19 : decode cL_landAfter 19 = .ok (.iconst 2, 1) := by decide +kernel
theorem dL_landAfter_20 : decode cL_landAfter 20 = .ok (.ireturn, 1) := by decide +kernel
theorem dL_landAfter_21 : decode cL_landAfter 21 = .ok (.astore 4, 2) := by decide +kernel
theorem dL_landAfter_23 : decode cL_landAfter 23 = .ok (.iconst 3, 1) := by decide +kernel
theorem dL_landAfter_24 : decode cL_landAfter 24 = .ok (.ireturn, 1) := by decide +kernel
theorem dL_landAfter_25 : decode cL_landAfter 25 = .ok (.iconst 0, 1) := by decide +kernel
theorem dL_landAfter_26 : decode cL_landAfter 26 = .ok (.ireturn, 1) := by decide +kernel
set_option maxRecDepth 20000 in
theorem ggL_setPriority_X7_setPriority : GoodIn wsL_setPriority wsX7_setPriority := goodIn_ca (goodIn_ca (goodIn_r _ [7, 8, 9, 10, 11, 12, 6, 13, 14, 15, 16, 17, 18, 19, 20, 21, 22, 23, 24, 25, 26, 27, 28, 29, 30, 31, 32, 33, 34, 35, 36, 37, 38, 39, 40] (by decide +kernel) (by decide +kernel)) (goodIn_sub (fun _ h => List.mem_cons_of_mem _ (List.mem_append_left _ (List.mem_append_right _ h))) (by decide +kernel))) (goodIn_sub (fun _ h => List.mem_cons_of_mem _ (List.mem_append_right _ h)) (by decide +kernel))
set_option maxRecDepth 20000 in
theorem gL_setPriority_X7_setPriority : GoodIn wsL_setPriority (wsV RL 35 RX7 yX7_setPriority wsX7_setPriority) := goodIn_app (goodIn_of _ (by decide +kernel)) ggL_setPriority_X7_setPriority
theorem dL_setPriority_0 : decode cL_setPriority 0 = .ok (.aload_n 3, 1) := by decide +kernel
theorem dL_setPriority_1 : decode cL_setPriority 1 = .ok (.iconst 0, 1) := by decide +kernel
theorem dL_setPriority_2 : decode cL_setPriority 2 = .ok (.aload_n 0, 1) := by decide +kernel
theorem dL_setPriority_3 : decode cL_setPriority 3 = .ok (.iload_n 1, 1) := by decide +kernel
theorem dL_setPriority_4 : decode cL_setPriority 4 = .ok (.iload_n 2, 1) := by decide +kernel
theorem dL_setPriority_5 : decode cL_setPriority 5 = .ok (.invokevirtual 35, 3) := by decide +kernel
theorem dL_setPriority_8 : decode cL_setPriority 8 = .ok (.i2l, 1) := by decide +kernel
theorem dL_setPriority_9 : decode cL_setPriority 9 = .ok (.lastore, 1) := by decide +kernel
theorem dL_setPriority_10 : decode cL_setPriority 10 = .ok (.goto 11, 3) := by decide +kernel
theorem dL_setPriority_13 : decode cL_setPriority 13 = .ok (.astore 4, 2) := by decide +kernel
theorem dL_setPriority_15 : decode cL_setPriority 15 = .ok (.iconst 1, 1) := by decide +kernel
theorem dL_setPriority_16 : decode cL_setPriority 16 = .ok (.ireturn, 1) := by decide +kernel
theorem dL_setPriority_17 : decode cL_setPriority 17 = .ok (.astore 4, 2) := by decide +kernel
theorem dL_setPriority_19 : decode cL_setPriority 19 = .ok (.iconst 2, 1) := by decide +kernel
theorem dL_setPriority_20 : decode cL_setPriority 20 = .ok (.ireturn, 1) := by decide +kernel
theorem dL_setPriority_21 : decode cL_setPriority 21 = .ok (.iconst 0, 1) := by decide +kernel
theorem dL_setPriority_22 : decode cL_setPriority 22 = .ok (.ireturn, 1) := by decide +kernel
set_option maxRecDepth 20000 in
theorem ggL_comment_X7_comment : GoodIn wsL_comment wsX7_comment := goodIn_ca (goodIn_ca (goodIn_ca (goodIn_r _ [8, 9, 10, 11, 12, 13, 14, 15, 16, 17, 18, 19, 20, 7, 21, 22, 23, 24, 25, 26, 27, 28, 29, 30, 31, 32, 33, 34, 35, 36, 37, 38, 39, 40, 41, 42, 43, 44, 45, 46, 47, 48, 49, 50, 51, 52, 53, 54, 55, 56, 57, 58, 59, 60, 61, 62, 63, 64, 65, 66, 67, 68, 69, 70, 71, 72, 73, 74, 75, 76, 77, 78, 79, 80, 81, 82, 83, 84] (by decide +kernel) (by decide +kernel)) (goodIn_sub (fun _ h => List.mem_cons_of_mem _ (List.mem_append_left _ (List.mem_append_left _ (List.mem_append_right _ h)))) (by decide +kernel))) (goodIn_sub (fun _ h => List.mem_cons_of_mem _ (List.mem_append_left _ (List.mem_append_right _ h))) (by decide +kernel))) (goodIn_sub (fun _ h => List.mem_cons_of_mem _ (List.mem_append_right _ h)) (by decide +kernel))
set_option maxRecDepth 20000 in
theorem gL_comment_X7_comment : GoodIn wsL_comment (wsV RL 38 RX7 yX7_comment wsX7_comment) := goodIn_app (goodIn_of _ (by decide +kernel)) ggL_comment_X7_comment
theorem dL_comment_0 : decode cL_comment 0 = .ok (.aload_n 3, 1) := by decide +kernel
theorem dL_comment_1 : decode cL_comment 1 = .ok (.iconst 0, 1) := by decide +kernel
theorem dL_comment_2 : decode cL_comment 2 = .ok (.aload_n 0, 1) := by decide +kernel
theorem dL_comment_3 : decode cL_comment 3 = .ok (.iload_n 1, 1) := by decide +kernel
theorem dL_comment_4 : decode cL_comment 4 = .ok (.iload_n 2, 1) := by decide +kernel
theorem dL_comment_5 : decode cL_comment 5 = .ok (.invokevirtual 38, 3) := by decide +kernel
theorem dL_comment_8 : decode cL_comment 8 = .ok (.i2l, 1) := by decide +kernel
theorem dL_comment_9 : decode cL_comment 9 = .ok (.lastore, 1) := by decide +kernel
theorem dL_comment_10 : decode cL_comment 10 = .ok (.goto 15, 3) := by decide +kernel
theorem dL_comment_13 : decode cL_comment 13 = .ok (.astore 4, 2) := by decide +kernel
theorem dL_comment_15 : decode cL_comment 15 = .ok (.iconst 1, 1) := by decide +kernel
theorem dL_comment_16 : decode cL_comment 16 = .ok (.ireturn, 1) := by decide +kernel
theorem dL_comment_17 : decode cL_comment 17 = .ok (.astore 4, 2) := by decide +kernel
theorem dL_comment_19 : decode cL_comment 19 = .ok (.iconst 2, 1) := by decide +kernel
theorem dL_comment_20 : decode cL_comment 20 = .ok (.ireturn, 1) := by decide +kernel
theorem dL_comment_21 : decode cL_comment 21 = .ok (.astore 4, 2) := by decide +kernel
theorem dL_comment_23 : decode cL_comment 23 = .ok (.iconst 3, 1) := by decide +kernel
theorem dL_comment_24 : decode cL_comment 24 = .ok (.ireturn, 1) := by decide +kernel
theorem dL_comment_25 : decode cL_comment 25 = .ok (.iconst 0, 1) := by decide +kernel
theorem dL_comment_26 : decode cL_comment 26 = .ok (.ireturn, 1) := by decide +kernel
set_option maxRecDepth 20000 in
theorem ggL_resolve_X7_resolve : GoodIn wsL_resolve wsX7_resolve := goodIn_ca (goodIn_ca (goodIn_r _ [7, 8, 9, 10, 11, 12, 6, 13, 14, 15, 16, 17, 18, 19, 20, 21, 22, 23, 24, 25, 26, 27, 28, 29, 30, 31, 32, 33, 34, 35, 36, 37] (by decide +kernel) (by decide +kernel)) (goodIn_sub (fun _ h => List.mem_cons_of_mem _ (List.mem_append_left _ (List.mem_append_right _ h))) (by decide +kernel))) (goodIn_sub (fun _ h => List.mem_cons_of_mem _ (List.mem_append_right _ h)) (by decide +kernel))
set_option maxRecDepth 20000 in
theorem gL_resolve_X7_resolve : GoodIn wsL_resolve (wsV RL 43 RX7 yX7_resolve wsX7_resolve) := goodIn_app (goodIn_of _ (by decide +kernel)) ggL_resolve_X7_resolve
theorem dL_resolve_0 : decode cL_resolve 0 = .ok (.aload_n 2, 1) := by decide +kernel
theorem dL_resolve_1 : decode cL_resolve 1 = .ok (.iconst 0, 1) := by decide +kernel
theorem dL_resolve_2 : decode cL_resolve 2 = .ok (.aload_n 0, 1) := by decide +kernel
theorem dL_resolve_3 : decode cL_resolve 3 = .ok (.iload_n 1, 1) := by decide +kernel
theorem dL_resolve_4 : decode cL_resolve 4 = .ok (.invokevirtual 43, 3) := by decide +kernel
theorem dL_resolve_7 : decode cL_resolve 7 = .ok (.i2l, 1) := by decide +kernel
theorem dL_resolve_8 : decode cL_resolve 8 = .ok (.lastore, 1) := by decide +kernel
theorem dL_resolve_9 : decode cL_resolve 9 = .ok (.goto 9, 3) := by decide +kernel
theorem dL_resolve_12 : decode cL_resolve 12 = .ok (.astore_n 3, 1) := by decide +kernel
theorem dL_resolve_13 : decode cL_resolve 13 = .ok (.iconst 1, 1) := by decide +kernel
theorem dL_resolve_14 : decode cL_resolve 14 = .ok (.ireturn, 1) := by decide +kernel
theorem dL_resolve_15 : decode cL_resolve 15 = .ok (.astore_n 3, 1) := by decide +kernel
theorem dL_resolve_16 : decode cL_resolve 16 = .ok (.iconst 2, 1) := by decide +kernel
theorem dL_resolve_17 : decode cL_resolve 17 = .ok (.ireturn, 1) := by decide +kernel
theorem dL_resolve_18 : decode cL_resolve 18 = .ok (.iconst 0, 1) := by decide +kernel
theorem dL_resolve_19 : decode cL_resolve 19 = .ok (.ireturn, 1) := by decide +kernel
set_option maxRecDepth 20000 in
theorem ggL_approve_X7_approve : GoodIn wsL_approve wsX7_approve := goodIn_ca (goodIn_ca (goodIn_ca (goodIn_r _ [8, 9, 10, 11, 12, 13, 7, 14, 15, 16, 17, 18, 19, 20, 21, 22, 23, 24, 25, 26, 27, 28, 29, 30, 31, 32, 33, 34, 35, 36, 37, 38, 39, 40, 41, 42, 43, 44, 45, 46, 47, 48, 49, 50, 51, 52, 53, 54, 55, 56, 57, 58, 59, 60, 61, 62, 63, 64, 65, 66, 67, 68, 69, 70, 71, 72, 73, 74, 75, 76, 77, 78, 79, 80, 81, 82, 83, 84, 85, 86, 87, 88, 89, 90, 91, 92, 93, 94, 95, 96, 97, 98, 99, 100, 101, 102, 103, 104, 105, 106, 107, 108, 109, 110, 111, 112, 113, 114, 115, 116, 117, 118, 119, 120, 121, 122, 123, 124, 125, 126, 127, 128, 129, 130, 131, 132, 133, 134, 135, 136, 137, 138, 139, 140, 141, 142, 143, 144, 145, 146, 147, 148, 149, 150] (by decide +kernel) (by decide +kernel)) (goodIn_sub (fun _ h => List.mem_cons_of_mem _ (List.mem_append_left _ (List.mem_append_left _ (List.mem_append_right _ h)))) (by decide +kernel))) (goodIn_sub (fun _ h => List.mem_cons_of_mem _ (List.mem_append_left _ (List.mem_append_right _ h))) (by decide +kernel))) (goodIn_sub (fun _ h => List.mem_cons_of_mem _ (List.mem_append_right _ h)) (by decide +kernel))
set_option maxRecDepth 20000 in
theorem gL_approve_X7_approve : GoodIn wsL_approve (wsV RL 46 RX7 yX7_approve wsX7_approve) := goodIn_app (goodIn_of _ (by decide +kernel)) ggL_approve_X7_approve
theorem dL_approve_0 : decode cL_approve 0 = .ok (.aload_n 3, 1) := by decide +kernel
theorem dL_approve_1 : decode cL_approve 1 = .ok (.iconst 0, 1) := by decide +kernel
theorem dL_approve_2 : decode cL_approve 2 = .ok (.aload_n 0, 1) := by decide +kernel
theorem dL_approve_3 : decode cL_approve 3 = .ok (.iload_n 1, 1) := by decide +kernel
theorem dL_approve_4 : decode cL_approve 4 = .ok (.iload_n 2, 1) := by decide +kernel
theorem dL_approve_5 : decode cL_approve 5 = .ok (.invokevirtual 46, 3) := by decide +kernel
theorem dL_approve_8 : decode cL_approve 8 = .ok (.i2l, 1) := by decide +kernel
theorem dL_approve_9 : decode cL_approve 9 = .ok (.lastore, 1) := by decide +kernel
theorem dL_approve_10 : decode cL_approve 10 = .ok (.goto 15, 3) := by decide +kernel
theorem dL_approve_13 : decode cL_approve 13 = .ok (.astore 4, 2) := by decide +kernel
theorem dL_approve_15 : decode cL_approve 15 = .ok (.iconst 1, 1) := by decide +kernel
theorem dL_approve_16 : decode cL_approve 16 = .ok (.ireturn, 1) := by decide +kernel
theorem dL_approve_17 : decode cL_approve 17 = .ok (.astore 4, 2) := by decide +kernel
theorem dL_approve_19 : decode cL_approve 19 = .ok (.iconst 2, 1) := by decide +kernel
theorem dL_approve_20 : decode cL_approve 20 = .ok (.ireturn, 1) := by decide +kernel
theorem dL_approve_21 : decode cL_approve 21 = .ok (.astore 4, 2) := by decide +kernel
theorem dL_approve_23 : decode cL_approve 23 = .ok (.iconst 3, 1) := by decide +kernel
theorem dL_approve_24 : decode cL_approve 24 = .ok (.ireturn, 1) := by decide +kernel
theorem dL_approve_25 : decode cL_approve 25 = .ok (.iconst 0, 1) := by decide +kernel
theorem dL_approve_26 : decode cL_approve 26 = .ok (.ireturn, 1) := by decide +kernel
set_option maxRecDepth 20000 in
theorem ggL_withdraw_X7_withdraw : GoodIn wsL_withdraw wsX7_withdraw := goodIn_ca (goodIn_ca (goodIn_ca (goodIn_r _ [8, 9, 10, 11, 7, 12, 13, 14, 15, 16, 17, 18, 19, 20, 21, 22, 23, 24, 25, 26, 27, 28, 29, 30, 31, 32, 33, 34, 35, 36, 37, 38, 39, 40, 41, 42, 43, 44, 45, 46, 47, 48, 49, 50, 51, 52, 53, 54, 55, 56, 57, 58, 59, 60, 61, 62, 63, 64, 65, 66, 67, 68, 69, 70, 71, 72, 73, 74, 75, 76, 77, 78, 79, 80, 81, 82, 83, 84, 85, 86, 87, 88, 89, 90, 91, 92, 93, 94, 95, 96, 97, 98, 99, 100, 101, 102, 103, 104, 105, 106, 107, 108, 109, 110, 111, 112, 113, 114, 115, 116, 117, 118, 119, 120, 121, 122, 123, 124, 125, 126, 127, 128, 129, 130, 131, 132, 133, 134, 135, 136, 137, 138, 139, 140, 141, 142, 143, 144, 145, 146, 147, 148, 149, 150, 151, 152, 153, 154] (by decide +kernel) (by decide +kernel)) (goodIn_sub (fun _ h => List.mem_cons_of_mem _ (List.mem_append_left _ (List.mem_append_left _ (List.mem_append_right _ h)))) (by decide +kernel))) (goodIn_sub (fun _ h => List.mem_cons_of_mem _ (List.mem_append_left _ (List.mem_append_right _ h))) (by decide +kernel))) (goodIn_sub (fun _ h => List.mem_cons_of_mem _ (List.mem_append_right _ h)) (by decide +kernel))
set_option maxRecDepth 20000 in
theorem gL_withdraw_X7_withdraw : GoodIn wsL_withdraw (wsV RL 49 RX7 yX7_withdraw wsX7_withdraw) := goodIn_app (goodIn_of _ (by decide +kernel)) ggL_withdraw_X7_withdraw
theorem dL_withdraw_0 : decode cL_withdraw 0 = .ok (.aload_n 3, 1) := by decide +kernel
theorem dL_withdraw_1 : decode cL_withdraw 1 = .ok (.iconst 0, 1) := by decide +kernel
theorem dL_withdraw_2 : decode cL_withdraw 2 = .ok (.aload_n 0, 1) := by decide +kernel
theorem dL_withdraw_3 : decode cL_withdraw 3 = .ok (.iload_n 1, 1) := by decide +kernel
theorem dL_withdraw_4 : decode cL_withdraw 4 = .ok (.iload_n 2, 1) := by decide +kernel
theorem dL_withdraw_5 : decode cL_withdraw 5 = .ok (.invokevirtual 49, 3) := by decide +kernel
theorem dL_withdraw_8 : decode cL_withdraw 8 = .ok (.i2l, 1) := by decide +kernel
theorem dL_withdraw_9 : decode cL_withdraw 9 = .ok (.lastore, 1) := by decide +kernel
theorem dL_withdraw_10 : decode cL_withdraw 10 = .ok (.goto 15, 3) := by decide +kernel
theorem dL_withdraw_13 : decode cL_withdraw 13 = .ok (.astore 4, 2) := by decide +kernel
theorem dL_withdraw_15 : decode cL_withdraw 15 = .ok (.iconst 1, 1) := by decide +kernel
theorem dL_withdraw_16 : decode cL_withdraw 16 = .ok (.ireturn, 1) := by decide +kernel
theorem dL_withdraw_17 : decode cL_withdraw 17 = .ok (.astore 4, 2) := by decide +kernel
theorem dL_withdraw_19 : decode cL_withdraw 19 = .ok (.iconst 2, 1) := by decide +kernel
theorem dL_withdraw_20 : decode cL_withdraw 20 = .ok (.ireturn, 1) := by decide +kernel
theorem dL_withdraw_21 : decode cL_withdraw 21 = .ok (.astore 4, 2) := by decide +kernel
theorem dL_withdraw_23 : decode cL_withdraw 23 = .ok (.iconst 3, 1) := by decide +kernel
theorem dL_withdraw_24 : decode cL_withdraw 24 = .ok (.ireturn, 1) := by decide +kernel
theorem dL_withdraw_25 : decode cL_withdraw 25 = .ok (.iconst 0, 1) := by decide +kernel
theorem dL_withdraw_26 : decode cL_withdraw 26 = .ok (.ireturn, 1) := by decide +kernel
set_option maxRecDepth 20000 in
theorem ggL_land_X7_land : GoodIn wsL_land wsX7_land := goodIn_ca (goodIn_ca (goodIn_r _ [7, 8, 9, 10, 11, 12, 13, 6, 14, 15, 16, 17, 18, 19, 20, 21, 22, 23, 24, 25, 26, 27, 28, 29, 30, 31, 32, 33, 34, 35, 36, 37, 38, 39, 40, 41, 42, 43, 44, 45, 46, 47, 48, 49, 50, 51, 52, 53, 54, 55, 56, 57, 58, 59, 60, 61, 62, 63, 64, 65, 66, 67, 68, 69, 70, 71, 72, 73, 74, 75, 76, 77, 78, 79, 80, 81, 82, 83, 84, 85, 86, 87, 88, 89, 90, 91, 92, 93, 94, 95, 96, 97, 98, 99, 100, 101, 102, 103, 104, 105, 106, 107, 108, 109, 110, 111, 112, 113, 114, 115, 116, 117, 118, 119, 120, 121, 122, 123, 124, 125, 126, 127, 128, 129, 130, 131, 132, 133, 134, 135, 136, 137, 138, 139, 140, 141, 142, 143, 144, 145, 146, 147, 148, 149, 150, 151, 152, 153, 154, 155, 156, 157, 158, 159, 160, 161, 162, 163, 164, 165, 166, 167, 168, 169, 170, 171, 172, 173, 174, 175, 176, 177, 178, 179, 180, 181, 182, 183, 184, 185, 186, 187, 188, 189, 190, 191, 192, 193, 194, 195, 196, 197, 198, 199, 200, 201, 202, 203, 204, 205, 206, 207, 208, 209, 210, 211, 212, 213, 214, 215, 216, 217, 218, 219, 220, 221, 222, 223, 224, 225, 226, 227, 228, 229, 230, 231, 232] (by decide +kernel) (by decide +kernel)) (goodIn_sub (fun _ h => List.mem_cons_of_mem _ (List.mem_append_left _ (List.mem_append_right _ h))) (by decide +kernel))) (goodIn_sub (fun _ h => List.mem_cons_of_mem _ (List.mem_append_right _ h)) (by decide +kernel))
set_option maxRecDepth 20000 in
theorem gL_land_X7_land : GoodIn wsL_land (wsV RL 52 RX7 yX7_land wsX7_land) := goodIn_app (goodIn_of _ (by decide +kernel)) ggL_land_X7_land
theorem dL_land_0 : decode cL_land 0 = .ok (.aload_n 2, 1) := by decide +kernel
theorem dL_land_1 : decode cL_land 1 = .ok (.iconst 0, 1) := by decide +kernel
theorem dL_land_2 : decode cL_land 2 = .ok (.aload_n 0, 1) := by decide +kernel
theorem dL_land_3 : decode cL_land 3 = .ok (.iload_n 1, 1) := by decide +kernel
theorem dL_land_4 : decode cL_land 4 = .ok (.invokevirtual 52, 3) := by decide +kernel
theorem dL_land_7 : decode cL_land 7 = .ok (.i2l, 1) := by decide +kernel
theorem dL_land_8 : decode cL_land 8 = .ok (.lastore, 1) := by decide +kernel
theorem dL_land_9 : decode cL_land 9 = .ok (.goto 9, 3) := by decide +kernel
theorem dL_land_12 : decode cL_land 12 = .ok (.astore_n 3, 1) := by decide +kernel
theorem dL_land_13 : decode cL_land 13 = .ok (.iconst 1, 1) := by decide +kernel
theorem dL_land_14 : decode cL_land 14 = .ok (.ireturn, 1) := by decide +kernel
theorem dL_land_15 : decode cL_land 15 = .ok (.astore_n 3, 1) := by decide +kernel
theorem dL_land_16 : decode cL_land 16 = .ok (.iconst 2, 1) := by decide +kernel
theorem dL_land_17 : decode cL_land 17 = .ok (.ireturn, 1) := by decide +kernel
theorem dL_land_18 : decode cL_land 18 = .ok (.iconst 0, 1) := by decide +kernel
theorem dL_land_19 : decode cL_land 19 = .ok (.ireturn, 1) := by decide +kernel
set_option maxRecDepth 20000 in
theorem ggL_reasonAgainst_X7_reasonAgainst : GoodIn wsL_reasonAgainst wsX7_reasonAgainst := goodIn_ca (goodIn_ca (goodIn_r _ [7, 8, 9, 10, 11, 12, 6, 13, 14, 15, 16, 17, 18, 19, 20, 21, 22, 23, 24, 25, 26, 27, 28, 29, 30, 31, 32, 33, 34, 35, 36, 37, 38, 39, 40, 41, 42, 43, 44, 45, 46, 47, 48, 49, 50, 51, 52, 53, 54, 55, 56, 57, 58, 59, 60, 61, 62, 63, 64, 65, 66, 67, 68, 69, 70, 71, 72, 73, 74, 75, 76, 77, 78, 79, 80, 81, 82, 83, 84, 85, 86, 87, 88, 89, 90, 91, 92, 93, 94, 95, 96, 97, 98, 99, 100, 101, 102, 103, 104, 105, 106, 107, 108, 109, 110, 111, 112, 113, 114, 115, 116, 117, 118, 119, 120, 121, 122, 123, 124, 125, 126, 127, 128, 129, 130, 131, 132, 133, 134, 135, 136, 137, 138, 139, 140, 141, 142, 143, 144, 145, 146, 147, 148, 149, 150, 151, 152, 153, 154, 155, 156, 157, 158, 159, 160, 161, 162, 163, 164, 165, 166, 167, 168, 169, 170, 171, 172, 173, 174, 175, 176, 177, 178, 179, 180, 181, 182, 183, 184, 185, 186, 187, 188, 189, 190, 191, 192, 193, 194, 195, 196, 197, 198, 199, 200, 201, 202, 203, 204, 205, 206, 207, 208, 209, 210, 211, 212, 213, 214, 215, 216, 217, 218, 219, 220] (by decide +kernel) (by decide +kernel)) (goodIn_sub (fun _ h => List.mem_cons_of_mem _ (List.mem_append_left _ (List.mem_append_right _ h))) (by decide +kernel))) (goodIn_sub (fun _ h => List.mem_cons_of_mem _ (List.mem_append_right _ h)) (by decide +kernel))
set_option maxRecDepth 20000 in
theorem gL_reasonAgainst_X7_reasonAgainst : GoodIn wsL_reasonAgainst (wsV RL 55 RX7 yX7_reasonAgainst wsX7_reasonAgainst) := goodIn_app (goodIn_of _ (by decide +kernel)) ggL_reasonAgainst_X7_reasonAgainst
theorem dL_reasonAgainst_0 : decode cL_reasonAgainst 0 = .ok (.aload_n 2, 1) := by decide +kernel
theorem dL_reasonAgainst_1 : decode cL_reasonAgainst 1 = .ok (.iconst 0, 1) := by decide +kernel
theorem dL_reasonAgainst_2 : decode cL_reasonAgainst 2 = .ok (.aload_n 0, 1) := by decide +kernel
theorem dL_reasonAgainst_3 : decode cL_reasonAgainst 3 = .ok (.iload_n 1, 1) := by decide +kernel
theorem dL_reasonAgainst_4 : decode cL_reasonAgainst 4 = .ok (.invokevirtual 55, 3) := by decide +kernel
theorem dL_reasonAgainst_7 : decode cL_reasonAgainst 7 = .ok (.i2l, 1) := by decide +kernel
theorem dL_reasonAgainst_8 : decode cL_reasonAgainst 8 = .ok (.lastore, 1) := by decide +kernel
theorem dL_reasonAgainst_9 : decode cL_reasonAgainst 9 = .ok (.goto 9, 3) := by decide +kernel
theorem dL_reasonAgainst_12 : decode cL_reasonAgainst 12 = .ok (.astore_n 3, 1) := by decide +kernel
theorem dL_reasonAgainst_13 : decode cL_reasonAgainst 13 = .ok (.iconst 1, 1) := by decide +kernel
theorem dL_reasonAgainst_14 : decode cL_reasonAgainst 14 = .ok (.ireturn, 1) := by decide +kernel
theorem dL_reasonAgainst_15 : decode cL_reasonAgainst 15 = .ok (.astore_n 3, 1) := by decide +kernel
theorem dL_reasonAgainst_16 : decode cL_reasonAgainst 16 = .ok (.iconst 2, 1) := by decide +kernel
theorem dL_reasonAgainst_17 : decode cL_reasonAgainst 17 = .ok (.ireturn, 1) := by decide +kernel
theorem dL_reasonAgainst_18 : decode cL_reasonAgainst 18 = .ok (.iconst 0, 1) := by decide +kernel
theorem dL_reasonAgainst_19 : decode cL_reasonAgainst 19 = .ok (.ireturn, 1) := by decide +kernel
set_option maxRecDepth 20000 in
theorem ggL_missingUser_X7_missingUser : GoodIn wsL_missingUser wsX7_missingUser := goodIn_ca (goodIn_ca (goodIn_r _ [7, 8, 9, 10, 11, 12, 6, 13, 14, 15, 16, 17, 18, 19, 20, 21, 22, 23, 24, 25, 26, 27, 28, 29, 30, 31, 32, 33, 34, 35, 36, 37, 38, 39, 40, 41, 42, 43, 44, 45, 46, 47, 48, 49, 50, 51, 52, 53, 54, 55, 56, 57, 58, 59, 60, 61, 62, 63, 64, 65, 66, 67, 68, 69, 70, 71, 72, 73, 74, 75, 76, 77, 78, 79, 80, 81, 82, 83, 84, 85, 86, 87, 88, 89, 90, 91, 92, 93, 94, 95, 96, 97, 98, 99, 100, 101, 102, 103, 104, 105, 106, 107, 108, 109, 110, 111, 112, 113, 114, 115, 116, 117, 118, 119, 120, 121, 122, 123, 124, 125, 126, 127, 128, 129, 130, 131, 132, 133, 134, 135, 136, 137, 138, 139, 140, 141, 142, 143, 144, 145, 146, 147, 148, 149] (by decide +kernel) (by decide +kernel)) (goodIn_sub (fun _ h => List.mem_cons_of_mem _ (List.mem_append_left _ (List.mem_append_right _ h))) (by decide +kernel))) (goodIn_sub (fun _ h => List.mem_cons_of_mem _ (List.mem_append_right _ h)) (by decide +kernel))
set_option maxRecDepth 20000 in
theorem gL_missingUser_X7_missingUser : GoodIn wsL_missingUser (wsV RL 59 RX7 yX7_missingUser wsX7_missingUser) := goodIn_app (goodIn_of _ (by decide +kernel)) ggL_missingUser_X7_missingUser
theorem dL_missingUser_0 : decode cL_missingUser 0 = .ok (.aload_n 2, 1) := by decide +kernel
theorem dL_missingUser_1 : decode cL_missingUser 1 = .ok (.iconst 0, 1) := by decide +kernel
theorem dL_missingUser_2 : decode cL_missingUser 2 = .ok (.aload_n 0, 1) := by decide +kernel
theorem dL_missingUser_3 : decode cL_missingUser 3 = .ok (.iload_n 1, 1) := by decide +kernel
theorem dL_missingUser_4 : decode cL_missingUser 4 = .ok (.invokevirtual 59, 3) := by decide +kernel
theorem dL_missingUser_7 : decode cL_missingUser 7 = .ok (.i2l, 1) := by decide +kernel
theorem dL_missingUser_8 : decode cL_missingUser 8 = .ok (.lastore, 1) := by decide +kernel
theorem dL_missingUser_9 : decode cL_missingUser 9 = .ok (.goto 9, 3) := by decide +kernel
theorem dL_missingUser_12 : decode cL_missingUser 12 = .ok (.astore_n 3, 1) := by decide +kernel
theorem dL_missingUser_13 : decode cL_missingUser 13 = .ok (.iconst 1, 1) := by decide +kernel
theorem dL_missingUser_14 : decode cL_missingUser 14 = .ok (.ireturn, 1) := by decide +kernel
theorem dL_missingUser_15 : decode cL_missingUser 15 = .ok (.astore_n 3, 1) := by decide +kernel
theorem dL_missingUser_16 : decode cL_missingUser 16 = .ok (.iconst 2, 1) := by decide +kernel
theorem dL_missingUser_17 : decode cL_missingUser 17 = .ok (.ireturn, 1) := by decide +kernel
theorem dL_missingUser_18 : decode cL_missingUser 18 = .ok (.iconst 0, 1) := by decide +kernel
theorem dL_missingUser_19 : decode cL_missingUser 19 = .ok (.ireturn, 1) := by decide +kernel
set_option maxRecDepth 20000 in
theorem ggL_landedAt_X7_landedAt : GoodIn wsL_landedAt wsX7_landedAt := goodIn_ca (goodIn_r _ [6, 7, 8, 9, 10, 11, 12, 5, 13, 14, 15, 16, 17, 18, 19, 20, 21, 22, 23, 24, 25, 26] (by decide +kernel) (by decide +kernel)) (goodIn_sub (fun _ h => List.mem_cons_of_mem _ (List.mem_append_right _ h)) (by decide +kernel))
set_option maxRecDepth 20000 in
theorem gL_landedAt_X7_landedAt : GoodIn wsL_landedAt (wsV RL 62 RX7 yX7_landedAt wsX7_landedAt) := goodIn_app (goodIn_of _ (by decide +kernel)) ggL_landedAt_X7_landedAt
theorem dL_landedAt_0 : decode cL_landedAt 0 = .ok (.aload_n 2, 1) := by decide +kernel
theorem dL_landedAt_1 : decode cL_landedAt 1 = .ok (.iconst 0, 1) := by decide +kernel
theorem dL_landedAt_2 : decode cL_landedAt 2 = .ok (.aload_n 0, 1) := by decide +kernel
theorem dL_landedAt_3 : decode cL_landedAt 3 = .ok (.iload_n 1, 1) := by decide +kernel
theorem dL_landedAt_4 : decode cL_landedAt 4 = .ok (.invokevirtual 62, 3) := by decide +kernel
theorem dL_landedAt_7 : decode cL_landedAt 7 = .ok (.i2l, 1) := by decide +kernel
theorem dL_landedAt_8 : decode cL_landedAt 8 = .ok (.lastore, 1) := by decide +kernel
theorem dL_landedAt_9 : decode cL_landedAt 9 = .ok (.goto 6, 3) := by decide +kernel
theorem dL_landedAt_12 : decode cL_landedAt 12 = .ok (.astore_n 3, 1) := by decide +kernel
theorem dL_landedAt_13 : decode cL_landedAt 13 = .ok (.iconst 1, 1) := by decide +kernel
theorem dL_landedAt_14 : decode cL_landedAt 14 = .ok (.ireturn, 1) := by decide +kernel
theorem dL_landedAt_15 : decode cL_landedAt 15 = .ok (.iconst 0, 1) := by decide +kernel
theorem dL_landedAt_16 : decode cL_landedAt 16 = .ok (.ireturn, 1) := by decide +kernel
set_option maxRecDepth 20000 in
theorem ggL_mainLine_X7_mainLine : GoodIn wsL_mainLine wsX7_mainLine := goodIn_ca (goodIn_r _ [6, 7, 8, 9, 5, 10, 11, 12, 13, 14, 15, 16, 17, 18, 19, 20, 21, 22, 23, 24, 25, 26, 27, 28, 29, 30, 31, 32, 33, 34, 35, 36, 37, 38] (by decide +kernel) (by decide +kernel)) (goodIn_sub (fun _ h => List.mem_cons_of_mem _ (List.mem_append_right _ h)) (by decide +kernel))
set_option maxRecDepth 20000 in
theorem gL_mainLine_X7_mainLine : GoodIn wsL_mainLine (wsV RL 65 RX7 yX7_mainLine wsX7_mainLine) := goodIn_app (goodIn_of _ (by decide +kernel)) ggL_mainLine_X7_mainLine
theorem dL_mainLine_0 : decode cL_mainLine 0 = .ok (.aload_n 2, 1) := by decide +kernel
theorem dL_mainLine_1 : decode cL_mainLine 1 = .ok (.iconst 0, 1) := by decide +kernel
theorem dL_mainLine_2 : decode cL_mainLine 2 = .ok (.aload_n 0, 1) := by decide +kernel
theorem dL_mainLine_3 : decode cL_mainLine 3 = .ok (.iload_n 1, 1) := by decide +kernel
theorem dL_mainLine_4 : decode cL_mainLine 4 = .ok (.invokevirtual 65, 3) := by decide +kernel
theorem dL_mainLine_7 : decode cL_mainLine 7 = .ok (.i2l, 1) := by decide +kernel
theorem dL_mainLine_8 : decode cL_mainLine 8 = .ok (.lastore, 1) := by decide +kernel
theorem dL_mainLine_9 : decode cL_mainLine 9 = .ok (.goto 6, 3) := by decide +kernel
theorem dL_mainLine_12 : decode cL_mainLine 12 = .ok (.astore_n 3, 1) := by decide +kernel
theorem dL_mainLine_13 : decode cL_mainLine 13 = .ok (.iconst 1, 1) := by decide +kernel
theorem dL_mainLine_14 : decode cL_mainLine 14 = .ok (.ireturn, 1) := by decide +kernel
theorem dL_mainLine_15 : decode cL_mainLine 15 = .ok (.iconst 0, 1) := by decide +kernel
theorem dL_mainLine_16 : decode cL_mainLine 16 = .ok (.ireturn, 1) := by decide +kernel
set_option maxRecDepth 20000 in
theorem ggL_rounds_X7_rounds : GoodIn wsL_rounds wsX7_rounds := goodIn_ca (goodIn_r _ [6, 7, 8, 9, 5, 10, 11, 12, 13, 14, 15, 16, 17, 18, 19, 20, 21, 22, 23, 24, 25, 26, 27, 28, 29, 30, 31, 32, 33, 34, 35, 36, 37] (by decide +kernel) (by decide +kernel)) (goodIn_sub (fun _ h => List.mem_cons_of_mem _ (List.mem_append_right _ h)) (by decide +kernel))
set_option maxRecDepth 20000 in
theorem gL_rounds_X7_rounds : GoodIn wsL_rounds (wsV RL 68 RX7 yX7_rounds wsX7_rounds) := goodIn_app (goodIn_of _ (by decide +kernel)) ggL_rounds_X7_rounds
theorem dL_rounds_0 : decode cL_rounds 0 = .ok (.aload_n 2, 1) := by decide +kernel
theorem dL_rounds_1 : decode cL_rounds 1 = .ok (.iconst 0, 1) := by decide +kernel
theorem dL_rounds_2 : decode cL_rounds 2 = .ok (.aload_n 0, 1) := by decide +kernel
theorem dL_rounds_3 : decode cL_rounds 3 = .ok (.iload_n 1, 1) := by decide +kernel
theorem dL_rounds_4 : decode cL_rounds 4 = .ok (.invokevirtual 68, 3) := by decide +kernel
theorem dL_rounds_7 : decode cL_rounds 7 = .ok (.i2l, 1) := by decide +kernel
theorem dL_rounds_8 : decode cL_rounds 8 = .ok (.lastore, 1) := by decide +kernel
theorem dL_rounds_9 : decode cL_rounds 9 = .ok (.goto 6, 3) := by decide +kernel
theorem dL_rounds_12 : decode cL_rounds 12 = .ok (.astore_n 3, 1) := by decide +kernel
theorem dL_rounds_13 : decode cL_rounds 13 = .ok (.iconst 1, 1) := by decide +kernel
theorem dL_rounds_14 : decode cL_rounds 14 = .ok (.ireturn, 1) := by decide +kernel
theorem dL_rounds_15 : decode cL_rounds 15 = .ok (.iconst 0, 1) := by decide +kernel
theorem dL_rounds_16 : decode cL_rounds 16 = .ok (.ireturn, 1) := by decide +kernel
set_option maxRecDepth 20000 in
theorem ggL_lines_X7_lines : GoodIn wsL_lines wsX7_lines := goodIn_ca (goodIn_ca (goodIn_r _ [7, 8, 9, 10, 6, 11, 12, 13, 14, 15, 16, 17, 18, 19, 20, 21, 22, 23, 24, 25, 26, 27, 28, 29, 30, 31, 32, 33, 34, 35, 36, 37, 38, 39, 40, 41, 42, 43, 44, 45, 46, 47, 48, 49, 50, 51, 52, 53, 54, 55, 56, 57, 58, 59, 60, 61] (by decide +kernel) (by decide +kernel)) (goodIn_sub (fun _ h => List.mem_cons_of_mem _ (List.mem_append_left _ (List.mem_append_right _ h))) (by decide +kernel))) (goodIn_sub (fun _ h => List.mem_cons_of_mem _ (List.mem_append_right _ h)) (by decide +kernel))
set_option maxRecDepth 20000 in
theorem gL_lines_X7_lines : GoodIn wsL_lines (wsV RL 71 RX7 yX7_lines wsX7_lines) := goodIn_app (goodIn_of _ (by decide +kernel)) ggL_lines_X7_lines
theorem dL_lines_0 : decode cL_lines 0 = .ok (.aload_n 3, 1) := by decide +kernel
theorem dL_lines_1 : decode cL_lines 1 = .ok (.iconst 0, 1) := by decide +kernel
theorem dL_lines_2 : decode cL_lines 2 = .ok (.aload_n 0, 1) := by decide +kernel
theorem dL_lines_3 : decode cL_lines 3 = .ok (.iload_n 1, 1) := by decide +kernel
theorem dL_lines_4 : decode cL_lines 4 = .ok (.iload_n 2, 1) := by decide +kernel
theorem dL_lines_5 : decode cL_lines 5 = .ok (.invokevirtual 71, 3) := by decide +kernel
theorem dL_lines_8 : decode cL_lines 8 = .ok (.i2l, 1) := by decide +kernel
theorem dL_lines_9 : decode cL_lines 9 = .ok (.lastore, 1) := by decide +kernel
theorem dL_lines_10 : decode cL_lines 10 = .ok (.goto 11, 3) := by decide +kernel
theorem dL_lines_13 : decode cL_lines 13 = .ok (.astore 4, 2) := by decide +kernel
theorem dL_lines_15 : decode cL_lines 15 = .ok (.iconst 1, 1) := by decide +kernel
theorem dL_lines_16 : decode cL_lines 16 = .ok (.ireturn, 1) := by decide +kernel
theorem dL_lines_17 : decode cL_lines 17 = .ok (.astore 4, 2) := by decide +kernel
theorem dL_lines_19 : decode cL_lines 19 = .ok (.iconst 2, 1) := by decide +kernel
theorem dL_lines_20 : decode cL_lines 20 = .ok (.ireturn, 1) := by decide +kernel
theorem dL_lines_21 : decode cL_lines 21 = .ok (.iconst 0, 1) := by decide +kernel
theorem dL_lines_22 : decode cL_lines 22 = .ok (.ireturn, 1) := by decide +kernel
set_option maxRecDepth 20000 in
theorem ggL_lineAt_X7_lineAt : GoodIn wsL_lineAt wsX7_lineAt := goodIn_ca (goodIn_ca (goodIn_r _ [7, 8, 9, 10, 6, 11, 12, 13, 14, 15, 16, 17, 18, 19, 20, 21, 22, 23, 24, 25, 26, 27, 28, 29, 30, 31, 32, 33, 34, 35, 36, 37, 38, 39, 40, 41, 42, 43, 44, 45, 46, 47, 48, 49, 50, 51, 52, 53, 54, 55, 56, 57, 58, 59, 60, 61, 62, 63, 64, 65, 66, 67, 68, 69] (by decide +kernel) (by decide +kernel)) (goodIn_sub (fun _ h => List.mem_cons_of_mem _ (List.mem_append_left _ (List.mem_append_right _ h))) (by decide +kernel))) (goodIn_sub (fun _ h => List.mem_cons_of_mem _ (List.mem_append_right _ h)) (by decide +kernel))
set_option maxRecDepth 20000 in
theorem gL_lineAt_X7_lineAt : GoodIn wsL_lineAt (wsV RL 74 RX7 yX7_lineAt wsX7_lineAt) := goodIn_app (goodIn_of _ (by decide +kernel)) ggL_lineAt_X7_lineAt
theorem dL_lineAt_0 : decode cL_lineAt 0 = .ok (.aload 4, 2) := by decide +kernel
theorem dL_lineAt_2 : decode cL_lineAt 2 = .ok (.iconst 0, 1) := by decide +kernel
theorem dL_lineAt_3 : decode cL_lineAt 3 = .ok (.aload_n 0, 1) := by decide +kernel
theorem dL_lineAt_4 : decode cL_lineAt 4 = .ok (.iload_n 1, 1) := by decide +kernel
theorem dL_lineAt_5 : decode cL_lineAt 5 = .ok (.iload_n 2, 1) := by decide +kernel
theorem dL_lineAt_6 : decode cL_lineAt 6 = .ok (.iload_n 3, 1) := by decide +kernel
theorem dL_lineAt_7 : decode cL_lineAt 7 = .ok (.invokevirtual 74, 3) := by decide +kernel
theorem dL_lineAt_10 : decode cL_lineAt 10 = .ok (.i2l, 1) := by decide +kernel
theorem dL_lineAt_11 : decode cL_lineAt 11 = .ok (.lastore, 1) := by decide +kernel
theorem dL_lineAt_12 : decode cL_lineAt 12 = .ok (.goto 11, 3) := by decide +kernel
theorem dL_lineAt_15 : decode cL_lineAt 15 = .ok (.astore 5, 2) := by decide +kernel
theorem dL_lineAt_17 : decode cL_lineAt 17 = .ok (.iconst 1, 1) := by decide +kernel
theorem dL_lineAt_18 : decode cL_lineAt 18 = .ok (.ireturn, 1) := by decide +kernel
theorem dL_lineAt_19 : decode cL_lineAt 19 = .ok (.astore 5, 2) := by decide +kernel
theorem dL_lineAt_21 : decode cL_lineAt 21 = .ok (.iconst 2, 1) := by decide +kernel
theorem dL_lineAt_22 : decode cL_lineAt 22 = .ok (.ireturn, 1) := by decide +kernel
theorem dL_lineAt_23 : decode cL_lineAt 23 = .ok (.iconst 0, 1) := by decide +kernel
theorem dL_lineAt_24 : decode cL_lineAt 24 = .ok (.ireturn, 1) := by decide +kernel
set_option maxRecDepth 20000 in
theorem ggL_edits_X7_edits : GoodIn wsL_edits wsX7_edits := goodIn_ca (goodIn_ca (goodIn_r _ [7, 8, 9, 10, 11, 6, 12, 13, 14, 15, 16, 17, 18, 19, 20, 21, 22, 23, 24, 25, 26, 27, 28, 29, 30, 31, 32, 33, 34, 35, 36, 37, 38, 39, 40, 41, 42, 43, 44, 45, 46, 47, 48, 49, 50, 51, 52, 53, 54, 55, 56, 57, 58, 59, 60, 61, 62, 63, 64, 65, 66, 67, 68, 69, 70, 71, 72, 73, 74, 75, 76, 77, 78, 79, 80, 81, 82, 83, 84, 85, 86, 87, 88, 89, 90, 91, 92, 93, 94, 95, 96, 97, 98, 99, 100, 101, 102, 103, 104, 105, 106, 107, 108, 109, 110, 111, 112, 113, 114] (by decide +kernel) (by decide +kernel)) (goodIn_sub (fun _ h => List.mem_cons_of_mem _ (List.mem_append_left _ (List.mem_append_right _ h))) (by decide +kernel))) (goodIn_sub (fun _ h => List.mem_cons_of_mem _ (List.mem_append_right _ h)) (by decide +kernel))
set_option maxRecDepth 20000 in
theorem gL_edits_X7_edits : GoodIn wsL_edits (wsV RL 77 RX7 yX7_edits wsX7_edits) := goodIn_app (goodIn_of _ (by decide +kernel)) ggL_edits_X7_edits
theorem dL_edits_0 : decode cL_edits 0 = .ok (.aload 4, 2) := by decide +kernel
theorem dL_edits_2 : decode cL_edits 2 = .ok (.iconst 0, 1) := by decide +kernel
theorem dL_edits_3 : decode cL_edits 3 = .ok (.aload_n 0, 1) := by decide +kernel
theorem dL_edits_4 : decode cL_edits 4 = .ok (.iload_n 1, 1) := by decide +kernel
theorem dL_edits_5 : decode cL_edits 5 = .ok (.iload_n 2, 1) := by decide +kernel
theorem dL_edits_6 : decode cL_edits 6 = .ok (.iload_n 3, 1) := by decide +kernel
theorem dL_edits_7 : decode cL_edits 7 = .ok (.invokevirtual 77, 3) := by decide +kernel
theorem dL_edits_10 : decode cL_edits 10 = .ok (.i2l, 1) := by decide +kernel
theorem dL_edits_11 : decode cL_edits 11 = .ok (.lastore, 1) := by decide +kernel
theorem dL_edits_12 : decode cL_edits 12 = .ok (.goto 11, 3) := by decide +kernel
theorem dL_edits_15 : decode cL_edits 15 = .ok (.astore 5, 2) := by decide +kernel
theorem dL_edits_17 : decode cL_edits 17 = .ok (.iconst 1, 1) := by decide +kernel
theorem dL_edits_18 : decode cL_edits 18 = .ok (.ireturn, 1) := by decide +kernel
theorem dL_edits_19 : decode cL_edits 19 = .ok (.astore 5, 2) := by decide +kernel
theorem dL_edits_21 : decode cL_edits 21 = .ok (.iconst 2, 1) := by decide +kernel
theorem dL_edits_22 : decode cL_edits 22 = .ok (.ireturn, 1) := by decide +kernel
theorem dL_edits_23 : decode cL_edits 23 = .ok (.iconst 0, 1) := by decide +kernel
theorem dL_edits_24 : decode cL_edits 24 = .ok (.ireturn, 1) := by decide +kernel
set_option maxRecDepth 20000 in
theorem ggL_editsByWays_X7_editsByWays : GoodIn wsL_editsByWays wsX7_editsByWays := goodIn_ca (goodIn_ca (goodIn_r _ [7, 8, 9, 10, 11, 6, 12, 13, 14, 15, 16, 17, 18, 19, 20, 21, 22, 23, 24, 25, 26, 27, 28, 29, 30, 31, 32, 33, 34, 35, 36, 37, 38, 39, 40, 41, 42, 43, 44, 45, 46, 47, 48, 49, 50, 51, 52, 53, 54, 55, 56, 57, 58, 59, 60, 61, 62, 63, 64, 65, 66, 67, 68, 69, 70, 71, 72, 73, 74, 75, 76, 77, 78, 79, 80, 81, 82, 83, 84, 85, 86, 87, 88, 89] (by decide +kernel) (by decide +kernel)) (goodIn_sub (fun _ h => List.mem_cons_of_mem _ (List.mem_append_left _ (List.mem_append_right _ h))) (by decide +kernel))) (goodIn_sub (fun _ h => List.mem_cons_of_mem _ (List.mem_append_right _ h)) (by decide +kernel))
set_option maxRecDepth 20000 in
theorem gL_editsByWays_X7_editsByWays : GoodIn wsL_editsByWays (wsV RL 80 RX7 yX7_editsByWays wsX7_editsByWays) := goodIn_app (goodIn_of _ (by decide +kernel)) ggL_editsByWays_X7_editsByWays
theorem dL_editsByWays_0 : decode cL_editsByWays 0 = .ok (.aload 4, 2) := by decide +kernel
theorem dL_editsByWays_2 : decode cL_editsByWays 2 = .ok (.iconst 0, 1) := by decide +kernel
theorem dL_editsByWays_3 : decode cL_editsByWays 3 = .ok (.aload_n 0, 1) := by decide +kernel
theorem dL_editsByWays_4 : decode cL_editsByWays 4 = .ok (.iload_n 1, 1) := by decide +kernel
theorem dL_editsByWays_5 : decode cL_editsByWays 5 = .ok (.iload_n 2, 1) := by decide +kernel
theorem dL_editsByWays_6 : decode cL_editsByWays 6 = .ok (.iload_n 3, 1) := by decide +kernel
theorem dL_editsByWays_7 : decode cL_editsByWays 7 = .ok (.invokevirtual 80, 3) := by decide +kernel
theorem dL_editsByWays_10 : decode cL_editsByWays 10 = .ok (.i2l, 1) := by decide +kernel
theorem dL_editsByWays_11 : decode cL_editsByWays 11 = .ok (.lastore, 1) := by decide +kernel
theorem dL_editsByWays_12 : decode cL_editsByWays 12 = .ok (.goto 11, 3) := by decide +kernel
theorem dL_editsByWays_15 : decode cL_editsByWays 15 = .ok (.astore 5, 2) := by decide +kernel
theorem dL_editsByWays_17 : decode cL_editsByWays 17 = .ok (.iconst 1, 1) := by decide +kernel
theorem dL_editsByWays_18 : decode cL_editsByWays 18 = .ok (.ireturn, 1) := by decide +kernel
theorem dL_editsByWays_19 : decode cL_editsByWays 19 = .ok (.astore 5, 2) := by decide +kernel
theorem dL_editsByWays_21 : decode cL_editsByWays 21 = .ok (.iconst 2, 1) := by decide +kernel
theorem dL_editsByWays_22 : decode cL_editsByWays 22 = .ok (.ireturn, 1) := by decide +kernel
theorem dL_editsByWays_23 : decode cL_editsByWays 23 = .ok (.iconst 0, 1) := by decide +kernel
theorem dL_editsByWays_24 : decode cL_editsByWays 24 = .ok (.ireturn, 1) := by decide +kernel
set_option maxRecDepth 20000 in
theorem ggL_ownerOf_X7_ownerOf : GoodIn wsL_ownerOf wsX7_ownerOf := goodIn_ca (goodIn_ca (goodIn_r _ [7, 8, 9, 10, 11, 12, 6, 13, 14, 15, 16, 17, 18, 19, 20, 21, 22, 23, 24, 25, 26, 27, 28, 29, 30, 31] (by decide +kernel) (by decide +kernel)) (goodIn_sub (fun _ h => List.mem_cons_of_mem _ (List.mem_append_left _ (List.mem_append_right _ h))) (by decide +kernel))) (goodIn_sub (fun _ h => List.mem_cons_of_mem _ (List.mem_append_right _ h)) (by decide +kernel))
set_option maxRecDepth 20000 in
theorem gL_ownerOf_X7_ownerOf : GoodIn wsL_ownerOf (wsV RL 83 RX7 yX7_ownerOf wsX7_ownerOf) := goodIn_app (goodIn_of _ (by decide +kernel)) ggL_ownerOf_X7_ownerOf
theorem dL_ownerOf_0 : decode cL_ownerOf 0 = .ok (.aload_n 2, 1) := by decide +kernel
theorem dL_ownerOf_1 : decode cL_ownerOf 1 = .ok (.iconst 0, 1) := by decide +kernel
theorem dL_ownerOf_2 : decode cL_ownerOf 2 = .ok (.aload_n 0, 1) := by decide +kernel
theorem dL_ownerOf_3 : decode cL_ownerOf 3 = .ok (.iload_n 1, 1) := by decide +kernel
theorem dL_ownerOf_4 : decode cL_ownerOf 4 = .ok (.invokevirtual 83, 3) := by decide +kernel
theorem dL_ownerOf_7 : decode cL_ownerOf 7 = .ok (.i2l, 1) := by decide +kernel
theorem dL_ownerOf_8 : decode cL_ownerOf 8 = .ok (.lastore, 1) := by decide +kernel
theorem dL_ownerOf_9 : decode cL_ownerOf 9 = .ok (.goto 9, 3) := by decide +kernel
theorem dL_ownerOf_12 : decode cL_ownerOf 12 = .ok (.astore_n 3, 1) := by decide +kernel
theorem dL_ownerOf_13 : decode cL_ownerOf 13 = .ok (.iconst 1, 1) := by decide +kernel
theorem dL_ownerOf_14 : decode cL_ownerOf 14 = .ok (.ireturn, 1) := by decide +kernel
theorem dL_ownerOf_15 : decode cL_ownerOf 15 = .ok (.astore_n 3, 1) := by decide +kernel
theorem dL_ownerOf_16 : decode cL_ownerOf 16 = .ok (.iconst 2, 1) := by decide +kernel
theorem dL_ownerOf_17 : decode cL_ownerOf 17 = .ok (.ireturn, 1) := by decide +kernel
theorem dL_ownerOf_18 : decode cL_ownerOf 18 = .ok (.iconst 0, 1) := by decide +kernel
theorem dL_ownerOf_19 : decode cL_ownerOf 19 = .ok (.ireturn, 1) := by decide +kernel
set_option maxRecDepth 20000 in
theorem ggL_needs_X7_needs : GoodIn wsL_needs wsX7_needs := goodIn_ca (goodIn_r _ [6, 7, 8, 9, 5, 10, 11, 12, 13, 14, 15, 16, 17, 18, 19, 20, 21, 22, 23, 24, 25, 26, 27, 28, 29, 30, 31, 32, 33, 34, 35, 36, 37, 38, 39, 40, 41, 42, 43, 44, 45, 46, 47, 48, 49, 50, 51, 52, 53, 54, 55, 56, 57, 58, 59, 60, 61, 62, 63, 64, 65, 66, 67, 68, 69, 70, 71, 72, 73, 74, 75, 76, 77, 78, 79, 80, 81, 82, 83, 84, 85, 86, 87, 88, 89, 90, 91, 92, 93, 94, 95, 96, 97, 98, 99, 100, 101, 102, 103, 104, 105, 106, 107, 108, 109, 110, 111, 112, 113, 114, 115, 116, 117, 118, 119, 120, 121, 122, 123, 124, 125, 126, 127, 128, 129, 130, 131, 132, 133, 134, 135, 136] (by decide +kernel) (by decide +kernel)) (goodIn_sub (fun _ h => List.mem_cons_of_mem _ (List.mem_append_right _ h)) (by decide +kernel))
set_option maxRecDepth 20000 in
theorem gL_needs_X7_needs : GoodIn wsL_needs (wsV RL 86 RX7 yX7_needs wsX7_needs) := goodIn_app (goodIn_of _ (by decide +kernel)) ggL_needs_X7_needs
theorem dL_needs_0 : decode cL_needs 0 = .ok (.aload_n 3, 1) := by decide +kernel
theorem dL_needs_1 : decode cL_needs 1 = .ok (.iconst 0, 1) := by decide +kernel
theorem dL_needs_2 : decode cL_needs 2 = .ok (.aload_n 0, 1) := by decide +kernel
theorem dL_needs_3 : decode cL_needs 3 = .ok (.iload_n 1, 1) := by decide +kernel
theorem dL_needs_4 : decode cL_needs 4 = .ok (.iload_n 2, 1) := by decide +kernel
theorem dL_needs_5 : decode cL_needs 5 = .ok (.invokevirtual 86, 3) := by decide +kernel
theorem dL_needs_8 : decode cL_needs 8 = .ok (.ifCond .eq 7, 3) := by decide +kernel
theorem dL_needs_11 : decode cL_needs 11 = .ok (.lconst 1, 1) := by decide +kernel
theorem dL_needs_12 : decode cL_needs 12 = .ok (.goto 4, 3) := by decide +kernel
theorem dL_needs_15 : decode cL_needs 15 = .ok (.lconst 0, 1) := by decide +kernel
theorem dL_needs_16 : decode cL_needs 16 = .ok (.lastore, 1) := by decide +kernel
theorem dL_needs_17 : decode cL_needs 17 = .ok (.goto 7, 3) := by decide +kernel
theorem dL_needs_20 : decode cL_needs 20 = .ok (.astore 4, 2) := by decide +kernel
theorem dL_needs_22 : decode cL_needs 22 = .ok (.iconst 1, 1) := by decide +kernel
theorem dL_needs_23 : decode cL_needs 23 = .ok (.ireturn, 1) := by decide +kernel
theorem dL_needs_24 : decode cL_needs 24 = .ok (.iconst 0, 1) := by decide +kernel
theorem dL_needs_25 : decode cL_needs 25 = .ok (.ireturn, 1) := by decide +kernel
set_option maxRecDepth 20000 in
theorem ggL_placeIn_X7_placeIn : GoodIn wsL_placeIn wsX7_placeIn := goodIn_ca (goodIn_ca (goodIn_r _ [7, 8, 9, 10, 6, 11, 12, 13, 14, 15, 16, 17, 18, 19, 20, 21, 22, 23, 24, 25, 26, 27, 28, 29, 30, 31, 32, 33, 34, 35, 36, 37, 38, 39, 40, 41, 42, 43, 44, 45, 46, 47, 48, 49, 50, 51, 52, 53, 54, 55, 56, 57, 58, 59, 60, 61, 62, 63, 64, 65, 66, 67, 68, 69, 70, 71, 72, 73, 74, 75, 76, 77, 78, 79, 80, 81, 82, 83, 84, 85, 86, 87, 88, 89, 90, 91, 92, 93, 94, 95, 96, 97, 98, 99, 100, 101, 102, 103, 104, 105, 106, 107, 108, 109, 110, 111, 112, 113, 114, 115, 116, 117, 118, 119, 120, 121, 122, 123, 124, 125] (by decide +kernel) (by decide +kernel)) (goodIn_sub (fun _ h => List.mem_cons_of_mem _ (List.mem_append_left _ (List.mem_append_right _ h))) (by decide +kernel))) (goodIn_sub (fun _ h => List.mem_cons_of_mem _ (List.mem_append_right _ h)) (by decide +kernel))
set_option maxRecDepth 20000 in
theorem gL_placeIn_X7_placeIn : GoodIn wsL_placeIn (wsV RL 90 RX7 yX7_placeIn wsX7_placeIn) := goodIn_app (goodIn_of _ (by decide +kernel)) ggL_placeIn_X7_placeIn
theorem dL_placeIn_0 : decode cL_placeIn 0 = .ok (.aload_n 3, 1) := by decide +kernel
theorem dL_placeIn_1 : decode cL_placeIn 1 = .ok (.iconst 0, 1) := by decide +kernel
theorem dL_placeIn_2 : decode cL_placeIn 2 = .ok (.aload_n 0, 1) := by decide +kernel
theorem dL_placeIn_3 : decode cL_placeIn 3 = .ok (.iload_n 1, 1) := by decide +kernel
theorem dL_placeIn_4 : decode cL_placeIn 4 = .ok (.iload_n 2, 1) := by decide +kernel
theorem dL_placeIn_5 : decode cL_placeIn 5 = .ok (.invokevirtual 90, 3) := by decide +kernel
theorem dL_placeIn_8 : decode cL_placeIn 8 = .ok (.i2l, 1) := by decide +kernel
theorem dL_placeIn_9 : decode cL_placeIn 9 = .ok (.lastore, 1) := by decide +kernel
theorem dL_placeIn_10 : decode cL_placeIn 10 = .ok (.goto 11, 3) := by decide +kernel
theorem dL_placeIn_13 : decode cL_placeIn 13 = .ok (.astore 4, 2) := by decide +kernel
theorem dL_placeIn_15 : decode cL_placeIn 15 = .ok (.iconst 1, 1) := by decide +kernel
theorem dL_placeIn_16 : decode cL_placeIn 16 = .ok (.ireturn, 1) := by decide +kernel
theorem dL_placeIn_17 : decode cL_placeIn 17 = .ok (.astore 4, 2) := by decide +kernel
theorem dL_placeIn_19 : decode cL_placeIn 19 = .ok (.iconst 2, 1) := by decide +kernel
theorem dL_placeIn_20 : decode cL_placeIn 20 = .ok (.ireturn, 1) := by decide +kernel
theorem dL_placeIn_21 : decode cL_placeIn 21 = .ok (.iconst 0, 1) := by decide +kernel
theorem dL_placeIn_22 : decode cL_placeIn 22 = .ok (.ireturn, 1) := by decide +kernel
set_option maxRecDepth 20000 in
theorem ggL_placeByComparing_X7_placeByComparing : GoodIn wsL_placeByComparing wsX7_placeByComparing := goodIn_ca (goodIn_ca (goodIn_r _ [7, 8, 9, 10, 6, 11, 12, 13, 14, 15, 16, 17, 18, 19, 20, 21, 22, 23, 24, 25, 26, 27, 28, 29, 30, 31, 32, 33, 34, 35, 36, 37, 38, 39, 40, 41, 42, 43, 44, 45, 46, 47, 48, 49, 50, 51, 52, 53, 54, 55, 56, 57, 58, 59, 60, 61, 62, 63, 64, 65, 66, 67, 68, 69, 70, 71, 72, 73, 74, 75, 76, 77, 78, 79, 80, 81, 82, 83, 84, 85, 86, 87, 88, 89, 90, 91, 92, 93, 94, 95, 96, 97, 98, 99, 100, 101, 102, 103, 104, 105, 106, 107, 108] (by decide +kernel) (by decide +kernel)) (goodIn_sub (fun _ h => List.mem_cons_of_mem _ (List.mem_append_left _ (List.mem_append_right _ h))) (by decide +kernel))) (goodIn_sub (fun _ h => List.mem_cons_of_mem _ (List.mem_append_right _ h)) (by decide +kernel))
set_option maxRecDepth 20000 in
theorem gL_placeByComparing_X7_placeByComparing : GoodIn wsL_placeByComparing (wsV RL 93 RX7 yX7_placeByComparing wsX7_placeByComparing) := goodIn_app (goodIn_of _ (by decide +kernel)) ggL_placeByComparing_X7_placeByComparing
theorem dL_placeByComparing_0 : decode cL_placeByComparing 0 = .ok (.aload_n 3, 1) := by decide +kernel
theorem dL_placeByComparing_1 : decode cL_placeByComparing 1 = .ok (.iconst 0, 1) := by decide +kernel
theorem dL_placeByComparing_2 : decode cL_placeByComparing 2 = .ok (.aload_n 0, 1) := by decide +kernel
theorem dL_placeByComparing_3 : decode cL_placeByComparing 3 = .ok (.iload_n 1, 1) := by decide +kernel
theorem dL_placeByComparing_4 : decode cL_placeByComparing 4 = .ok (.iload_n 2, 1) := by decide +kernel
theorem dL_placeByComparing_5 : decode cL_placeByComparing 5 = .ok (.invokevirtual 93, 3) := by decide +kernel
theorem dL_placeByComparing_8 : decode cL_placeByComparing 8 = .ok (.i2l, 1) := by decide +kernel
theorem dL_placeByComparing_9 : decode cL_placeByComparing 9 = .ok (.lastore, 1) := by decide +kernel
theorem dL_placeByComparing_10 : decode cL_placeByComparing 10 = .ok (.goto 11, 3) := by decide +kernel
theorem dL_placeByComparing_13 : decode cL_placeByComparing 13 = .ok (.astore 4, 2) := by decide +kernel
theorem dL_placeByComparing_15 : decode cL_placeByComparing 15 = .ok (.iconst 1, 1) := by decide +kernel
theorem dL_placeByComparing_16 : decode cL_placeByComparing 16 = .ok (.ireturn, 1) := by decide +kernel
theorem dL_placeByComparing_17 : decode cL_placeByComparing 17 = .ok (.astore 4, 2) := by decide +kernel
theorem dL_placeByComparing_19 : decode cL_placeByComparing 19 = .ok (.iconst 2, 1) := by decide +kernel
theorem dL_placeByComparing_20 : decode cL_placeByComparing 20 = .ok (.ireturn, 1) := by decide +kernel
theorem dL_placeByComparing_21 : decode cL_placeByComparing 21 = .ok (.iconst 0, 1) := by decide +kernel
theorem dL_placeByComparing_22 : decode cL_placeByComparing 22 = .ok (.ireturn, 1) := by decide +kernel
set_option maxRecDepth 20000 in
theorem ggL_isOpen_X7_isOpen : GoodIn wsL_isOpen wsX7_isOpen := goodIn_ca (goodIn_r _ [6, 7, 8, 9, 5, 10, 11, 12, 13, 14, 15, 16, 17, 18, 19, 20, 21, 22, 23, 24, 25, 26, 27, 28, 29, 30] (by decide +kernel) (by decide +kernel)) (goodIn_sub (fun _ h => List.mem_cons_of_mem _ (List.mem_append_right _ h)) (by decide +kernel))
set_option maxRecDepth 20000 in
theorem gL_isOpen_X7_isOpen : GoodIn wsL_isOpen (wsV RL 96 RX7 yX7_isOpen wsX7_isOpen) := goodIn_app (goodIn_of _ (by decide +kernel)) ggL_isOpen_X7_isOpen
theorem dL_isOpen_0 : decode cL_isOpen 0 = .ok (.aload_n 2, 1) := by decide +kernel
theorem dL_isOpen_1 : decode cL_isOpen 1 = .ok (.iconst 0, 1) := by decide +kernel
theorem dL_isOpen_2 : decode cL_isOpen 2 = .ok (.aload_n 0, 1) := by decide +kernel
theorem dL_isOpen_3 : decode cL_isOpen 3 = .ok (.iload_n 1, 1) := by decide +kernel
theorem dL_isOpen_4 : decode cL_isOpen 4 = .ok (.invokevirtual 96, 3) := by decide +kernel
theorem dL_isOpen_7 : decode cL_isOpen 7 = .ok (.ifCond .eq 7, 3) := by decide +kernel
theorem dL_isOpen_10 : decode cL_isOpen 10 = .ok (.lconst 1, 1) := by decide +kernel
theorem dL_isOpen_11 : decode cL_isOpen 11 = .ok (.goto 4, 3) := by decide +kernel
theorem dL_isOpen_14 : decode cL_isOpen 14 = .ok (.lconst 0, 1) := by decide +kernel
theorem dL_isOpen_15 : decode cL_isOpen 15 = .ok (.lastore, 1) := by decide +kernel
theorem dL_isOpen_16 : decode cL_isOpen 16 = .ok (.goto 6, 3) := by decide +kernel
theorem dL_isOpen_19 : decode cL_isOpen 19 = .ok (.astore_n 3, 1) := by decide +kernel
theorem dL_isOpen_20 : decode cL_isOpen 20 = .ok (.iconst 1, 1) := by decide +kernel
theorem dL_isOpen_21 : decode cL_isOpen 21 = .ok (.ireturn, 1) := by decide +kernel
theorem dL_isOpen_22 : decode cL_isOpen 22 = .ok (.iconst 0, 1) := by decide +kernel
theorem dL_isOpen_23 : decode cL_isOpen 23 = .ok (.ireturn, 1) := by decide +kernel
set_option maxRecDepth 20000 in
theorem ggL_openComments_X7_openComments : GoodIn wsL_openComments wsX7_openComments := goodIn_ca (goodIn_r _ [6, 7, 8, 9, 5, 10, 11, 12, 13, 14, 15, 16, 17, 18, 19, 20, 21, 22, 23, 24, 25, 26, 27, 28, 29, 30, 31, 32, 33, 34, 35] (by decide +kernel) (by decide +kernel)) (goodIn_sub (fun _ h => List.mem_cons_of_mem _ (List.mem_append_right _ h)) (by decide +kernel))
set_option maxRecDepth 20000 in
theorem gL_openComments_X7_openComments : GoodIn wsL_openComments (wsV RL 100 RX7 yX7_openComments wsX7_openComments) := goodIn_app (goodIn_of _ (by decide +kernel)) ggL_openComments_X7_openComments
theorem dL_openComments_0 : decode cL_openComments 0 = .ok (.aload_n 2, 1) := by decide +kernel
theorem dL_openComments_1 : decode cL_openComments 1 = .ok (.iconst 0, 1) := by decide +kernel
theorem dL_openComments_2 : decode cL_openComments 2 = .ok (.aload_n 0, 1) := by decide +kernel
theorem dL_openComments_3 : decode cL_openComments 3 = .ok (.iload_n 1, 1) := by decide +kernel
theorem dL_openComments_4 : decode cL_openComments 4 = .ok (.invokevirtual 100, 3) := by decide +kernel
theorem dL_openComments_7 : decode cL_openComments 7 = .ok (.i2l, 1) := by decide +kernel
theorem dL_openComments_8 : decode cL_openComments 8 = .ok (.lastore, 1) := by decide +kernel
theorem dL_openComments_9 : decode cL_openComments 9 = .ok (.goto 6, 3) := by decide +kernel
theorem dL_openComments_12 : decode cL_openComments 12 = .ok (.astore_n 3, 1) := by decide +kernel
theorem dL_openComments_13 : decode cL_openComments 13 = .ok (.iconst 1, 1) := by decide +kernel
theorem dL_openComments_14 : decode cL_openComments 14 = .ok (.ireturn, 1) := by decide +kernel
theorem dL_openComments_15 : decode cL_openComments 15 = .ok (.iconst 0, 1) := by decide +kernel
theorem dL_openComments_16 : decode cL_openComments 16 = .ok (.ireturn, 1) := by decide +kernel
set_option maxRecDepth 20000 in
theorem ggL_hasApproved_X7_hasApproved : GoodIn wsL_hasApproved wsX7_hasApproved := goodIn_ca (goodIn_r _ [6, 7, 8, 9, 5, 10, 11, 12, 13, 14, 15, 16, 17, 18, 19, 20, 21, 22, 23, 24, 25, 26, 27, 28, 29, 30, 31, 32, 33, 34, 35, 36, 37, 38, 39, 40, 41, 42, 43, 44, 45, 46, 47, 48] (by decide +kernel) (by decide +kernel)) (goodIn_sub (fun _ h => List.mem_cons_of_mem _ (List.mem_append_right _ h)) (by decide +kernel))
set_option maxRecDepth 20000 in
theorem gL_hasApproved_X7_hasApproved : GoodIn wsL_hasApproved (wsV RL 103 RX7 yX7_hasApproved wsX7_hasApproved) := goodIn_app (goodIn_of _ (by decide +kernel)) ggL_hasApproved_X7_hasApproved
theorem dL_hasApproved_0 : decode cL_hasApproved 0 = .ok (.aload_n 3, 1) := by decide +kernel
theorem dL_hasApproved_1 : decode cL_hasApproved 1 = .ok (.iconst 0, 1) := by decide +kernel
theorem dL_hasApproved_2 : decode cL_hasApproved 2 = .ok (.aload_n 0, 1) := by decide +kernel
theorem dL_hasApproved_3 : decode cL_hasApproved 3 = .ok (.iload_n 1, 1) := by decide +kernel
theorem dL_hasApproved_4 : decode cL_hasApproved 4 = .ok (.iload_n 2, 1) := by decide +kernel
theorem dL_hasApproved_5 : decode cL_hasApproved 5 = .ok (.invokevirtual 103, 3) := by decide +kernel
theorem dL_hasApproved_8 : decode cL_hasApproved 8 = .ok (.ifCond .eq 7, 3) := by decide +kernel
theorem dL_hasApproved_11 : decode cL_hasApproved 11 = .ok (.lconst 1, 1) := by decide +kernel
theorem dL_hasApproved_12 : decode cL_hasApproved 12 = .ok (.goto 4, 3) := by decide +kernel
theorem dL_hasApproved_15 : decode cL_hasApproved 15 = .ok (.lconst 0, 1) := by decide +kernel
theorem dL_hasApproved_16 : decode cL_hasApproved 16 = .ok (.lastore, 1) := by decide +kernel
theorem dL_hasApproved_17 : decode cL_hasApproved 17 = .ok (.goto 7, 3) := by decide +kernel
theorem dL_hasApproved_20 : decode cL_hasApproved 20 = .ok (.astore 4, 2) := by decide +kernel
theorem dL_hasApproved_22 : decode cL_hasApproved 22 = .ok (.iconst 1, 1) := by decide +kernel
theorem dL_hasApproved_23 : decode cL_hasApproved 23 = .ok (.ireturn, 1) := by decide +kernel
theorem dL_hasApproved_24 : decode cL_hasApproved 24 = .ok (.iconst 0, 1) := by decide +kernel
theorem dL_hasApproved_25 : decode cL_hasApproved 25 = .ok (.ireturn, 1) := by decide +kernel
set_option maxRecDepth 20000 in
theorem ggL_isStale_X7_isStale : GoodIn wsL_isStale wsX7_isStale := goodIn_ca (goodIn_ca (goodIn_r _ [7, 8, 9, 10, 6, 11, 12, 13, 14, 15, 16, 17, 18, 19, 20, 21, 22, 23, 24, 25, 26, 27, 28, 29, 30, 31, 32, 33, 34, 35, 36, 37, 38, 39, 40, 41, 42, 43, 44, 45, 46, 47, 48, 49, 50, 51, 52, 53, 54, 55, 56, 57, 58, 59, 60, 61, 62, 63, 64, 65, 66, 67, 68, 69, 70, 71, 72, 73, 74, 75, 76, 77, 78, 79, 80, 81, 82, 83, 84, 85, 86, 87, 88, 89, 90, 91, 92, 93, 94, 95, 96, 97, 98, 99, 100, 101, 102, 103, 104, 105, 106, 107, 108, 109, 110, 111, 112, 113, 114, 115, 116, 117, 118, 119, 120, 121, 122, 123, 124, 125, 126, 127, 128, 129, 130, 131, 132, 133, 134, 135, 136, 137, 138, 139, 140, 141, 142, 143] (by decide +kernel) (by decide +kernel)) (goodIn_sub (fun _ h => List.mem_cons_of_mem _ (List.mem_append_left _ (List.mem_append_right _ h))) (by decide +kernel))) (goodIn_sub (fun _ h => List.mem_cons_of_mem _ (List.mem_append_right _ h)) (by decide +kernel))
set_option maxRecDepth 20000 in
theorem gL_isStale_X7_isStale : GoodIn wsL_isStale (wsV RL 106 RX7 yX7_isStale wsX7_isStale) := goodIn_app (goodIn_of _ (by decide +kernel)) ggL_isStale_X7_isStale
theorem dL_isStale_0 : decode cL_isStale 0 = .ok (.aload_n 3, 1) := by decide +kernel
theorem dL_isStale_1 : decode cL_isStale 1 = .ok (.iconst 0, 1) := by decide +kernel
theorem dL_isStale_2 : decode cL_isStale 2 = .ok (.aload_n 0, 1) := by decide +kernel
theorem dL_isStale_3 : decode cL_isStale 3 = .ok (.iload_n 1, 1) := by decide +kernel
theorem dL_isStale_4 : decode cL_isStale 4 = .ok (.iload_n 2, 1) := by decide +kernel
theorem dL_isStale_5 : decode cL_isStale 5 = .ok (.invokevirtual 106, 3) := by decide +kernel
theorem dL_isStale_8 : decode cL_isStale 8 = .ok (.ifCond .eq 7, 3) := by decide +kernel
theorem dL_isStale_11 : decode cL_isStale 11 = .ok (.lconst 1, 1) := by decide +kernel
theorem dL_isStale_12 : decode cL_isStale 12 = .ok (.goto 4, 3) := by decide +kernel
theorem dL_isStale_15 : decode cL_isStale 15 = .ok (.lconst 0, 1) := by decide +kernel
theorem dL_isStale_16 : decode cL_isStale 16 = .ok (.lastore, 1) := by decide +kernel
theorem dL_isStale_17 : decode cL_isStale 17 = .ok (.goto 11, 3) := by decide +kernel
theorem dL_isStale_20 : decode cL_isStale 20 = .ok (.astore 4, 2) := by decide +kernel
theorem dL_isStale_22 : decode cL_isStale 22 = .ok (.iconst 1, 1) := by decide +kernel
theorem dL_isStale_23 : decode cL_isStale 23 = .ok (.ireturn, 1) := by decide +kernel
theorem dL_isStale_24 : decode cL_isStale 24 = .ok (.astore 4, 2) := by decide +kernel
theorem dL_isStale_26 : decode cL_isStale 26 = .ok (.iconst 2, 1) := by decide +kernel
theorem dL_isStale_27 : decode cL_isStale 27 = .ok (.ireturn, 1) := by decide +kernel
theorem dL_isStale_28 : decode cL_isStale 28 = .ok (.iconst 0, 1) := by decide +kernel
theorem dL_isStale_29 : decode cL_isStale 29 = .ok (.ireturn, 1) := by decide +kernel
