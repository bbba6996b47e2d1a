theorem dX4_copyTail_78 : decode cX4_copyTail 78 = .ok (.goto (-69), 3) := by decide +kernel
theorem dX4_copyTail_81 : decode cX4_copyTail 81 = .ok (.aload_n 0, 1) := by decide +kernel
theorem dX4_copyTail_82 : decode cX4_copyTail 82 = .ok (.iload_n 2, 1) := by decide +kernel
theorem dX4_copyTail_83 : decode cX4_copyTail 83 = .ok (.aload_n 0, 1) := by decide +kernel
theorem dX4_copyTail_84 : decode cX4_copyTail 84 = .ok (.getfield 7, 3) := by decide +kernel
theorem dX4_copyTail_87 : decode cX4_copyTail 87 = .ok (.iload_n 1, 1) := by decide +kernel
theorem dX4_copyTail_88 : decode cX4_copyTail 88 = .ok (.invokestatic 34, 3) := by decide +kernel
theorem dX4_copyTail_91 : decode cX4_copyTail 91 = .ok (.iaload, 1) := by decide +kernel
theorem dX4_copyTail_92 : decode cX4_copyTail 92 = .ok (.aload_n 0, 1) := by decide +kernel
theorem dX4_copyTail_93 : decode cX4_copyTail 93 = .ok (.getfield 7, 3) := by decide +kernel
theorem dX4_copyTail_96 : decode cX4_copyTail 96 = .ok (.iload_n 1, 1) := by decide +kernel
theorem dX4_copyTail_97 : decode cX4_copyTail 97 = .ok (.invokestatic 34, 3) := by decide +kernel
theorem dX4_copyTail_100 : decode cX4_copyTail 100 = .ok (.iconst 1, 1) := by decide +kernel
theorem dX4_copyTail_101 : decode cX4_copyTail 101 = .ok (.iadd, 1) := by decide +kernel
theorem dX4_copyTail_102 : decode cX4_copyTail 102 = .ok (.iaload, 1) := by decide +kernel
theorem dX4_copyTail_103 : decode cX4_copyTail 103 = .ok (.aload_n 0, 1) := by decide +kernel
theorem dX4_copyTail_104 : decode cX4_copyTail 104 = .ok (.getfield 7, 3) := by decide +kernel
theorem dX4_copyTail_107 : decode cX4_copyTail 107 = .ok (.iload_n 1, 1) := by decide +kernel
theorem dX4_copyTail_108 : decode cX4_copyTail 108 = .ok (.invokestatic 34, 3) := by decide +kernel
theorem dX4_copyTail_111 : decode cX4_copyTail 111 = .ok (.iconst 2, 1) := by decide +kernel
theorem dX4_copyTail_112 : decode cX4_copyTail 112 = .ok (.iadd, 1) := by decide +kernel
theorem dX4_copyTail_113 : decode cX4_copyTail 113 = .ok (.iaload, 1) := by decide +kernel
theorem dX4_copyTail_114 : decode cX4_copyTail 114 = .ok (.aload_n 0, 1) := by decide +kernel
theorem dX4_copyTail_115 : decode cX4_copyTail 115 = .ok (.getfield 7, 3) := by decide +kernel
theorem dX4_copyTail_118 : decode cX4_copyTail 118 = .ok (.iload_n 1, 1) := by decide +kernel
theorem dX4_copyTail_119 : decode cX4_copyTail 119 = .ok (.invokestatic 34, 3) := by decide +kernel
theorem dX4_copyTail_122 : decode cX4_copyTail 122 = .ok (.iconst 3, 1) := by decide +kernel
theorem dX4_copyTail_123 : decode cX4_copyTail 123 = .ok (.iadd, 1) := by decide +kernel
theorem dX4_copyTail_124 : decode cX4_copyTail 124 = .ok (.iaload, 1) := by decide +kernel
theorem dX4_copyTail_125 : decode cX4_copyTail 125 = .ok (.invokevirtual 37, 3) := by decide +kernel
theorem dX4_copyTail_128 : decode cX4_copyTail 128 = .ok (.return_, 1) := by decide +kernel
set_option maxRecDepth 20000 in
theorem ggX4_uniteLines_X4_at : GoodIn wsX4_uniteLines wsX4_at := goodIn_r _ [5, 6, 7, 4, 8] (by decide +kernel) (by decide +kernel)
set_option maxRecDepth 20000 in
theorem gX4_uniteLines_X4_at : GoodIn wsX4_uniteLines (va_wsS RX4 52 yX4_at wsX4_at) := goodIn_app (goodIn_of _ (by decide +kernel)) ggX4_uniteLines_X4_at
set_option maxRecDepth 20000 in
theorem ggX4_uniteLines_X4_many : GoodIn wsX4_uniteLines wsX4_many := goodIn_r _ [12, 1, 6, 7, 4, 8, 13, 14, 15, 16, 17, 18, 19] (by decide +kernel) (by decide +kernel)
set_option maxRecDepth 20000 in
theorem gX4_uniteLines_X4_many : GoodIn wsX4_uniteLines (wsV RX4 49 RX4 yX4_many wsX4_many) := goodIn_app (goodIn_of _ (by decide +kernel)) ggX4_uniteLines_X4_many
theorem dX4_uniteLines_0 : decode cX4_uniteLines 0 = .ok (.iconst 0, 1) := by decide +kernel
theorem dX4_uniteLines_1 : decode cX4_uniteLines 1 = .ok (.istore 4, 2) := by decide +kernel
theorem dX4_uniteLines_3 : decode cX4_uniteLines 3 = .ok (.iload 4, 2) := by decide +kernel
theorem dX4_uniteLines_5 : decode cX4_uniteLines 5 = .ok (.iload_n 3, 1) := by decide +kernel
theorem dX4_uniteLines_6 : decode cX4_uniteLines 6 = .ok (.if_icmp .ge 46, 3) := by decide +kernel
theorem dX4_uniteLines_9 : decode cX4_uniteLines 9 = .ok (.aload_n 0, 1) := by decide +kernel
theorem dX4_uniteLines_10 : decode cX4_uniteLines 10 = .ok (.getfield 7, 3) := by decide +kernel
theorem dX4_uniteLines_13 : decode cX4_uniteLines 13 = .ok (.iload_n 2, 1) := by decide +kernel
theorem dX4_uniteLines_14 : decode cX4_uniteLines 14 = .ok (.iload 4, 2) := by decide +kernel
theorem dX4_uniteLines_16 : decode cX4_uniteLines 16 = .ok (.invokestatic 52, 3) := by decide +kernel
theorem dX4_uniteLines_19 : decode cX4_uniteLines 19 = .ok (.iconst 4, 1) := by decide +kernel
theorem dX4_uniteLines_20 : decode cX4_uniteLines 20 = .ok (.iadd, 1) := by decide +kernel
theorem dX4_uniteLines_21 : decode cX4_uniteLines 21 = .ok (.dup2, 1) := by decide +kernel
theorem dX4_uniteLines_22 : decode cX4_uniteLines 22 = .ok (.iaload, 1) := by decide +kernel
theorem dX4_uniteLines_23 : decode cX4_uniteLines 23 = .ok (.aload_n 0, 1) := by decide +kernel
theorem dX4_uniteLines_24 : decode cX4_uniteLines 24 = .ok (.getfield 7, 3) := by decide +kernel
theorem dX4_uniteLines_27 : decode cX4_uniteLines 27 = .ok (.iload_n 1, 1) := by decide +kernel
theorem dX4_uniteLines_28 : decode cX4_uniteLines 28 = .ok (.aload_n 0, 1) := by decide +kernel
theorem dX4_uniteLines_29 : decode cX4_uniteLines 29 = .ok (.iload_n 1, 1) := by decide +kernel
theorem dX4_uniteLines_30 : decode cX4_uniteLines 30 = .ok (.invokevirtual 49, 3) := by decide +kernel
theorem dX4_uniteLines_33 : decode cX4_uniteLines 33 = .ok (.iload_n 3, 1) := by decide +kernel
theorem dX4_uniteLines_34 : decode cX4_uniteLines 34 = .ok (.isub, 1) := by decide +kernel
theorem dX4_uniteLines_35 : decode cX4_uniteLines 35 = .ok (.iload 4, 2) := by decide +kernel
theorem dX4_uniteLines_37 : decode cX4_uniteLines 37 = .ok (.iadd, 1) := by decide +kernel
theorem dX4_uniteLines_38 : decode cX4_uniteLines 38 = .ok (.invokestatic 52, 3) := by decide +kernel
theorem dX4_uniteLines_41 : decode cX4_uniteLines 41 = .ok (.iconst 4, 1) := by decide +kernel
theorem dX4_uniteLines_42 : decode cX4_uniteLines 42 = .ok (.iadd, 1) := by decide +kernel
theorem dX4_uniteLines_43 : decode cX4_uniteLines 43 = .ok (.iaload, 1) := by decide +kernel
theorem dX4_uniteLines_44 : decode cX4_uniteLines 44 = .ok (.ior, 1) := by decide +kernel
theorem dX4_uniteLines_45 : decode cX4_uniteLines 45 = .ok (.iastore, 1) := by decide +kernel
theorem dX4_uniteLines_46 : decode cX4_uniteLines 46 = .ok (.iinc 4 1, 3) := by decide +kernel
theorem dX4_uniteLines_49 : decode cX4_uniteLines 49 = .ok (.goto (-46), 3) := by decide +kernel
theorem dX4_uniteLines_52 : decode cX4_uniteLines 52 = .ok (.return_, 1) := by decide +kernel
set_option maxRecDepth 20000 in
theorem ggX4_cutTail_X4_many : GoodIn wsX4_cutTail wsX4_many := goodIn_r _ [6, 1, 7, 8, 5, 9, 20, 21, 22, 23, 24, 25, 26] (by decide +kernel) (by decide +kernel)
set_option maxRecDepth 20000 in
theorem gX4_cutTail_X4_many : GoodIn wsX4_cutTail (wsV RX4 49 RX4 yX4_many wsX4_many) := goodIn_app (goodIn_of _ (by decide +kernel)) ggX4_cutTail_X4_many
set_option maxRecDepth 20000 in
theorem ggX4_cutTail_X4_at : GoodIn wsX4_cutTail wsX4_at := goodIn_r _ [12, 7, 8, 5, 9] (by decide +kernel) (by decide +kernel)
set_option maxRecDepth 20000 in
theorem gX4_cutTail_X4_at : GoodIn wsX4_cutTail (va_wsS RX4 52 yX4_at wsX4_at) := goodIn_app (goodIn_of _ (by decide +kernel)) ggX4_cutTail_X4_at
set_option maxRecDepth 20000 in
theorem ggX4_cutTail_X4_end : GoodIn wsX4_cutTail wsX4_end := goodIn_r _ [15, 7, 8, 5, 9] (by decide +kernel) (by decide +kernel)
set_option maxRecDepth 20000 in
theorem gX4_cutTail_X4_end : GoodIn wsX4_cutTail (va_wsS RX4 34 yX4_end wsX4_end) := goodIn_app (goodIn_of _ (by decide +kernel)) ggX4_cutTail_X4_end
set_option maxRecDepth 20000 in
theorem ggX4_cutTail_X4_base : GoodIn wsX4_cutTail wsX4_base := goodIn_r _ [9] (by decide +kernel) (by decide +kernel)
set_option maxRecDepth 20000 in
theorem gX4_cutTail_X4_base : GoodIn wsX4_cutTail (va_wsS RX4 30 yX4_base wsX4_base) := goodIn_app (goodIn_of _ (by decide +kernel)) ggX4_cutTail_X4_base
set_option maxRecDepth 20000 in
theorem ggX4_cutTail_X4_terminate : GoodIn wsX4_cutTail wsX4_terminate := goodIn_r _ [19, 1, 13, 14, 5, 15, 7, 8, 9, 20, 21, 22, 23, 24, 25, 26] (by decide +kernel) (by decide +kernel)
set_option maxRecDepth 20000 in
theorem gX4_cutTail_X4_terminate : GoodIn wsX4_cutTail (wsV RX4 37 RX4 yX4_terminate wsX4_terminate) := goodIn_app (goodIn_of _ (by decide +kernel)) ggX4_cutTail_X4_terminate
theorem dX4_cutTail_0 : decode cX4_cutTail 0 = .ok (.iload_n 1, 1) := by decide +kernel
theorem dX4_cutTail_1 : decode cX4_cutTail 1 = .ok (.aload_n 0, 1) := by decide +kernel
theorem dX4_cutTail_2 : decode cX4_cutTail 2 = .ok (.iload_n 1, 1) := by decide +kernel
theorem dX4_cutTail_3 : decode cX4_cutTail 3 = .ok (.invokevirtual 49, 3) := by decide +kernel
theorem dX4_cutTail_6 : decode cX4_cutTail 6 = .ok (.iload_n 2, 1) := by decide +kernel
theorem dX4_cutTail_7 : decode cX4_cutTail 7 = .ok (.isub, 1) := by decide +kernel
theorem dX4_cutTail_8 : decode cX4_cutTail 8 = .ok (.invokestatic 52, 3) := by decide +kernel
theorem dX4_cutTail_11 : decode cX4_cutTail 11 = .ok (.istore 4, 2) := by decide +kernel
theorem dX4_cutTail_13 : decode cX4_cutTail 13 = .ok (.iload 4, 2) := by decide +kernel
theorem dX4_cutTail_15 : decode cX4_cutTail 15 = .ok (.iload_n 1, 1) := by decide +kernel
theorem dX4_cutTail_16 : decode cX4_cutTail 16 = .ok (.invokestatic 34, 3) := by decide +kernel
theorem dX4_cutTail_19 : decode cX4_cutTail 19 = .ok (.if_icmp .ge 17, 3) := by decide +kernel
theorem dX4_cutTail_22 : decode cX4_cutTail 22 = .ok (.aload_n 0, 1) := by decide +kernel
theorem dX4_cutTail_23 : decode cX4_cutTail 23 = .ok (.getfield 7, 3) := by decide +kernel
theorem dX4_cutTail_26 : decode cX4_cutTail 26 = .ok (.iload 4, 2) := by decide +kernel
theorem dX4_cutTail_28 : decode cX4_cutTail 28 = .ok (.iconst 0, 1) := by decide +kernel
theorem dX4_cutTail_29 : decode cX4_cutTail 29 = .ok (.iastore, 1) := by decide +kernel
theorem dX4_cutTail_30 : decode cX4_cutTail 30 = .ok (.iinc 4 1, 3) := by decide +kernel
theorem dX4_cutTail_33 : decode cX4_cutTail 33 = .ok (.goto (-20), 3) := by decide +kernel
theorem dX4_cutTail_36 : decode cX4_cutTail 36 = .ok (.aload_n 0, 1) := by decide +kernel
theorem dX4_cutTail_37 : decode cX4_cutTail 37 = .ok (.getfield 7, 3) := by decide +kernel
theorem dX4_cutTail_40 : decode cX4_cutTail 40 = .ok (.iload_n 1, 1) := by decide +kernel
theorem dX4_cutTail_41 : decode cX4_cutTail 41 = .ok (.invokestatic 30, 3) := by decide +kernel
theorem dX4_cutTail_44 : decode cX4_cutTail 44 = .ok (.dup2, 1) := by decide +kernel
theorem dX4_cutTail_45 : decode cX4_cutTail 45 = .ok (.iaload, 1) := by decide +kernel
theorem dX4_cutTail_46 : decode cX4_cutTail 46 = .ok (.iload_n 2, 1) := by decide +kernel
theorem dX4_cutTail_47 : decode cX4_cutTail 47 = .ok (.isub, 1) := by decide +kernel
theorem dX4_cutTail_48 : decode cX4_cutTail 48 = .ok (.iastore, 1) := by decide +kernel
theorem dX4_cutTail_49 : decode cX4_cutTail 49 = .ok (.aload_n 0, 1) := by decide +kernel
theorem dX4_cutTail_50 : decode cX4_cutTail 50 = .ok (.iload_n 1, 1) := by decide +kernel
theorem dX4_cutTail_51 : decode cX4_cutTail 51 = .ok (.iconst 0, 1) := by decide +kernel
theorem dX4_cutTail_52 : decode cX4_cutTail 52 = .ok (.iload_n 3, 1) := by decide +kernel
theorem dX4_cutTail_53 : decode cX4_cutTail 53 = .ok (.iconst 0, 1) := by decide +kernel
theorem dX4_cutTail_54 : decode cX4_cutTail 54 = .ok (.iconst 0, 1) := by decide +kernel
theorem dX4_cutTail_55 : decode cX4_cutTail 55 = .ok (.invokevirtual 37, 3) := by decide +kernel
theorem dX4_cutTail_58 : decode cX4_cutTail 58 = .ok (.return_, 1) := by decide +kernel
set_option maxRecDepth 20000 in
theorem ggX4_mergeSet_X4_tailOf : GoodIn wsX4_mergeSet wsX4_tailOf := goodIn_r _ [6, 1, 7, 8, 5, 9, 10, 11, 12, 13, 14, 15, 16, 17, 18, 19, 20, 21, 22, 23, 24, 25, 26, 27, 28, 29, 30, 31, 32, 33, 34, 59, 60, 61, 62, 63, 64, 65] (by decide +kernel) (by decide +kernel)
set_option maxRecDepth 20000 in
theorem gX4_mergeSet_X4_tailOf : GoodIn wsX4_mergeSet (wsV RX4 107 RX4 yX4_tailOf wsX4_tailOf) := goodIn_app (goodIn_of _ (by decide +kernel)) ggX4_mergeSet_X4_tailOf
set_option maxRecDepth 20000 in
theorem ggX4_mergeSet_X4_newBlock : GoodIn wsX4_mergeSet wsX4_newBlock := goodIn_r _ [38, 1, 21, 22, 5, 23, 39, 40, 41, 42, 18, 19, 20, 59, 60, 61, 62, 63, 64, 65] (by decide +kernel) (by decide +kernel)
set_option maxRecDepth 20000 in
theorem gX4_mergeSet_X4_newBlock : GoodIn wsX4_mergeSet (wsV RX4 41 RX4 yX4_newBlock wsX4_newBlock) := goodIn_app (goodIn_of _ (by decide +kernel)) ggX4_mergeSet_X4_newBlock
set_option maxRecDepth 20000 in
theorem ggX4_mergeSet_X4_lowest : GoodIn wsX4_mergeSet wsX4_lowest := goodIn_r _ [9] (by decide +kernel) (by decide +kernel)
set_option maxRecDepth 20000 in
theorem gX4_mergeSet_X4_lowest : GoodIn wsX4_mergeSet (va_wsS RX4 101 yX4_lowest wsX4_lowest) := goodIn_app (goodIn_of _ (by decide +kernel)) ggX4_mergeSet_X4_lowest
set_option maxRecDepth 20000 in
theorem ggX4_mergeSet_X4_copyTail : GoodIn wsX4_mergeSet wsX4_copyTail := goodIn_r _ [46, 1, 24, 25, 26, 5, 27, 21, 22, 23, 32, 33, 34, 47, 48, 49, 50, 18, 19, 20, 39, 40, 41, 42, 59, 60, 61, 62, 63, 64, 65] (by decide +kernel) (by decide +kernel)
set_option maxRecDepth 20000 in
theorem gX4_mergeSet_X4_copyTail : GoodIn wsX4_mergeSet (wsV RX4 119 RX4 yX4_copyTail wsX4_copyTail) := goodIn_app (goodIn_of _ (by decide +kernel)) ggX4_mergeSet_X4_copyTail
set_option maxRecDepth 20000 in
theorem ggX4_mergeSet_X4_uniteLines : GoodIn wsX4_mergeSet wsX4_uniteLines := goodIn_r _ [54, 1, 32, 33, 5, 34, 21, 22, 23, 24, 25, 26, 27, 59, 60, 61, 62, 63, 64, 65] (by decide +kernel) (by decide +kernel)
set_option maxRecDepth 20000 in
theorem gX4_mergeSet_X4_uniteLines : GoodIn wsX4_mergeSet (wsV RX4 123 RX4 yX4_uniteLines wsX4_uniteLines) := goodIn_app (goodIn_of _ (by decide +kernel)) ggX4_mergeSet_X4_uniteLines
set_option maxRecDepth 20000 in
theorem ggX4_mergeSet_X4_cutTail : GoodIn wsX4_mergeSet wsX4_cutTail := goodIn_r _ [58, 1, 24, 25, 26, 5, 27, 21, 22, 23, 32, 33, 34, 18, 19, 20, 39, 40, 41, 42, 59, 60, 61, 62, 63, 64, 65] (by decide +kernel) (by decide +kernel)
set_option maxRecDepth 20000 in
theorem gX4_mergeSet_X4_cutTail : GoodIn wsX4_mergeSet (wsV RX4 126 RX4 yX4_cutTail wsX4_cutTail) := goodIn_app (goodIn_of _ (by decide +kernel)) ggX4_mergeSet_X4_cutTail
theorem dX4_mergeSet_0 : decode cX4_mergeSet 0 = .ok (.aload_n 0, 1) := by decide +kernel
theorem dX4_mergeSet_1 : decode cX4_mergeSet 1 = .ok (.iload_n 1, 1) := by decide +kernel
theorem dX4_mergeSet_2 : decode cX4_mergeSet 2 = .ok (.invokevirtual 107, 3) := by decide +kernel
theorem dX4_mergeSet_5 : decode cX4_mergeSet 5 = .ok (.istore_n 2, 1) := by decide +kernel
theorem dX4_mergeSet_6 : decode cX4_mergeSet 6 = .ok (.aload_n 0, 1) := by decide +kernel
theorem dX4_mergeSet_7 : decode cX4_mergeSet 7 = .ok (.getfield 7, 3) := by decide +kernel
theorem dX4_mergeSet_10 : decode cX4_mergeSet 10 = .ok (.iconst 0, 1) := by decide +kernel
theorem dX4_mergeSet_11 : decode cX4_mergeSet 11 = .ok (.iaload, 1) := by decide +kernel
theorem dX4_mergeSet_12 : decode cX4_mergeSet 12 = .ok (.iconst 1, 1) := by decide +kernel
theorem dX4_mergeSet_13 : decode cX4_mergeSet 13 = .ok (.isub, 1) := by decide +kernel
theorem dX4_mergeSet_14 : decode cX4_mergeSet 14 = .ok (.istore_n 3, 1) := by decide +kernel
theorem dX4_mergeSet_15 : decode cX4_mergeSet 15 = .ok (.aload_n 0, 1) := by decide +kernel
theorem dX4_mergeSet_16 : decode cX4_mergeSet 16 = .ok (.invokevirtual 41, 3) := by decide +kernel
theorem dX4_mergeSet_19 : decode cX4_mergeSet 19 = .ok (.istore 4, 2) := by decide +kernel
theorem dX4_mergeSet_21 : decode cX4_mergeSet 21 = .ok (.aload_n 0, 1) := by decide +kernel
theorem dX4_mergeSet_22 : decode cX4_mergeSet 22 = .ok (.iload_n 1, 1) := by decide +kernel
theorem dX4_mergeSet_23 : decode cX4_mergeSet 23 = .ok (.invokestatic 101, 3) := by decide +kernel
theorem dX4_mergeSet_26 : decode cX4_mergeSet 26 = .ok (.iload 4, 2) := by decide +kernel
theorem dX4_mergeSet_28 : decode cX4_mergeSet 28 = .ok (.iload_n 2, 1) := by decide +kernel
theorem dX4_mergeSet_29 : decode cX4_mergeSet 29 = .ok (.invokevirtual 119, 3) := by decide +kernel
theorem dX4_mergeSet_32 : decode cX4_mergeSet 32 = .ok (.iconst 0, 1) := by decide +kernel
theorem dX4_mergeSet_33 : decode cX4_mergeSet 33 = .ok (.istore 5, 2) := by decide +kernel
theorem dX4_mergeSet_35 : decode cX4_mergeSet 35 = .ok (.iload 5, 2) := by decide +kernel
theorem dX4_mergeSet_37 : decode cX4_mergeSet 37 = .ok (.iload_n 3, 1) := by decide +kernel
theorem dX4_mergeSet_38 : decode cX4_mergeSet 38 = .ok (.if_icmp .gt 37, 3) := by decide +kernel
theorem dX4_mergeSet_41 : decode cX4_mergeSet 41 = .ok (.iload_n 1, 1) := by decide +kernel
theorem dX4_mergeSet_42 : decode cX4_mergeSet 42 = .ok (.iload 5, 2) := by decide +kernel
theorem dX4_mergeSet_44 : decode cX4_mergeSet 44 = .ok (.ishr, 1) := by decide +kernel
theorem dX4_mergeSet_45 : decode cX4_mergeSet 45 = .ok (.iconst 1, 1) := by decide +kernel
theorem dX4_mergeSet_46 : decode cX4_mergeSet 46 = .ok (.iand, 1) := by decide +kernel
theorem dX4_mergeSet_47 : decode cX4_mergeSet 47 = .ok (.iconst 1, 1) := by decide +kernel
theorem dX4_mergeSet_48 : decode cX4_mergeSet 48 = .ok (.if_icmp .ne 21, 3) := by decide +kernel
theorem dX4_mergeSet_51 : decode cX4_mergeSet 51 = .ok (.aload_n 0, 1) := by decide +kernel
theorem dX4_mergeSet_52 : decode cX4_mergeSet 52 = .ok (.iload 5, 2) := by decide +kernel
theorem dX4_mergeSet_54 : decode cX4_mergeSet 54 = .ok (.iload 4, 2) := by decide +kernel
theorem dX4_mergeSet_56 : decode cX4_mergeSet 56 = .ok (.iload_n 2, 1) := by decide +kernel
theorem dX4_mergeSet_57 : decode cX4_mergeSet 57 = .ok (.invokevirtual 123, 3) := by decide +kernel
theorem dX4_mergeSet_60 : decode cX4_mergeSet 60 = .ok (.aload_n 0, 1) := by decide +kernel
theorem dX4_mergeSet_61 : decode cX4_mergeSet 61 = .ok (.iload 5, 2) := by decide +kernel
theorem dX4_mergeSet_63 : decode cX4_mergeSet 63 = .ok (.iload_n 2, 1) := by decide +kernel
theorem dX4_mergeSet_64 : decode cX4_mergeSet 64 = .ok (.iload 4, 2) := by decide +kernel
theorem dX4_mergeSet_66 : decode cX4_mergeSet 66 = .ok (.invokevirtual 126, 3) := by decide +kernel
theorem dX4_mergeSet_69 : decode cX4_mergeSet 69 = .ok (.iinc 5 1, 3) := by decide +kernel
theorem dX4_mergeSet_72 : decode cX4_mergeSet 72 = .ok (.goto (-37), 3) := by decide +kernel
theorem dX4_mergeSet_75 : decode cX4_mergeSet 75 = .ok (.iload 4, 2) := by decide +kernel
theorem dX4_mergeSet_77 : decode cX4_mergeSet 77 = .ok (.ireturn, 1) := by decide +kernel
set_option maxRecDepth 20000 in
theorem ggX4_mergeTail_X4_wrongSet : GoodIn wsX4_mergeTail wsX4_wrongSet := goodIn_r _ [6, 1, 7, 8, 5, 9, 10, 11, 12, 13, 14, 15, 16, 17, 18, 19, 20, 21, 22, 23, 24, 25, 26, 27, 28, 29, 30, 31, 32, 33, 34, 35, 36, 37, 38, 39, 40, 41, 78, 79, 80, 81, 82, 83, 84] (by decide +kernel) (by decide +kernel)
set_option maxRecDepth 20000 in
theorem gX4_mergeTail_X4_wrongSet : GoodIn wsX4_mergeTail (wsV RX4 110 RX4 yX4_wrongSet wsX4_wrongSet) := goodIn_app (goodIn_of _ (by decide +kernel)) ggX4_mergeTail_X4_wrongSet
set_option maxRecDepth 20000 in
theorem ggX4_mergeTail_X4_savingOf : GoodIn wsX4_mergeTail wsX4_savingOf := goodIn_r _ [45, 1, 7, 8, 5, 9, 10, 11, 12, 13, 14, 15, 16, 17, 18, 19, 20, 21, 22, 23, 24, 25, 26, 27, 28, 29, 30, 31, 32, 33, 34, 35, 36, 37, 38, 39, 40, 41, 46, 47, 48, 49, 78, 79, 80, 81, 82, 83, 84] (by decide +kernel) (by decide +kernel)
set_option maxRecDepth 20000 in
theorem gX4_mergeTail_X4_savingOf : GoodIn wsX4_mergeTail (wsV RX4 113 RX4 yX4_savingOf wsX4_savingOf) := goodIn_app (goodIn_of _ (by decide +kernel)) ggX4_mergeTail_X4_savingOf
set_option maxRecDepth 20000 in
theorem ggX4_mergeTail_X4_mergeSet : GoodIn wsX4_mergeTail wsX4_mergeSet := goodIn_r _ [53, 1, 10, 11, 12, 5, 13, 14, 15, 16, 17, 18, 19, 20, 21, 22, 23, 24, 25, 26, 27, 28, 29, 30, 31, 32, 33, 34, 35, 36, 37, 38, 39, 40, 41, 54, 55, 56, 57, 58, 59, 60, 61, 62, 63, 64, 65, 66, 67, 68, 69, 70, 71, 72, 73, 74, 75, 76, 77, 78, 79, 80, 81, 82, 83, 84] (by decide +kernel) (by decide +kernel)
set_option maxRecDepth 20000 in
theorem gX4_mergeTail_X4_mergeSet : GoodIn wsX4_mergeTail (wsV RX4 129 RX4 yX4_mergeSet wsX4_mergeSet) := goodIn_app (goodIn_of _ (by decide +kernel)) ggX4_mergeTail_X4_mergeSet
theorem dX4_mergeTail_0 : decode cX4_mergeTail 0 = .ok (.aload_n 0, 1) := by decide +kernel
theorem dX4_mergeTail_1 : decode cX4_mergeTail 1 = .ok (.iload_n 1, 1) := by decide +kernel
theorem dX4_mergeTail_2 : decode cX4_mergeTail 2 = .ok (.invokevirtual 110, 3) := by decide +kernel
theorem dX4_mergeTail_5 : decode cX4_mergeTail 5 = .ok (.istore_n 2, 1) := by decide +kernel
theorem dX4_mergeTail_6 : decode cX4_mergeTail 6 = .ok (.iload_n 2, 1) := by decide +kernel
theorem dX4_mergeTail_7 : decode cX4_mergeTail 7 = .ok (.ifCond .eq 5, 3) := by decide +kernel
theorem dX4_mergeTail_10 : decode cX4_mergeTail 10 = .ok (.iload_n 2, 1) := by decide +kernel
theorem dX4_mergeTail_11 : decode cX4_mergeTail 11 = .ok (.ireturn, 1) := by decide +kernel
theorem dX4_mergeTail_12 : decode cX4_mergeTail 12 = .ok (.aload_n 0, 1) := by decide +kernel
theorem dX4_mergeTail_13 : decode cX4_mergeTail 13 = .ok (.iload_n 1, 1) := by decide +kernel
theorem dX4_mergeTail_14 : decode cX4_mergeTail 14 = .ok (.invokevirtual 113, 3) := by decide +kernel
theorem dX4_mergeTail_17 : decode cX4_mergeTail 17 = .ok (.ifCond .gt 7, 3) := by decide +kernel
theorem dX4_mergeTail_20 : decode cX4_mergeTail 20 = .ok (.sipush (-1006), 3) := by decide +kernel
theorem dX4_mergeTail_23 : decode cX4_mergeTail 23 = .ok (.ireturn, 1) := by decide +kernel
theorem dX4_mergeTail_24 : decode cX4_mergeTail 24 = .ok (.aload_n 0, 1) := by decide +kernel
theorem dX4_mergeTail_25 : decode cX4_mergeTail 25 = .ok (.getfield 7, 3) := by decide +kernel
theorem dX4_mergeTail_28 : decode cX4_mergeTail 28 = .ok (.iconst 0, 1) := by decide +kernel
theorem dX4_mergeTail_29 : decode cX4_mergeTail 29 = .ok (.iaload, 1) := by decide +kernel
theorem dX4_mergeTail_30 : decode cX4_mergeTail 30 = .ok (.bipush 12, 2) := by decide +kernel
theorem dX4_mergeTail_32 : decode cX4_mergeTail 32 = .ok (.if_icmp .ne 9, 3) := by decide +kernel
theorem dX4_mergeTail_35 : decode cX4_mergeTail 35 = .ok (.sipush (-1004), 3) := by decide +kernel
theorem dX4_mergeTail_38 : decode cX4_mergeTail 38 = .ok (.goto 8, 3) := by decide +kernel
theorem dX4_mergeTail_41 : decode cX4_mergeTail 41 = .ok (.aload_n 0, 1) := by decide +kernel
theorem dX4_mergeTail_42 : decode cX4_mergeTail 42 = .ok (.iload_n 1, 1) := by decide +kernel
theorem dX4_mergeTail_43 : decode cX4_mergeTail 43 = .ok (.invokevirtual 129, 3) := by decide +kernel
theorem dX4_mergeTail_46 : decode cX4_mergeTail 46 = .ok (.ireturn, 1) := by decide +kernel
set_option maxRecDepth 20000 in
theorem ggX4_parameterSaving_X4_wrongPair : GoodIn wsX4_parameterSaving wsX4_wrongPair := goodIn_r _ [6, 7, 8, 9, 5, 10, 1, 11, 12, 13, 52, 53, 54, 55, 56, 57, 58] (by decide +kernel) (by decide +kernel)
set_option maxRecDepth 20000 in
theorem gX4_parameterSaving_X4_wrongPair : GoodIn wsX4_parameterSaving (wsV RX4 79 RX4 yX4_wrongPair wsX4_wrongPair) := goodIn_app (goodIn_of _ (by decide +kernel)) ggX4_parameterSaving_X4_wrongPair
set_option maxRecDepth 20000 in
theorem ggX4_parameterSaving_X4_parameterLength : GoodIn wsX4_parameterSaving wsX4_parameterLength := goodIn_r _ [17, 1, 18, 19, 20, 21, 5, 22, 23, 24, 25, 26, 27, 28, 29, 30, 31, 32, 33, 34, 35, 36, 37, 38, 39, 40, 41, 42, 43, 44, 45, 46, 47, 52, 53, 54, 55, 56, 57, 58] (by decide +kernel) (by decide +kernel)
set_option maxRecDepth 20000 in
theorem gX4_parameterSaving_X4_parameterLength : GoodIn wsX4_parameterSaving (wsV RX4 95 RX4 yX4_parameterLength wsX4_parameterLength) := goodIn_app (goodIn_of _ (by decide +kernel)) ggX4_parameterSaving_X4_parameterLength
set_option maxRecDepth 20000 in
theorem ggX4_parameterSaving_X4_costOf : GoodIn wsX4_parameterSaving wsX4_costOf := goodIn_r _ [51, 1, 23, 24, 5, 25, 26, 27, 28, 52, 53, 54, 55, 56, 57, 58] (by decide +kernel) (by decide +kernel)
set_option maxRecDepth 20000 in
theorem gX4_parameterSaving_X4_costOf : GoodIn wsX4_parameterSaving (wsV RX4 98 RX4 yX4_costOf wsX4_costOf) := goodIn_app (goodIn_of _ (by decide +kernel)) ggX4_parameterSaving_X4_costOf
theorem dX4_parameterSaving_0 : decode cX4_parameterSaving 0 = .ok (.aload_n 0, 1) := by decide +kernel
theorem dX4_parameterSaving_1 : decode cX4_parameterSaving 1 = .ok (.iload_n 1, 1) := by decide +kernel
theorem dX4_parameterSaving_2 : decode cX4_parameterSaving 2 = .ok (.iload_n 2, 1) := by decide +kernel
theorem dX4_parameterSaving_3 : decode cX4_parameterSaving 3 = .ok (.invokevirtual 79, 3) := by decide +kernel
theorem dX4_parameterSaving_6 : decode cX4_parameterSaving 6 = .ok (.istore_n 3, 1) := by decide +kernel
theorem dX4_parameterSaving_7 : decode cX4_parameterSaving 7 = .ok (.iload_n 3, 1) := by decide +kernel
theorem dX4_parameterSaving_8 : decode cX4_parameterSaving 8 = .ok (.ifCond .eq 5, 3) := by decide +kernel
theorem dX4_parameterSaving_11 : decode cX4_parameterSaving 11 = .ok (.iload_n 3, 1) := by decide +kernel
theorem dX4_parameterSaving_12 : decode cX4_parameterSaving 12 = .ok (.ireturn, 1) := by decide +kernel
theorem dX4_parameterSaving_13 : decode cX4_parameterSaving 13 = .ok (.aload_n 0, 1) := by decide +kernel
theorem dX4_parameterSaving_14 : decode cX4_parameterSaving 14 = .ok (.iload_n 1, 1) := by decide +kernel
theorem dX4_parameterSaving_15 : decode cX4_parameterSaving 15 = .ok (.iload_n 2, 1) := by decide +kernel
theorem dX4_parameterSaving_16 : decode cX4_parameterSaving 16 = .ok (.invokevirtual 95, 3) := by decide +kernel
theorem dX4_parameterSaving_19 : decode cX4_parameterSaving 19 = .ok (.istore 4, 2) := by decide +kernel
theorem dX4_parameterSaving_21 : decode cX4_parameterSaving 21 = .ok (.iload 4, 2) := by decide +kernel
theorem dX4_parameterSaving_23 : decode cX4_parameterSaving 23 = .ok (.ifCond .ge 9, 3) := by decide +kernel
theorem dX4_parameterSaving_26 : decode cX4_parameterSaving 26 = .ok (.sipush (-1005), 3) := by decide +kernel
theorem dX4_parameterSaving_29 : decode cX4_parameterSaving 29 = .ok (.goto 22, 3) := by decide +kernel
theorem dX4_parameterSaving_32 : decode cX4_parameterSaving 32 = .ok (.iload 4, 2) := by decide +kernel
theorem dX4_parameterSaving_34 : decode cX4_parameterSaving 34 = .ok (.aload_n 0, 1) := by decide +kernel
theorem dX4_parameterSaving_35 : decode cX4_parameterSaving 35 = .ok (.iload_n 1, 1) := by decide +kernel
theorem dX4_parameterSaving_36 : decode cX4_parameterSaving 36 = .ok (.invokevirtual 98, 3) := by decide +kernel
theorem dX4_parameterSaving_39 : decode cX4_parameterSaving 39 = .ok (.iadd, 1) := by decide +kernel
theorem dX4_parameterSaving_40 : decode cX4_parameterSaving 40 = .ok (.iconst 2, 1) := by decide +kernel
theorem dX4_parameterSaving_41 : decode cX4_parameterSaving 41 = .ok (.aload_n 0, 1) := by decide +kernel
theorem dX4_parameterSaving_42 : decode cX4_parameterSaving 42 = .ok (.getfield 7, 3) := by decide +kernel
theorem dX4_parameterSaving_45 : decode cX4_parameterSaving 45 = .ok (.iconst 1, 1) := by decide +kernel
theorem dX4_parameterSaving_46 : decode cX4_parameterSaving 46 = .ok (.iaload, 1) := by decide +kernel
theorem dX4_parameterSaving_47 : decode cX4_parameterSaving 47 = .ok (.imul, 1) := by decide +kernel
theorem dX4_parameterSaving_48 : decode cX4_parameterSaving 48 = .ok (.isub, 1) := by decide +kernel
theorem dX4_parameterSaving_49 : decode cX4_parameterSaving 49 = .ok (.iconst 2, 1) := by decide +kernel
theorem dX4_parameterSaving_50 : decode cX4_parameterSaving 50 = .ok (.isub, 1) := by decide +kernel
theorem dX4_parameterSaving_51 : decode cX4_parameterSaving 51 = .ok (.ireturn, 1) := by decide +kernel
set_option maxRecDepth 20000 in
theorem ggX4_passParameter_X4_many : GoodIn wsX4_passParameter wsX4_many := goodIn_r _ [6, 1, 7, 8, 5, 9, 28, 29, 30, 31, 32, 33, 34] (by decide +kernel) (by decide +kernel)
set_option maxRecDepth 20000 in
theorem gX4_passParameter_X4_many : GoodIn wsX4_passParameter (wsV RX4 49 RX4 yX4_many wsX4_many) := goodIn_app (goodIn_of _ (by decide +kernel)) ggX4_passParameter_X4_many
set_option maxRecDepth 20000 in
theorem ggX4_passParameter_X4_at : GoodIn wsX4_passParameter wsX4_at := goodIn_r _ [12, 7, 8, 5, 9] (by decide +kernel) (by decide +kernel)
set_option maxRecDepth 20000 in
theorem gX4_passParameter_X4_at : GoodIn wsX4_passParameter (va_wsS RX4 52 yX4_at wsX4_at) := goodIn_app (goodIn_of _ (by decide +kernel)) ggX4_passParameter_X4_at
set_option maxRecDepth 20000 in
theorem ggX4_passParameter_X4_cutTail : GoodIn wsX4_passParameter wsX4_cutTail := goodIn_r _ [16, 1, 2, 3, 4, 5, 6, 7, 8, 9, 10, 11, 12, 17, 18, 19, 20, 21, 22, 23, 28, 29, 30, 31, 32, 33, 34] (by decide +kernel) (by decide +kernel)
set_option maxRecDepth 20000 in
theorem gX4_passParameter_X4_cutTail : GoodIn wsX4_passParameter (wsV RX4 126 RX4 yX4_cutTail wsX4_cutTail) := goodIn_app (goodIn_of _ (by decide +kernel)) ggX4_passParameter_X4_cutTail
set_option maxRecDepth 20000 in
theorem ggX4_passParameter_X4_append : GoodIn wsX4_passParameter wsX4_append := goodIn_r _ [27, 1, 2, 3, 4, 5, 6, 7, 8, 9, 10, 11, 12, 28, 29, 30, 31, 32, 33, 34] (by decide +kernel) (by decide +kernel)
set_option maxRecDepth 20000 in
theorem gX4_passParameter_X4_append : GoodIn wsX4_passParameter (wsV RX4 63 RX4 yX4_append wsX4_append) := goodIn_app (goodIn_of _ (by decide +kernel)) ggX4_passParameter_X4_append
theorem dX4_passParameter_0 : decode cX4_passParameter 0 = .ok (.iload_n 1, 1) := by decide +kernel
theorem dX4_passParameter_1 : decode cX4_passParameter 1 = .ok (.aload_n 0, 1) := by decide +kernel
theorem dX4_passParameter_2 : decode cX4_passParameter 2 = .ok (.iload_n 1, 1) := by decide +kernel
theorem dX4_passParameter_3 : decode cX4_passParameter 3 = .ok (.invokevirtual 49, 3) := by decide +kernel
theorem dX4_passParameter_6 : decode cX4_passParameter 6 = .ok (.iload_n 3, 1) := by decide +kernel
theorem dX4_passParameter_7 : decode cX4_passParameter 7 = .ok (.isub, 1) := by decide +kernel
theorem dX4_passParameter_8 : decode cX4_passParameter 8 = .ok (.invokestatic 52, 3) := by decide +kernel
theorem dX4_passParameter_11 : decode cX4_passParameter 11 = .ok (.istore 5, 2) := by decide +kernel
theorem dX4_passParameter_13 : decode cX4_passParameter 13 = .ok (.aload_n 0, 1) := by decide +kernel
theorem dX4_passParameter_14 : decode cX4_passParameter 14 = .ok (.getfield 7, 3) := by decide +kernel
theorem dX4_passParameter_17 : decode cX4_passParameter 17 = .ok (.iload 5, 2) := by decide +kernel
theorem dX4_passParameter_19 : decode cX4_passParameter 19 = .ok (.iconst 2, 1) := by decide +kernel
theorem dX4_passParameter_20 : decode cX4_passParameter 20 = .ok (.iadd, 1) := by decide +kernel
theorem dX4_passParameter_21 : decode cX4_passParameter 21 = .ok (.iaload, 1) := by decide +kernel
theorem dX4_passParameter_22 : decode cX4_passParameter 22 = .ok (.istore 6, 2) := by decide +kernel
theorem dX4_passParameter_24 : decode cX4_passParameter 24 = .ok (.aload_n 0, 1) := by decide +kernel
theorem dX4_passParameter_25 : decode cX4_passParameter 25 = .ok (.getfield 7, 3) := by decide +kernel
theorem dX4_passParameter_28 : decode cX4_passParameter 28 = .ok (.iload 5, 2) := by decide +kernel
theorem dX4_passParameter_30 : decode cX4_passParameter 30 = .ok (.iconst 4, 1) := by decide +kernel
theorem dX4_passParameter_31 : decode cX4_passParameter 31 = .ok (.iadd, 1) := by decide +kernel
theorem dX4_passParameter_32 : decode cX4_passParameter 32 = .ok (.iaload, 1) := by decide +kernel
theorem dX4_passParameter_33 : decode cX4_passParameter 33 = .ok (.istore 7, 2) := by decide +kernel
theorem dX4_passParameter_35 : decode cX4_passParameter 35 = .ok (.aload_n 0, 1) := by decide +kernel
theorem dX4_passParameter_36 : decode cX4_passParameter 36 = .ok (.iload_n 1, 1) := by decide +kernel
theorem dX4_passParameter_37 : decode cX4_passParameter 37 = .ok (.iload_n 2, 1) := by decide +kernel
theorem dX4_passParameter_38 : decode cX4_passParameter 38 = .ok (.iload 4, 2) := by decide +kernel
theorem dX4_passParameter_40 : decode cX4_passParameter 40 = .ok (.invokevirtual 126, 3) := by decide +kernel
theorem dX4_passParameter_43 : decode cX4_passParameter 43 = .ok (.aload_n 0, 1) := by decide +kernel
theorem dX4_passParameter_44 : decode cX4_passParameter 44 = .ok (.iload_n 1, 1) := by decide +kernel
theorem dX4_passParameter_45 : decode cX4_passParameter 45 = .ok (.iconst 0, 1) := by decide +kernel
theorem dX4_passParameter_46 : decode cX4_passParameter 46 = .ok (.bipush 7, 2) := by decide +kernel
theorem dX4_passParameter_48 : decode cX4_passParameter 48 = .ok (.iload 6, 2) := by decide +kernel
theorem dX4_passParameter_50 : decode cX4_passParameter 50 = .ok (.iconst 0, 1) := by decide +kernel
theorem dX4_passParameter_51 : decode cX4_passParameter 51 = .ok (.iload 7, 2) := by decide +kernel
theorem dX4_passParameter_53 : decode cX4_passParameter 53 = .ok (.invokevirtual 63, 3) := by decide +kernel
theorem dX4_passParameter_56 : decode cX4_passParameter 56 = .ok (.return_, 1) := by decide +kernel
set_option maxRecDepth 20000 in
theorem ggX4_mergeWithParameter_X4_wrongPair : GoodIn wsX4_mergeWithParameter wsX4_wrongPair := goodIn_r _ [7, 8, 9, 10, 6, 11, 1, 12, 13, 14, 76, 77, 78, 79, 80, 81, 82] (by decide +kernel) (by decide +kernel)
set_option maxRecDepth 20000 in
theorem gX4_mergeWithParameter_X4_wrongPair : GoodIn wsX4_mergeWithParameter (wsV RX4 79 RX4 yX4_wrongPair wsX4_wrongPair) := goodIn_app (goodIn_of _ (by decide +kernel)) ggX4_mergeWithParameter_X4_wrongPair
set_option maxRecDepth 20000 in
theorem ggX4_mergeWithParameter_X4_parameterLength : GoodIn wsX4_mergeWithParameter wsX4_parameterLength := goodIn_r _ [18, 1, 2, 19, 20, 21, 6, 22, 23, 24, 25, 26, 27, 28, 29, 30, 31, 32, 33, 34, 35, 36, 37, 38, 39, 40, 41, 42, 43, 44, 45, 46, 47, 76, 77, 78, 79, 80, 81, 82] (by decide +kernel) (by decide +kernel)
set_option maxRecDepth 20000 in
theorem gX4_mergeWithParameter_X4_parameterLength : GoodIn wsX4_mergeWithParameter (wsV RX4 95 RX4 yX4_parameterLength wsX4_parameterLength) := goodIn_app (goodIn_of _ (by decide +kernel)) ggX4_mergeWithParameter_X4_parameterLength
set_option maxRecDepth 20000 in
theorem ggX4_mergeWithParameter_X4_newBlock : GoodIn wsX4_mergeWithParameter wsX4_newBlock := goodIn_r _ [51, 1, 26, 27, 6, 28, 52, 53, 54, 55, 23, 24, 25, 76, 77, 78, 79, 80, 81, 82] (by decide +kernel) (by decide +kernel)
set_option maxRecDepth 20000 in
theorem gX4_mergeWithParameter_X4_newBlock : GoodIn wsX4_mergeWithParameter (wsV RX4 41 RX4 yX4_newBlock wsX4_newBlock) := goodIn_app (goodIn_of _ (by decide +kernel)) ggX4_mergeWithParameter_X4_newBlock
set_option maxRecDepth 20000 in
theorem ggX4_mergeWithParameter_X4_copyTail : GoodIn wsX4_mergeWithParameter wsX4_copyTail := goodIn_r _ [59, 1, 29, 30, 31, 6, 32, 26, 27, 28, 37, 38, 39, 60, 61, 62, 63, 23, 24, 25, 52, 53, 54, 55, 76, 77, 78, 79, 80, 81, 82] (by decide +kernel) (by decide +kernel)
set_option maxRecDepth 20000 in
theorem gX4_mergeWithParameter_X4_copyTail : GoodIn wsX4_mergeWithParameter (wsV RX4 119 RX4 yX4_copyTail wsX4_copyTail) := goodIn_app (goodIn_of _ (by decide +kernel)) ggX4_mergeWithParameter_X4_copyTail
set_option maxRecDepth 20000 in
theorem ggX4_mergeWithParameter_X4_uniteLines : GoodIn wsX4_mergeWithParameter wsX4_uniteLines := goodIn_r _ [67, 1, 37, 38, 6, 39, 26, 27, 28, 29, 30, 31, 32, 76, 77, 78, 79, 80, 81, 82] (by decide +kernel) (by decide +kernel)
set_option maxRecDepth 20000 in
theorem gX4_mergeWithParameter_X4_uniteLines : GoodIn wsX4_mergeWithParameter (wsV RX4 123 RX4 yX4_uniteLines wsX4_uniteLines) := goodIn_app (goodIn_of _ (by decide +kernel)) ggX4_mergeWithParameter_X4_uniteLines
set_option maxRecDepth 20000 in
theorem ggX4_mergeWithParameter_X4_at : GoodIn wsX4_mergeWithParameter wsX4_at := goodIn_r _ [39, 26, 27, 6, 28] (by decide +kernel) (by decide +kernel)
set_option maxRecDepth 20000 in
theorem gX4_mergeWithParameter_X4_at : GoodIn wsX4_mergeWithParameter (va_wsS RX4 52 yX4_at wsX4_at) := goodIn_app (goodIn_of _ (by decide +kernel)) ggX4_mergeWithParameter_X4_at
set_option maxRecDepth 20000 in
theorem ggX4_mergeWithParameter_X4_passParameter : GoodIn wsX4_mergeWithParameter wsX4_passParameter := goodIn_r _ [71, 1, 29, 30, 31, 6, 32, 26, 27, 28, 37, 38, 39, 72, 73, 74, 75, 23, 24, 25, 52, 53, 54, 55, 60, 61, 62, 63, 76, 77, 78, 79, 80, 81, 82] (by decide +kernel) (by decide +kernel)
set_option maxRecDepth 20000 in
theorem gX4_mergeWithParameter_X4_passParameter : GoodIn wsX4_mergeWithParameter (wsV RX4 132 RX4 yX4_passParameter wsX4_passParameter) := goodIn_app (goodIn_of _ (by decide +kernel)) ggX4_mergeWithParameter_X4_passParameter
theorem dX4_mergeWithParameter_0 : decode cX4_mergeWithParameter 0 = .ok (.aload_n 0, 1) := by decide +kernel
theorem dX4_mergeWithParameter_1 : decode cX4_mergeWithParameter 1 = .ok (.iload_n 1, 1) := by decide +kernel
theorem dX4_mergeWithParameter_2 : decode cX4_mergeWithParameter 2 = .ok (.iload_n 2, 1) := by decide +kernel
theorem dX4_mergeWithParameter_3 : decode cX4_mergeWithParameter 3 = .ok (.invokevirtual 79, 3) := by decide +kernel
theorem dX4_mergeWithParameter_6 : decode cX4_mergeWithParameter 6 = .ok (.istore_n 3, 1) := by decide +kernel
theorem dX4_mergeWithParameter_7 : decode cX4_mergeWithParameter 7 = .ok (.iload_n 3, 1) := by decide +kernel
theorem dX4_mergeWithParameter_8 : decode cX4_mergeWithParameter 8 = .ok (.ifCond .eq 5, 3) := by decide +kernel
theorem dX4_mergeWithParameter_11 : decode cX4_mergeWithParameter 11 = .ok (.iload_n 3, 1) := by decide +kernel
theorem dX4_mergeWithParameter_12 : decode cX4_mergeWithParameter 12 = .ok (.ireturn, 1) := by decide +kernel
theorem dX4_mergeWithParameter_13 : decode cX4_mergeWithParameter 13 = .ok (.aload_n 0, 1) := by decide +kernel
theorem dX4_mergeWithParameter_14 : decode cX4_mergeWithParameter 14 = .ok (.iload_n 1, 1) := by decide +kernel
theorem dX4_mergeWithParameter_15 : decode cX4_mergeWithParameter 15 = .ok (.iload_n 2, 1) := by decide +kernel
theorem dX4_mergeWithParameter_16 : decode cX4_mergeWithParameter 16 = .ok (.invokevirtual 95, 3) := by decide +kernel
theorem dX4_mergeWithParameter_19 : decode cX4_mergeWithParameter 19 = .ok (.istore 4, 2) := by decide +kernel
theorem dX4_mergeWithParameter_21 : decode cX4_mergeWithParameter 21 = .ok (.iload 4, 2) := by decide +kernel
theorem dX4_mergeWithParameter_23 : decode cX4_mergeWithParameter 23 = .ok (.ifCond .ge 7, 3) := by decide +kernel
theorem dX4_mergeWithParameter_26 : decode cX4_mergeWithParameter 26 = .ok (.sipush (-1005), 3) := by decide +kernel
theorem dX4_mergeWithParameter_29 : decode cX4_mergeWithParameter 29 = .ok (.ireturn, 1) := by decide +kernel
theorem dX4_mergeWithParameter_30 : decode cX4_mergeWithParameter 30 = .ok (.aload_n 0, 1) := by decide +kernel
theorem dX4_mergeWithParameter_31 : decode cX4_mergeWithParameter 31 = .ok (.getfield 7, 3) := by decide +kernel
theorem dX4_mergeWithParameter_34 : decode cX4_mergeWithParameter 34 = .ok (.iconst 0, 1) := by decide +kernel
theorem dX4_mergeWithParameter_35 : decode cX4_mergeWithParameter 35 = .ok (.iaload, 1) := by decide +kernel
theorem dX4_mergeWithParameter_36 : decode cX4_mergeWithParameter 36 = .ok (.bipush 12, 2) := by decide +kernel
theorem dX4_mergeWithParameter_38 : decode cX4_mergeWithParameter 38 = .ok (.if_icmp .ne 7, 3) := by decide +kernel
theorem dX4_mergeWithParameter_41 : decode cX4_mergeWithParameter 41 = .ok (.sipush (-1004), 3) := by decide +kernel
theorem dX4_mergeWithParameter_44 : decode cX4_mergeWithParameter 44 = .ok (.ireturn, 1) := by decide +kernel
theorem dX4_mergeWithParameter_45 : decode cX4_mergeWithParameter 45 = .ok (.aload_n 0, 1) := by decide +kernel
theorem dX4_mergeWithParameter_46 : decode cX4_mergeWithParameter 46 = .ok (.getfield 88, 3) := by decide +kernel
theorem dX4_mergeWithParameter_49 : decode cX4_mergeWithParameter 49 = .ok (.istore 5, 2) := by decide +kernel
theorem dX4_mergeWithParameter_51 : decode cX4_mergeWithParameter 51 = .ok (.aload_n 0, 1) := by decide +kernel
theorem dX4_mergeWithParameter_52 : decode cX4_mergeWithParameter 52 = .ok (.invokevirtual 41, 3) := by decide +kernel
theorem dX4_mergeWithParameter_55 : decode cX4_mergeWithParameter 55 = .ok (.istore 6, 2) := by decide +kernel
theorem dX4_mergeWithParameter_57 : decode cX4_mergeWithParameter 57 = .ok (.aload_n 0, 1) := by decide +kernel
theorem dX4_mergeWithParameter_58 : decode cX4_mergeWithParameter 58 = .ok (.iload_n 1, 1) := by decide +kernel
theorem dX4_mergeWithParameter_59 : decode cX4_mergeWithParameter 59 = .ok (.iload 6, 2) := by decide +kernel
theorem dX4_mergeWithParameter_61 : decode cX4_mergeWithParameter 61 = .ok (.iload 4, 2) := by decide +kernel
theorem dX4_mergeWithParameter_63 : decode cX4_mergeWithParameter 63 = .ok (.invokevirtual 119, 3) := by decide +kernel
theorem dX4_mergeWithParameter_66 : decode cX4_mergeWithParameter 66 = .ok (.aload_n 0, 1) := by decide +kernel
theorem dX4_mergeWithParameter_67 : decode cX4_mergeWithParameter 67 = .ok (.iload_n 2, 1) := by decide +kernel
theorem dX4_mergeWithParameter_68 : decode cX4_mergeWithParameter 68 = .ok (.iload 6, 2) := by decide +kernel
theorem dX4_mergeWithParameter_70 : decode cX4_mergeWithParameter 70 = .ok (.iload 4, 2) := by decide +kernel
theorem dX4_mergeWithParameter_72 : decode cX4_mergeWithParameter 72 = .ok (.invokevirtual 123, 3) := by decide +kernel
theorem dX4_mergeWithParameter_75 : decode cX4_mergeWithParameter 75 = .ok (.iload 6, 2) := by decide +kernel
theorem dX4_mergeWithParameter_77 : decode cX4_mergeWithParameter 77 = .ok (.iload 4, 2) := by decide +kernel
theorem dX4_mergeWithParameter_79 : decode cX4_mergeWithParameter 79 = .ok (.iload 5, 2) := by decide +kernel
theorem dX4_mergeWithParameter_81 : decode cX4_mergeWithParameter 81 = .ok (.isub, 1) := by decide +kernel
theorem dX4_mergeWithParameter_82 : decode cX4_mergeWithParameter 82 = .ok (.invokestatic 52, 3) := by decide +kernel
theorem dX4_mergeWithParameter_85 : decode cX4_mergeWithParameter 85 = .ok (.istore 7, 2) := by decide +kernel
theorem dX4_mergeWithParameter_87 : decode cX4_mergeWithParameter 87 = .ok (.aload_n 0, 1) := by decide +kernel
theorem dX4_mergeWithParameter_88 : decode cX4_mergeWithParameter 88 = .ok (.getfield 7, 3) := by decide +kernel
theorem dX4_mergeWithParameter_91 : decode cX4_mergeWithParameter 91 = .ok (.iload 7, 2) := by decide +kernel
theorem dX4_mergeWithParameter_93 : decode cX4_mergeWithParameter 93 = .ok (.iconst 1, 1) := by decide +kernel
theorem dX4_mergeWithParameter_94 : decode cX4_mergeWithParameter 94 = .ok (.iastore, 1) := by decide +kernel
theorem dX4_mergeWithParameter_95 : decode cX4_mergeWithParameter 95 = .ok (.aload_n 0, 1) := by decide +kernel
theorem dX4_mergeWithParameter_96 : decode cX4_mergeWithParameter 96 = .ok (.getfield 7, 3) := by decide +kernel
theorem dX4_mergeWithParameter_99 : decode cX4_mergeWithParameter 99 = .ok (.iload 7, 2) := by decide +kernel
theorem dX4_mergeWithParameter_101 : decode cX4_mergeWithParameter 101 = .ok (.iconst 2, 1) := by decide +kernel
theorem dX4_mergeWithParameter_102 : decode cX4_mergeWithParameter 102 = .ok (.iadd, 1) := by decide +kernel
theorem dX4_mergeWithParameter_103 : decode cX4_mergeWithParameter 103 = .ok (.bipush 7, 2) := by decide +kernel
theorem dX4_mergeWithParameter_105 : decode cX4_mergeWithParameter 105 = .ok (.iastore, 1) := by decide +kernel
theorem dX4_mergeWithParameter_106 : decode cX4_mergeWithParameter 106 = .ok (.aload_n 0, 1) := by decide +kernel
theorem dX4_mergeWithParameter_107 : decode cX4_mergeWithParameter 107 = .ok (.getfield 7, 3) := by decide +kernel
theorem dX4_mergeWithParameter_110 : decode cX4_mergeWithParameter 110 = .ok (.iload 7, 2) := by decide +kernel
theorem dX4_mergeWithParameter_112 : decode cX4_mergeWithParameter 112 = .ok (.iconst 3, 1) := by decide +kernel
theorem dX4_mergeWithParameter_113 : decode cX4_mergeWithParameter 113 = .ok (.iadd, 1) := by decide +kernel
theorem dX4_mergeWithParameter_114 : decode cX4_mergeWithParameter 114 = .ok (.iconst 0, 1) := by decide +kernel
theorem dX4_mergeWithParameter_115 : decode cX4_mergeWithParameter 115 = .ok (.iastore, 1) := by decide +kernel
theorem dX4_mergeWithParameter_116 : decode cX4_mergeWithParameter 116 = .ok (.aload_n 0, 1) := by decide +kernel
theorem dX4_mergeWithParameter_117 : decode cX4_mergeWithParameter 117 = .ok (.iload_n 1, 1) := by decide +kernel
theorem dX4_mergeWithParameter_118 : decode cX4_mergeWithParameter 118 = .ok (.iload 4, 2) := by decide +kernel
theorem dX4_mergeWithParameter_120 : decode cX4_mergeWithParameter 120 = .ok (.iload 5, 2) := by decide +kernel
theorem dX4_mergeWithParameter_122 : decode cX4_mergeWithParameter 122 = .ok (.iload 6, 2) := by decide +kernel
theorem dX4_mergeWithParameter_124 : decode cX4_mergeWithParameter 124 = .ok (.invokevirtual 132, 3) := by decide +kernel
theorem dX4_mergeWithParameter_127 : decode cX4_mergeWithParameter 127 = .ok (.aload_n 0, 1) := by decide +kernel
theorem dX4_mergeWithParameter_128 : decode cX4_mergeWithParameter 128 = .ok (.iload_n 2, 1) := by decide +kernel
theorem dX4_mergeWithParameter_129 : decode cX4_mergeWithParameter 129 = .ok (.iload 4, 2) := by decide +kernel
theorem dX4_mergeWithParameter_131 : decode cX4_mergeWithParameter 131 = .ok (.iload 5, 2) := by decide +kernel
theorem dX4_mergeWithParameter_133 : decode cX4_mergeWithParameter 133 = .ok (.iload 6, 2) := by decide +kernel
theorem dX4_mergeWithParameter_135 : decode cX4_mergeWithParameter 135 = .ok (.invokevirtual 132, 3) := by decide +kernel
theorem dX4_mergeWithParameter_138 : decode cX4_mergeWithParameter 138 = .ok (.iload 6, 2) := by decide +kernel
theorem dX4_mergeWithParameter_140 : decode cX4_mergeWithParameter 140 = .ok (.ireturn, 1) := by decide +kernel
set_option maxRecDepth 20000 in
theorem ggX4_mergeAll_X4_findBest : GoodIn wsX4_mergeAll wsX4_findBest := goodIn_r _ [6, 1, 7, 8, 5, 9, 10, 11, 12, 13, 14, 15, 16, 17, 18, 19, 20, 21, 22, 23, 24, 25, 26, 27, 28, 29, 30, 31, 32, 33, 34, 35, 36, 37, 38, 39, 40, 41, 42, 43, 44, 45, 46, 47, 48, 49, 78, 79, 80, 81, 82, 83, 84] (by decide +kernel) (by decide +kernel)
set_option maxRecDepth 20000 in
theorem gX4_mergeAll_X4_findBest : GoodIn wsX4_mergeAll (wsV RX4 116 RX4 yX4_findBest wsX4_findBest) := goodIn_app (goodIn_of _ (by decide +kernel)) ggX4_mergeAll_X4_findBest
set_option maxRecDepth 20000 in
theorem ggX4_mergeAll_X4_mergeSet : GoodIn wsX4_mergeAll wsX4_mergeSet := goodIn_r _ [53, 1, 10, 11, 12, 5, 13, 14, 15, 16, 17, 18, 19, 20, 21, 22, 23, 24, 25, 26, 27, 28, 29, 30, 31, 32, 33, 34, 35, 36, 37, 38, 39, 40, 41, 54, 55, 56, 57, 58, 59, 60, 61, 62, 63, 64, 65, 66, 67, 68, 69, 70, 71, 72, 73, 74, 75, 76, 77, 78, 79, 80, 81, 82, 83, 84] (by decide +kernel) (by decide +kernel)
set_option maxRecDepth 20000 in
theorem gX4_mergeAll_X4_mergeSet : GoodIn wsX4_mergeAll (wsV RX4 129 RX4 yX4_mergeSet wsX4_mergeSet) := goodIn_app (goodIn_of _ (by decide +kernel)) ggX4_mergeAll_X4_mergeSet
theorem dX4_mergeAll_0 : decode cX4_mergeAll 0 = .ok (.iconst 0, 1) := by decide +kernel
theorem dX4_mergeAll_1 : decode cX4_mergeAll 1 = .ok (.istore_n 1, 1) := by decide +kernel
theorem dX4_mergeAll_2 : decode cX4_mergeAll 2 = .ok (.aload_n 0, 1) := by decide +kernel
theorem dX4_mergeAll_3 : decode cX4_mergeAll 3 = .ok (.invokevirtual 116, 3) := by decide +kernel
theorem dX4_mergeAll_6 : decode cX4_mergeAll 6 = .ok (.istore_n 2, 1) := by decide +kernel
theorem dX4_mergeAll_7 : decode cX4_mergeAll 7 = .ok (.iload_n 2, 1) := by decide +kernel
theorem dX4_mergeAll_8 : decode cX4_mergeAll 8 = .ok (.ifCond .lt 31, 3) := by decide +kernel
theorem dX4_mergeAll_11 : decode cX4_mergeAll 11 = .ok (.aload_n 0, 1) := by decide +kernel
theorem dX4_mergeAll_12 : decode cX4_mergeAll 12 = .ok (.getfield 7, 3) := by decide +kernel
theorem dX4_mergeAll_15 : decode cX4_mergeAll 15 = .ok (.iconst 0, 1) := by decide +kernel
theorem dX4_mergeAll_16 : decode cX4_mergeAll 16 = .ok (.iaload, 1) := by decide +kernel
theorem dX4_mergeAll_17 : decode cX4_mergeAll 17 = .ok (.bipush 12, 2) := by decide +kernel
theorem dX4_mergeAll_19 : decode cX4_mergeAll 19 = .ok (.if_icmp .ge 20, 3) := by decide +kernel
theorem dX4_mergeAll_22 : decode cX4_mergeAll 22 = .ok (.aload_n 0, 1) := by decide +kernel
theorem dX4_mergeAll_23 : decode cX4_mergeAll 23 = .ok (.iload_n 2, 1) := by decide +kernel
theorem dX4_mergeAll_24 : decode cX4_mergeAll 24 = .ok (.invokevirtual 129, 3) := by decide +kernel
theorem dX4_mergeAll_27 : decode cX4_mergeAll 27 = .ok (.pop, 1) := by decide +kernel
theorem dX4_mergeAll_28 : decode cX4_mergeAll 28 = .ok (.iinc 1 1, 3) := by decide +kernel
theorem dX4_mergeAll_31 : decode cX4_mergeAll 31 = .ok (.aload_n 0, 1) := by decide +kernel
theorem dX4_mergeAll_32 : decode cX4_mergeAll 32 = .ok (.invokevirtual 116, 3) := by decide +kernel
theorem dX4_mergeAll_35 : decode cX4_mergeAll 35 = .ok (.istore_n 2, 1) := by decide +kernel
theorem dX4_mergeAll_36 : decode cX4_mergeAll 36 = .ok (.goto (-29), 3) := by decide +kernel
theorem dX4_mergeAll_39 : decode cX4_mergeAll 39 = .ok (.iload_n 1, 1) := by decide +kernel
theorem dX4_mergeAll_40 : decode cX4_mergeAll 40 = .ok (.ireturn, 1) := by decide +kernel
set_option maxRecDepth 20000 in
theorem ggX4_setRegister_X4_isRegister : GoodIn wsX4_setRegister wsX4_isRegister := goodIn_r _ [5, 6, 7, 4, 8] (by decide +kernel) (by decide +kernel)
set_option maxRecDepth 20000 in
theorem gX4_setRegister_X4_isRegister : GoodIn wsX4_setRegister (va_wsS RX4 45 yX4_isRegister wsX4_isRegister) := goodIn_app (goodIn_of _ (by decide +kernel)) ggX4_setRegister_X4_isRegister
theorem dX4_setRegister_0 : decode cX4_setRegister 0 = .ok (.iload_n 1, 1) := by decide +kernel
theorem dX4_setRegister_1 : decode cX4_setRegister 1 = .ok (.invokestatic 45, 3) := by decide +kernel
theorem dX4_setRegister_4 : decode cX4_setRegister 4 = .ok (.ifCond .ne 7, 3) := by decide +kernel
theorem dX4_setRegister_7 : decode cX4_setRegister 7 = .ok (.sipush (-1003), 3) := by decide +kernel
theorem dX4_setRegister_10 : decode cX4_setRegister 10 = .ok (.ireturn, 1) := by decide +kernel
theorem dX4_setRegister_11 : decode cX4_setRegister 11 = .ok (.aload_n 0, 1) := by decide +kernel
theorem dX4_setRegister_12 : decode cX4_setRegister 12 = .ok (.getfield 7, 3) := by decide +kernel
theorem dX4_setRegister_15 : decode cX4_setRegister 15 = .ok (.iconst 2, 1) := by decide +kernel
theorem dX4_setRegister_16 : decode cX4_setRegister 16 = .ok (.iload_n 1, 1) := by decide +kernel
theorem dX4_setRegister_17 : decode cX4_setRegister 17 = .ok (.iadd, 1) := by decide +kernel
theorem dX4_setRegister_18 : decode cX4_setRegister 18 = .ok (.iload_n 2, 1) := by decide +kernel
theorem dX4_setRegister_19 : decode cX4_setRegister 19 = .ok (.iastore, 1) := by decide +kernel
theorem dX4_setRegister_20 : decode cX4_setRegister 20 = .ok (.iconst 1, 1) := by decide +kernel
theorem dX4_setRegister_21 : decode cX4_setRegister 21 = .ok (.ireturn, 1) := by decide +kernel
theorem dX4_execute_0 : decode cX4_execute 0 = .ok (.aload_n 0, 1) := by decide +kernel
theorem dX4_execute_1 : decode cX4_execute 1 = .ok (.getfield 7, 3) := by decide +kernel
theorem dX4_execute_4 : decode cX4_execute 4 = .ok (.iload_n 1, 1) := by decide +kernel
theorem dX4_execute_5 : decode cX4_execute 5 = .ok (.iconst 1, 1) := by decide +kernel
theorem dX4_execute_6 : decode cX4_execute 6 = .ok (.iadd, 1) := by decide +kernel
theorem dX4_execute_7 : decode cX4_execute 7 = .ok (.iaload, 1) := by decide +kernel
theorem dX4_execute_8 : decode cX4_execute 8 = .ok (.istore_n 2, 1) := by decide +kernel
theorem dX4_execute_9 : decode cX4_execute 9 = .ok (.aload_n 0, 1) := by decide +kernel
theorem dX4_execute_10 : decode cX4_execute 10 = .ok (.getfield 7, 3) := by decide +kernel
theorem dX4_execute_13 : decode cX4_execute 13 = .ok (.iload_n 1, 1) := by decide +kernel
theorem dX4_execute_14 : decode cX4_execute 14 = .ok (.iconst 2, 1) := by decide +kernel
theorem dX4_execute_15 : decode cX4_execute 15 = .ok (.iadd, 1) := by decide +kernel
theorem dX4_execute_16 : decode cX4_execute 16 = .ok (.iaload, 1) := by decide +kernel
theorem dX4_execute_17 : decode cX4_execute 17 = .ok (.istore_n 3, 1) := by decide +kernel
theorem dX4_execute_18 : decode cX4_execute 18 = .ok (.aload_n 0, 1) := by decide +kernel
theorem dX4_execute_19 : decode cX4_execute 19 = .ok (.getfield 7, 3) := by decide +kernel
theorem dX4_execute_22 : decode cX4_execute 22 = .ok (.iload_n 1, 1) := by decide +kernel
theorem dX4_execute_23 : decode cX4_execute 23 = .ok (.iconst 3, 1) := by decide +kernel
theorem dX4_execute_24 : decode cX4_execute 24 = .ok (.iadd, 1) := by decide +kernel
theorem dX4_execute_25 : decode cX4_execute 25 = .ok (.iaload, 1) := by decide +kernel
theorem dX4_execute_26 : decode cX4_execute 26 = .ok (.istore 4, 2) := by decide +kernel
theorem dX4_execute_28 : decode cX4_execute 28 = .ok (.aload_n 0, 1) := by decide +kernel
theorem dX4_execute_29 : decode cX4_execute 29 = .ok (.getfield 7, 3) := by decide +kernel
theorem dX4_execute_32 : decode cX4_execute 32 = .ok (.iload_n 1, 1) := by decide +kernel
theorem dX4_execute_33 : decode cX4_execute 33 = .ok (.iaload, 1) := by decide +kernel
theorem dX4_execute_34 : decode cX4_execute 34 = .ok (.tableswitch 162 0 5 #[38, 48, 63, 86, 109, 132], 38) := by decide +kernel
theorem dX4_execute_72 : decode cX4_execute 72 = .ok (.aload_n 0, 1) := by decide +kernel
theorem dX4_execute_73 : decode cX4_execute 73 = .ok (.getfield 20, 3) := by decide +kernel
theorem dX4_execute_76 : decode cX4_execute 76 = .ok (.iload_n 2, 1) := by decide +kernel
theorem dX4_execute_77 : decode cX4_execute 77 = .ok (.iload_n 3, 1) := by decide +kernel
theorem dX4_execute_78 : decode cX4_execute 78 = .ok (.iastore, 1) := by decide +kernel
theorem dX4_execute_79 : decode cX4_execute 79 = .ok (.goto 142, 3) := by decide +kernel
theorem dX4_execute_82 : decode cX4_execute 82 = .ok (.aload_n 0, 1) := by decide +kernel
theorem dX4_execute_83 : decode cX4_execute 83 = .ok (.getfield 20, 3) := by decide +kernel
theorem dX4_execute_86 : decode cX4_execute 86 = .ok (.iload_n 2, 1) := by decide +kernel
theorem dX4_execute_87 : decode cX4_execute 87 = .ok (.aload_n 0, 1) := by decide +kernel
theorem dX4_execute_88 : decode cX4_execute 88 = .ok (.getfield 20, 3) := by decide +kernel
theorem dX4_execute_91 : decode cX4_execute 91 = .ok (.iload_n 3, 1) := by decide +kernel
theorem dX4_execute_92 : decode cX4_execute 92 = .ok (.iaload, 1) := by decide +kernel
theorem dX4_execute_93 : decode cX4_execute 93 = .ok (.iastore, 1) := by decide +kernel
theorem dX4_execute_94 : decode cX4_execute 94 = .ok (.goto 127, 3) := by decide +kernel
theorem dX4_execute_97 : decode cX4_execute 97 = .ok (.aload_n 0, 1) := by decide +kernel
theorem dX4_execute_98 : decode cX4_execute 98 = .ok (.getfield 20, 3) := by decide +kernel
theorem dX4_execute_101 : decode cX4_execute 101 = .ok (.iload_n 2, 1) := by decide +kernel
theorem dX4_execute_102 : decode cX4_execute 102 = .ok (.aload_n 0, 1) := by decide +kernel
theorem dX4_execute_103 : decode cX4_execute 103 = .ok (.getfield 20, 3) := by decide +kernel
theorem dX4_execute_106 : decode cX4_execute 106 = .ok (.iload_n 3, 1) := by decide +kernel
theorem dX4_execute_107 : decode cX4_execute 107 = .ok (.iaload, 1) := by decide +kernel
theorem dX4_execute_108 : decode cX4_execute 108 = .ok (.aload_n 0, 1) := by decide +kernel
theorem dX4_execute_109 : decode cX4_execute 109 = .ok (.getfield 20, 3) := by decide +kernel
theorem dX4_execute_112 : decode cX4_execute 112 = .ok (.iload 4, 2) := by decide +kernel
theorem dX4_execute_114 : decode cX4_execute 114 = .ok (.iaload, 1) := by decide +kernel
theorem dX4_execute_115 : decode cX4_execute 115 = .ok (.iadd, 1) := by decide +kernel
theorem dX4_execute_116 : decode cX4_execute 116 = .ok (.iastore, 1) := by decide +kernel
theorem dX4_execute_117 : decode cX4_execute 117 = .ok (.goto 104, 3) := by decide +kernel
theorem dX4_execute_120 : decode cX4_execute 120 = .ok (.aload_n 0, 1) := by decide +kernel
theorem dX4_execute_121 : decode cX4_execute 121 = .ok (.getfield 20, 3) := by decide +kernel
theorem dX4_execute_124 : decode cX4_execute 124 = .ok (.iload_n 2, 1) := by decide +kernel
theorem dX4_execute_125 : decode cX4_execute 125 = .ok (.aload_n 0, 1) := by decide +kernel
theorem dX4_execute_126 : decode cX4_execute 126 = .ok (.getfield 20, 3) := by decide +kernel
theorem dX4_execute_129 : decode cX4_execute 129 = .ok (.iload_n 3, 1) := by decide +kernel
theorem dX4_execute_130 : decode cX4_execute 130 = .ok (.iaload, 1) := by decide +kernel
theorem dX4_execute_131 : decode cX4_execute 131 = .ok (.aload_n 0, 1) := by decide +kernel
theorem dX4_execute_132 : decode cX4_execute 132 = .ok (.getfield 20, 3) := by decide +kernel
theorem dX4_execute_135 : decode cX4_execute 135 = .ok (.iload 4, 2) := by decide +kernel
theorem dX4_execute_137 : decode cX4_execute 137 = .ok (.iaload, 1) := by decide +kernel
theorem dX4_execute_138 : decode cX4_execute 138 = .ok (.isub, 1) := by decide +kernel
theorem dX4_execute_139 : decode cX4_execute 139 = .ok (.iastore, 1) := by decide +kernel
theorem dX4_execute_140 : decode cX4_execute 140 = .ok (.goto 81, 3) := by decide +kernel
theorem dX4_execute_143 : decode cX4_execute 143 = .ok (.aload_n 0, 1) := by decide +kernel
theorem dX4_execute_144 : decode cX4_execute 144 = .ok (.getfield 20, 3) := by decide +kernel
theorem dX4_execute_147 : decode cX4_execute 147 = .ok (.iload_n 2, 1) := by decide +kernel
theorem dX4_execute_148 : decode cX4_execute 148 = .ok (.aload_n 0, 1) := by decide +kernel
theorem dX4_execute_149 : decode cX4_execute 149 = .ok (.getfield 20, 3) := by decide +kernel
theorem dX4_execute_152 : decode cX4_execute 152 = .ok (.iload_n 3, 1) := by decide +kernel
theorem dX4_execute_153 : decode cX4_execute 153 = .ok (.iaload, 1) := by decide +kernel
theorem dX4_execute_154 : decode cX4_execute 154 = .ok (.aload_n 0, 1) := by decide +kernel
theorem dX4_execute_155 : decode cX4_execute 155 = .ok (.getfield 20, 3) := by decide +kernel
theorem dX4_execute_158 : decode cX4_execute 158 = .ok (.iload 4, 2) := by decide +kernel
theorem dX4_execute_160 : decode cX4_execute 160 = .ok (.iaload, 1) := by decide +kernel
theorem dX4_execute_161 : decode cX4_execute 161 = .ok (.imul, 1) := by decide +kernel
theorem dX4_execute_162 : decode cX4_execute 162 = .ok (.iastore, 1) := by decide +kernel
theorem dX4_execute_163 : decode cX4_execute 163 = .ok (.goto 58, 3) := by decide +kernel
theorem dX4_execute_166 : decode cX4_execute 166 = .ok (.aload_n 0, 1) := by decide +kernel
theorem dX4_execute_167 : decode cX4_execute 167 = .ok (.getfield 20, 3) := by decide +kernel
theorem dX4_execute_170 : decode cX4_execute 170 = .ok (.iload_n 2, 1) := by decide +kernel
theorem dX4_execute_171 : decode cX4_execute 171 = .ok (.aload_n 0, 1) := by decide +kernel
theorem dX4_execute_172 : decode cX4_execute 172 = .ok (.getfield 20, 3) := by decide +kernel
theorem dX4_execute_175 : decode cX4_execute 175 = .ok (.iload_n 3, 1) := by decide +kernel
theorem dX4_execute_176 : decode cX4_execute 176 = .ok (.iaload, 1) := by decide +kernel
theorem dX4_execute_177 : decode cX4_execute 177 = .ok (.aload_n 0, 1) := by decide +kernel
theorem dX4_execute_178 : decode cX4_execute 178 = .ok (.getfield 20, 3) := by decide +kernel
theorem dX4_execute_181 : decode cX4_execute 181 = .ok (.iload 4, 2) := by decide +kernel
theorem dX4_execute_183 : decode cX4_execute 183 = .ok (.iaload, 1) := by decide +kernel
theorem dX4_execute_184 : decode cX4_execute 184 = .ok (.if_icmp .ge 7, 3) := by decide +kernel
theorem dX4_execute_187 : decode cX4_execute 187 = .ok (.iconst 1, 1) := by decide +kernel
theorem dX4_execute_188 : decode cX4_execute 188 = .ok (.goto 4, 3) := by decide +kernel
theorem dX4_execute_191 : decode cX4_execute 191 = .ok (.iconst 0, 1) := by decide +kernel
theorem dX4_execute_192 : decode cX4_execute 192 = .ok (.iastore, 1) := by decide +kernel
theorem dX4_execute_193 : decode cX4_execute 193 = .ok (.goto 28, 3) := by decide +kernel
theorem dX4_execute_196 : decode cX4_execute 196 = .ok (.aload_n 0, 1) := by decide +kernel
theorem dX4_execute_197 : decode cX4_execute 197 = .ok (.getfield 23, 3) := by decide +kernel
theorem dX4_execute_200 : decode cX4_execute 200 = .ok (.aload_n 0, 1) := by decide +kernel
theorem dX4_execute_201 : decode cX4_execute 201 = .ok (.getfield 136, 3) := by decide +kernel
theorem dX4_execute_204 : decode cX4_execute 204 = .ok (.aload_n 0, 1) := by decide +kernel
theorem dX4_execute_205 : decode cX4_execute 205 = .ok (.getfield 20, 3) := by decide +kernel
theorem dX4_execute_208 : decode cX4_execute 208 = .ok (.iload_n 3, 1) := by decide +kernel
theorem dX4_execute_209 : decode cX4_execute 209 = .ok (.iaload, 1) := by decide +kernel
theorem dX4_execute_210 : decode cX4_execute 210 = .ok (.iastore, 1) := by decide +kernel
theorem dX4_execute_211 : decode cX4_execute 211 = .ok (.aload_n 0, 1) := by decide +kernel
theorem dX4_execute_212 : decode cX4_execute 212 = .ok (.dup, 1) := by decide +kernel
theorem dX4_execute_213 : decode cX4_execute 213 = .ok (.getfield 136, 3) := by decide +kernel
theorem dX4_execute_216 : decode cX4_execute 216 = .ok (.iconst 1, 1) := by decide +kernel
theorem dX4_execute_217 : decode cX4_execute 217 = .ok (.iadd, 1) := by decide +kernel
theorem dX4_execute_218 : decode cX4_execute 218 = .ok (.putfield 136, 3) := by decide +kernel
theorem dX4_execute_221 : decode cX4_execute 221 = .ok (.return_, 1) := by decide +kernel
set_option maxRecDepth 20000 in
theorem ggX4_nextOf_X4_end : GoodIn wsX4_nextOf wsX4_end := goodIn_r _ [6, 7, 8, 5, 9] (by decide +kernel) (by decide +kernel)
set_option maxRecDepth 20000 in
theorem gX4_nextOf_X4_end : GoodIn wsX4_nextOf (va_wsS RX4 34 yX4_end wsX4_end) := goodIn_app (goodIn_of _ (by decide +kernel)) ggX4_nextOf_X4_end
theorem dX4_nextOf_0 : decode cX4_nextOf 0 = .ok (.iload_n 1, 1) := by decide +kernel
theorem dX4_nextOf_1 : decode cX4_nextOf 1 = .ok (.invokestatic 34, 3) := by decide +kernel
theorem dX4_nextOf_4 : decode cX4_nextOf 4 = .ok (.istore_n 2, 1) := by decide +kernel
theorem dX4_nextOf_5 : decode cX4_nextOf 5 = .ok (.aload_n 0, 1) := by decide +kernel
theorem dX4_nextOf_6 : decode cX4_nextOf 6 = .ok (.getfield 7, 3) := by decide +kernel
theorem dX4_nextOf_9 : decode cX4_nextOf 9 = .ok (.iload_n 2, 1) := by decide +kernel
theorem dX4_nextOf_10 : decode cX4_nextOf 10 = .ok (.iaload, 1) := by decide +kernel
theorem dX4_nextOf_11 : decode cX4_nextOf 11 = .ok (.lookupswitch 70 #[(0, 25), (1, 34)], 25) := by decide +kernel
theorem dX4_nextOf_36 : decode cX4_nextOf 36 = .ok (.aload_n 0, 1) := by decide +kernel
theorem dX4_nextOf_37 : decode cX4_nextOf 37 = .ok (.getfield 7, 3) := by decide +kernel
theorem dX4_nextOf_40 : decode cX4_nextOf 40 = .ok (.iload_n 2, 1) := by decide +kernel
theorem dX4_nextOf_41 : decode cX4_nextOf 41 = .ok (.iconst 1, 1) := by decide +kernel
theorem dX4_nextOf_42 : decode cX4_nextOf 42 = .ok (.iadd, 1) := by decide +kernel
theorem dX4_nextOf_43 : decode cX4_nextOf 43 = .ok (.iaload, 1) := by decide +kernel
theorem dX4_nextOf_44 : decode cX4_nextOf 44 = .ok (.ireturn, 1) := by decide +kernel
theorem dX4_nextOf_45 : decode cX4_nextOf 45 = .ok (.aload_n 0, 1) := by decide +kernel
theorem dX4_nextOf_46 : decode cX4_nextOf 46 = .ok (.getfield 20, 3) := by decide +kernel
theorem dX4_nextOf_49 : decode cX4_nextOf 49 = .ok (.aload_n 0, 1) := by decide +kernel
theorem dX4_nextOf_50 : decode cX4_nextOf 50 = .ok (.getfield 7, 3) := by decide +kernel
theorem dX4_nextOf_53 : decode cX4_nextOf 53 = .ok (.iload_n 2, 1) := by decide +kernel
theorem dX4_nextOf_54 : decode cX4_nextOf 54 = .ok (.iconst 1, 1) := by decide +kernel
theorem dX4_nextOf_55 : decode cX4_nextOf 55 = .ok (.iadd, 1) := by decide +kernel
theorem dX4_nextOf_56 : decode cX4_nextOf 56 = .ok (.iaload, 1) := by decide +kernel
theorem dX4_nextOf_57 : decode cX4_nextOf 57 = .ok (.iaload, 1) := by decide +kernel
theorem dX4_nextOf_58 : decode cX4_nextOf 58 = .ok (.ifCond .eq 14, 3) := by decide +kernel
theorem dX4_nextOf_61 : decode cX4_nextOf 61 = .ok (.aload_n 0, 1) := by decide +kernel
theorem dX4_nextOf_62 : decode cX4_nextOf 62 = .ok (.getfield 7, 3) := by decide +kernel
theorem dX4_nextOf_65 : decode cX4_nextOf 65 = .ok (.iload_n 2, 1) := by decide +kernel
theorem dX4_nextOf_66 : decode cX4_nextOf 66 = .ok (.iconst 2, 1) := by decide +kernel
theorem dX4_nextOf_67 : decode cX4_nextOf 67 = .ok (.iadd, 1) := by decide +kernel
theorem dX4_nextOf_68 : decode cX4_nextOf 68 = .ok (.iaload, 1) := by decide +kernel
theorem dX4_nextOf_69 : decode cX4_nextOf 69 = .ok (.goto 11, 3) := by decide +kernel
theorem dX4_nextOf_72 : decode cX4_nextOf 72 = .ok (.aload_n 0, 1) := by decide +kernel
theorem dX4_nextOf_73 : decode cX4_nextOf 73 = .ok (.getfield 7, 3) := by decide +kernel
theorem dX4_nextOf_76 : decode cX4_nextOf 76 = .ok (.iload_n 2, 1) := by decide +kernel
theorem dX4_nextOf_77 : decode cX4_nextOf 77 = .ok (.iconst 3, 1) := by decide +kernel
theorem dX4_nextOf_78 : decode cX4_nextOf 78 = .ok (.iadd, 1) := by decide +kernel
theorem dX4_nextOf_79 : decode cX4_nextOf 79 = .ok (.iaload, 1) := by decide +kernel
theorem dX4_nextOf_80 : decode cX4_nextOf 80 = .ok (.ireturn, 1) := by decide +kernel
theorem dX4_nextOf_81 : decode cX4_nextOf 81 = .ok (.sipush (-1008), 3) := by decide +kernel
theorem dX4_nextOf_84 : decode cX4_nextOf 84 = .ok (.ireturn, 1) := by decide +kernel
set_option maxRecDepth 20000 in
theorem ggX4_run_X4_in : GoodIn wsX4_run wsX4_in := goodIn_r _ [7] (by decide +kernel) (by decide +kernel)
set_option maxRecDepth 20000 in
theorem gX4_run_X4_in : GoodIn wsX4_run (va_wsS RX4 26 yX4_in wsX4_in) := goodIn_app (goodIn_of _ (by decide +kernel)) ggX4_run_X4_in
set_option maxRecDepth 20000 in
theorem ggX4_run_X4_many : GoodIn wsX4_run wsX4_many := goodIn_r _ [11, 1, 12, 13, 6, 14, 30, 31, 32, 33, 34, 35, 36] (by decide +kernel) (by decide +kernel)
set_option maxRecDepth 20000 in
theorem gX4_run_X4_many : GoodIn wsX4_run (wsV RX4 49 RX4 yX4_many wsX4_many) := goodIn_app (goodIn_of _ (by decide +kernel)) ggX4_run_X4_many
set_option maxRecDepth 20000 in
theorem ggX4_run_X4_at : GoodIn wsX4_run wsX4_at := goodIn_r _ [17, 12, 13, 6, 14] (by decide +kernel) (by decide +kernel)
set_option maxRecDepth 20000 in
theorem gX4_run_X4_at : GoodIn wsX4_run (va_wsS RX4 52 yX4_at wsX4_at) := goodIn_app (goodIn_of _ (by decide +kernel)) ggX4_run_X4_at
set_option maxRecDepth 20000 in
theorem ggX4_run_X4_execute : GoodIn wsX4_run wsX4_execute := goodIn_r _ [21, 1, 2, 22, 3, 30, 31, 32, 33, 34, 35, 36] (by decide +kernel) (by decide +kernel)
set_option maxRecDepth 20000 in
theorem gX4_run_X4_execute : GoodIn wsX4_run (wsV RX4 139 RX4 yX4_execute wsX4_execute) := goodIn_app (goodIn_of _ (by decide +kernel)) ggX4_run_X4_execute
set_option maxRecDepth 20000 in
theorem ggX4_run_X4_nextOf : GoodIn wsX4_run wsX4_nextOf := goodIn_r _ [26, 1, 2, 27, 28, 6, 29, 12, 13, 14, 30, 31, 32, 33, 34, 35, 36] (by decide +kernel) (by decide +kernel)
set_option maxRecDepth 20000 in
theorem gX4_run_X4_nextOf : GoodIn wsX4_run (wsV RX4 143 RX4 yX4_nextOf wsX4_nextOf) := goodIn_app (goodIn_of _ (by decide +kernel)) ggX4_run_X4_nextOf
theorem dX4_run_0 : decode cX4_run 0 = .ok (.iload_n 1, 1) := by decide +kernel
theorem dX4_run_1 : decode cX4_run 1 = .ok (.iconst 1, 1) := by decide +kernel
theorem dX4_run_2 : decode cX4_run 2 = .ok (.sipush 1000, 3) := by decide +kernel
theorem dX4_run_5 : decode cX4_run 5 = .ok (.invokestatic 26, 3) := by decide +kernel
theorem dX4_run_8 : decode cX4_run 8 = .ok (.ifCond .ne 7, 3) := by decide +kernel
theorem dX4_run_11 : decode cX4_run 11 = .ok (.sipush (-1003), 3) := by decide +kernel
theorem dX4_run_14 : decode cX4_run 14 = .ok (.ireturn, 1) := by decide +kernel
theorem dX4_run_15 : decode cX4_run 15 = .ok (.aload_n 0, 1) := by decide +kernel
theorem dX4_run_16 : decode cX4_run 16 = .ok (.getfield 7, 3) := by decide +kernel
theorem dX4_run_19 : decode cX4_run 19 = .ok (.iconst 0, 1) := by decide +kernel
theorem dX4_run_20 : decode cX4_run 20 = .ok (.iaload, 1) := by decide +kernel
theorem dX4_run_21 : decode cX4_run 21 = .ok (.ifCond .ne 7, 3) := by decide +kernel
theorem dX4_run_24 : decode cX4_run 24 = .ok (.sipush (-1001), 3) := by decide +kernel
theorem dX4_run_27 : decode cX4_run 27 = .ok (.ireturn, 1) := by decide +kernel
theorem dX4_run_28 : decode cX4_run 28 = .ok (.iconst 0, 1) := by decide +kernel
theorem dX4_run_29 : decode cX4_run 29 = .ok (.istore_n 2, 1) := by decide +kernel
theorem dX4_run_30 : decode cX4_run 30 = .ok (.iload_n 2, 1) := by decide +kernel
theorem dX4_run_31 : decode cX4_run 31 = .ok (.bipush 8, 2) := by decide +kernel
theorem dX4_run_33 : decode cX4_run 33 = .ok (.if_icmp .ge 33, 3) := by decide +kernel
theorem dX4_run_36 : decode cX4_run 36 = .ok (.aload_n 0, 1) := by decide +kernel
theorem dX4_run_37 : decode cX4_run 37 = .ok (.getfield 20, 3) := by decide +kernel
theorem dX4_run_40 : decode cX4_run 40 = .ok (.iload_n 2, 1) := by decide +kernel
theorem dX4_run_41 : decode cX4_run 41 = .ok (.iload_n 2, 1) := by decide +kernel
theorem dX4_run_42 : decode cX4_run 42 = .ok (.bipush 7, 2) := by decide +kernel
theorem dX4_run_44 : decode cX4_run 44 = .ok (.if_icmp .ge 14, 3) := by decide +kernel
theorem dX4_run_47 : decode cX4_run 47 = .ok (.aload_n 0, 1) := by decide +kernel
theorem dX4_run_48 : decode cX4_run 48 = .ok (.getfield 7, 3) := by decide +kernel
theorem dX4_run_51 : decode cX4_run 51 = .ok (.iconst 2, 1) := by decide +kernel
theorem dX4_run_52 : decode cX4_run 52 = .ok (.iload_n 2, 1) := by decide +kernel
theorem dX4_run_53 : decode cX4_run 53 = .ok (.iadd, 1) := by decide +kernel
theorem dX4_run_54 : decode cX4_run 54 = .ok (.iaload, 1) := by decide +kernel
theorem dX4_run_55 : decode cX4_run 55 = .ok (.goto 4, 3) := by decide +kernel
theorem dX4_run_58 : decode cX4_run 58 = .ok (.iconst 0, 1) := by decide +kernel
theorem dX4_run_59 : decode cX4_run 59 = .ok (.iastore, 1) := by decide +kernel
theorem dX4_run_60 : decode cX4_run 60 = .ok (.iinc 2 1, 3) := by decide +kernel
theorem dX4_run_63 : decode cX4_run 63 = .ok (.goto (-33), 3) := by decide +kernel
theorem dX4_run_66 : decode cX4_run 66 = .ok (.aload_n 0, 1) := by decide +kernel
theorem dX4_run_67 : decode cX4_run 67 = .ok (.iconst 0, 1) := by decide +kernel
theorem dX4_run_68 : decode cX4_run 68 = .ok (.putfield 136, 3) := by decide +kernel
theorem dX4_run_71 : decode cX4_run 71 = .ok (.iconst 0, 1) := by decide +kernel
theorem dX4_run_72 : decode cX4_run 72 = .ok (.istore_n 2, 1) := by decide +kernel
theorem dX4_run_73 : decode cX4_run 73 = .ok (.iconst 0, 1) := by decide +kernel
theorem dX4_run_74 : decode cX4_run 74 = .ok (.istore_n 3, 1) := by decide +kernel
theorem dX4_run_75 : decode cX4_run 75 = .ok (.iconst 1, 1) := by decide +kernel
theorem dX4_run_76 : decode cX4_run 76 = .ok (.istore 4, 2) := by decide +kernel
theorem dX4_run_78 : decode cX4_run 78 = .ok (.iload 4, 2) := by decide +kernel
theorem dX4_run_80 : decode cX4_run 80 = .ok (.iload_n 1, 1) := by decide +kernel
theorem dX4_run_81 : decode cX4_run 81 = .ok (.if_icmp .gt 48, 3) := by decide +kernel
theorem dX4_run_84 : decode cX4_run 84 = .ok (.iload_n 3, 1) := by decide +kernel
theorem dX4_run_85 : decode cX4_run 85 = .ok (.aload_n 0, 1) := by decide +kernel
theorem dX4_run_86 : decode cX4_run 86 = .ok (.iload_n 2, 1) := by decide +kernel
theorem dX4_run_87 : decode cX4_run 87 = .ok (.invokevirtual 49, 3) := by decide +kernel
theorem dX4_run_90 : decode cX4_run 90 = .ok (.if_icmp .ge 18, 3) := by decide +kernel
theorem dX4_run_93 : decode cX4_run 93 = .ok (.aload_n 0, 1) := by decide +kernel
theorem dX4_run_94 : decode cX4_run 94 = .ok (.iload_n 2, 1) := by decide +kernel
theorem dX4_run_95 : decode cX4_run 95 = .ok (.iload_n 3, 1) := by decide +kernel
theorem dX4_run_96 : decode cX4_run 96 = .ok (.invokestatic 52, 3) := by decide +kernel
theorem dX4_run_99 : decode cX4_run 99 = .ok (.invokevirtual 139, 3) := by decide +kernel
theorem dX4_run_102 : decode cX4_run 102 = .ok (.iinc 3 1, 3) := by decide +kernel
theorem dX4_run_105 : decode cX4_run 105 = .ok (.goto 18, 3) := by decide +kernel
theorem dX4_run_108 : decode cX4_run 108 = .ok (.aload_n 0, 1) := by decide +kernel
theorem dX4_run_109 : decode cX4_run 109 = .ok (.iload_n 2, 1) := by decide +kernel
theorem dX4_run_110 : decode cX4_run 110 = .ok (.invokevirtual 143, 3) := by decide +kernel
theorem dX4_run_113 : decode cX4_run 113 = .ok (.istore_n 2, 1) := by decide +kernel
theorem dX4_run_114 : decode cX4_run 114 = .ok (.iconst 0, 1) := by decide +kernel
theorem dX4_run_115 : decode cX4_run 115 = .ok (.istore_n 3, 1) := by decide +kernel
theorem dX4_run_116 : decode cX4_run 116 = .ok (.iload_n 2, 1) := by decide +kernel
theorem dX4_run_117 : decode cX4_run 117 = .ok (.ifCond .ge 6, 3) := by decide +kernel
theorem dX4_run_120 : decode cX4_run 120 = .ok (.iload 4, 2) := by decide +kernel
theorem dX4_run_122 : decode cX4_run 122 = .ok (.ireturn, 1) := by decide +kernel
theorem dX4_run_123 : decode cX4_run 123 = .ok (.iinc 4 1, 3) := by decide +kernel
theorem dX4_run_126 : decode cX4_run 126 = .ok (.goto (-48), 3) := by decide +kernel
theorem dX4_run_129 : decode cX4_run 129 = .ok (.sipush (-1007), 3) := by decide +kernel
theorem dX4_run_132 : decode cX4_run 132 = .ok (.ireturn, 1) := by decide +kernel
theorem dX4_traceLength_0 : decode cX4_traceLength 0 = .ok (.aload_n 0, 1) := by decide +kernel
theorem dX4_traceLength_1 : decode cX4_traceLength 1 = .ok (.getfield 136, 3) := by decide +kernel
theorem dX4_traceLength_4 : decode cX4_traceLength 4 = .ok (.ireturn, 1) := by decide +kernel
set_option maxRecDepth 20000 in
theorem ggX4_trace_X4_in : GoodIn wsX4_trace wsX4_in := goodIn_r _ [6] (by decide +kernel) (by decide +kernel)
set_option maxRecDepth 20000 in
theorem gX4_trace_X4_in : GoodIn wsX4_trace (va_wsS RX4 26 yX4_in wsX4_in) := goodIn_app (goodIn_of _ (by decide +kernel)) ggX4_trace_X4_in
theorem dX4_trace_0 : decode cX4_trace 0 = .ok (.iload_n 1, 1) := by decide +kernel
theorem dX4_trace_1 : decode cX4_trace 1 = .ok (.iconst 0, 1) := by decide +kernel
theorem dX4_trace_2 : decode cX4_trace 2 = .ok (.aload_n 0, 1) := by decide +kernel
theorem dX4_trace_3 : decode cX4_trace 3 = .ok (.getfield 136, 3) := by decide +kernel
theorem dX4_trace_6 : decode cX4_trace 6 = .ok (.iconst 1, 1) := by decide +kernel
theorem dX4_trace_7 : decode cX4_trace 7 = .ok (.isub, 1) := by decide +kernel
theorem dX4_trace_8 : decode cX4_trace 8 = .ok (.invokestatic 26, 3) := by decide +kernel
theorem dX4_trace_11 : decode cX4_trace 11 = .ok (.ifCond .eq 12, 3) := by decide +kernel
theorem dX4_trace_14 : decode cX4_trace 14 = .ok (.aload_n 0, 1) := by decide +kernel
theorem dX4_trace_15 : decode cX4_trace 15 = .ok (.getfield 23, 3) := by decide +kernel
theorem dX4_trace_18 : decode cX4_trace 18 = .ok (.iload_n 1, 1) := by decide +kernel
theorem dX4_trace_19 : decode cX4_trace 19 = .ok (.iaload, 1) := by decide +kernel
theorem dX4_trace_20 : decode cX4_trace 20 = .ok (.goto 4, 3) := by decide +kernel
theorem dX4_trace_23 : decode cX4_trace 23 = .ok (.iconst 0, 1) := by decide +kernel
theorem dX4_trace_24 : decode cX4_trace 24 = .ok (.ireturn, 1) := by decide +kernel
set_option maxRecDepth 20000 in
theorem ggX4_register_X4_in : GoodIn wsX4_register wsX4_in := goodIn_r _ [5] (by decide +kernel) (by decide +kernel)
set_option maxRecDepth 20000 in
theorem gX4_register_X4_in : GoodIn wsX4_register (va_wsS RX4 26 yX4_in wsX4_in) := goodIn_app (goodIn_of _ (by decide +kernel)) ggX4_register_X4_in
theorem dX4_register_0 : decode cX4_register 0 = .ok (.iload_n 1, 1) := by decide +kernel
theorem dX4_register_1 : decode cX4_register 1 = .ok (.iconst 0, 1) := by decide +kernel
theorem dX4_register_2 : decode cX4_register 2 = .ok (.bipush 7, 2) := by decide +kernel
theorem dX4_register_4 : decode cX4_register 4 = .ok (.invokestatic 26, 3) := by decide +kernel
theorem dX4_register_7 : decode cX4_register 7 = .ok (.ifCond .eq 12, 3) := by decide +kernel
theorem dX4_register_10 : decode cX4_register 10 = .ok (.aload_n 0, 1) := by decide +kernel
theorem dX4_register_11 : decode cX4_register 11 = .ok (.getfield 20, 3) := by decide +kernel
theorem dX4_register_14 : decode cX4_register 14 = .ok (.iload_n 1, 1) := by decide +kernel
theorem dX4_register_15 : decode cX4_register 15 = .ok (.iaload, 1) := by decide +kernel
theorem dX4_register_16 : decode cX4_register 16 = .ok (.goto 4, 3) := by decide +kernel
theorem dX4_register_19 : decode cX4_register 19 = .ok (.iconst 0, 1) := by decide +kernel
theorem dX4_register_20 : decode cX4_register 20 = .ok (.ireturn, 1) := by decide +kernel
set_option maxRecDepth 20000 in
theorem ggX4_save_X4_in : GoodIn wsX4_save wsX4_in := goodIn_r _ [7] (by decide +kernel) (by decide +kernel)
set_option maxRecDepth 20000 in
theorem gX4_save_X4_in : GoodIn wsX4_save (va_wsS RX4 26 yX4_in wsX4_in) := goodIn_app (goodIn_of _ (by decide +kernel)) ggX4_save_X4_in
theorem dX4_save_0 : decode cX4_save 0 = .ok (.iload_n 1, 1) := by decide +kernel
theorem dX4_save_1 : decode cX4_save 1 = .ok (.iconst 0, 1) := by decide +kernel
theorem dX4_save_2 : decode cX4_save 2 = .ok (.iconst 1, 1) := by decide +kernel
theorem dX4_save_3 : decode cX4_save 3 = .ok (.invokestatic 26, 3) := by decide +kernel
theorem dX4_save_6 : decode cX4_save 6 = .ok (.ifCond .ne 7, 3) := by decide +kernel
theorem dX4_save_9 : decode cX4_save 9 = .ok (.sipush (-1003), 3) := by decide +kernel
theorem dX4_save_12 : decode cX4_save 12 = .ok (.ireturn, 1) := by decide +kernel
theorem dX4_save_13 : decode cX4_save 13 = .ok (.iconst 0, 1) := by decide +kernel
theorem dX4_save_14 : decode cX4_save 14 = .ok (.istore_n 2, 1) := by decide +kernel
theorem dX4_save_15 : decode cX4_save 15 = .ok (.iload_n 2, 1) := by decide +kernel
theorem dX4_save_16 : decode cX4_save 16 = .ok (.sipush 670, 3) := by decide +kernel
theorem dX4_save_19 : decode cX4_save 19 = .ok (.if_icmp .ge 27, 3) := by decide +kernel
theorem dX4_save_22 : decode cX4_save 22 = .ok (.aload_n 0, 1) := by decide +kernel
theorem dX4_save_23 : decode cX4_save 23 = .ok (.getfield 13, 3) := by decide +kernel
theorem dX4_save_26 : decode cX4_save 26 = .ok (.sipush 670, 3) := by decide +kernel
theorem dX4_save_29 : decode cX4_save 29 = .ok (.iload_n 1, 1) := by decide +kernel
theorem dX4_save_30 : decode cX4_save 30 = .ok (.imul, 1) := by decide +kernel
theorem dX4_save_31 : decode cX4_save 31 = .ok (.iload_n 2, 1) := by decide +kernel
theorem dX4_save_32 : decode cX4_save 32 = .ok (.iadd, 1) := by decide +kernel
theorem dX4_save_33 : decode cX4_save 33 = .ok (.aload_n 0, 1) := by decide +kernel
theorem dX4_save_34 : decode cX4_save 34 = .ok (.getfield 7, 3) := by decide +kernel
theorem dX4_save_37 : decode cX4_save 37 = .ok (.iload_n 2, 1) := by decide +kernel
theorem dX4_save_38 : decode cX4_save 38 = .ok (.iaload, 1) := by decide +kernel
theorem dX4_save_39 : decode cX4_save 39 = .ok (.iastore, 1) := by decide +kernel
theorem dX4_save_40 : decode cX4_save 40 = .ok (.iinc 2 1, 3) := by decide +kernel
theorem dX4_save_43 : decode cX4_save 43 = .ok (.goto (-28), 3) := by decide +kernel
theorem dX4_save_46 : decode cX4_save 46 = .ok (.aload_n 0, 1) := by decide +kernel
theorem dX4_save_47 : decode cX4_save 47 = .ok (.getfield 16, 3) := by decide +kernel
theorem dX4_save_50 : decode cX4_save 50 = .ok (.iload_n 1, 1) := by decide +kernel
theorem dX4_save_51 : decode cX4_save 51 = .ok (.iconst 1, 1) := by decide +kernel
theorem dX4_save_52 : decode cX4_save 52 = .ok (.bastore, 1) := by decide +kernel
theorem dX4_save_53 : decode cX4_save 53 = .ok (.iconst 1, 1) := by decide +kernel
theorem dX4_save_54 : decode cX4_save 54 = .ok (.ireturn, 1) := by decide +kernel
set_option maxRecDepth 20000 in
theorem ggX4_restore_X4_in : GoodIn wsX4_restore wsX4_in := goodIn_r _ [7] (by decide +kernel) (by decide +kernel)
set_option maxRecDepth 20000 in
theorem gX4_restore_X4_in : GoodIn wsX4_restore (va_wsS RX4 26 yX4_in wsX4_in) := goodIn_app (goodIn_of _ (by decide +kernel)) ggX4_restore_X4_in
theorem dX4_restore_0 : decode cX4_restore 0 = .ok (.iload_n 1, 1) := by decide +kernel
theorem dX4_restore_1 : decode cX4_restore 1 = .ok (.iconst 0, 1) := by decide +kernel
theorem dX4_restore_2 : decode cX4_restore 2 = .ok (.iconst 1, 1) := by decide +kernel
theorem dX4_restore_3 : decode cX4_restore 3 = .ok (.invokestatic 26, 3) := by decide +kernel
theorem dX4_restore_6 : decode cX4_restore 6 = .ok (.ifCond .ne 7, 3) := by decide +kernel
theorem dX4_restore_9 : decode cX4_restore 9 = .ok (.sipush (-1003), 3) := by decide +kernel
theorem dX4_restore_12 : decode cX4_restore 12 = .ok (.ireturn, 1) := by decide +kernel
theorem dX4_restore_13 : decode cX4_restore 13 = .ok (.aload_n 0, 1) := by decide +kernel
theorem dX4_restore_14 : decode cX4_restore 14 = .ok (.getfield 16, 3) := by decide +kernel
theorem dX4_restore_17 : decode cX4_restore 17 = .ok (.iload_n 1, 1) := by decide +kernel
theorem dX4_restore_18 : decode cX4_restore 18 = .ok (.baload, 1) := by decide +kernel
theorem dX4_restore_19 : decode cX4_restore 19 = .ok (.ifCond .ne 7, 3) := by decide +kernel
theorem dX4_restore_22 : decode cX4_restore 22 = .ok (.sipush (-1009), 3) := by decide +kernel
theorem dX4_restore_25 : decode cX4_restore 25 = .ok (.ireturn, 1) := by decide +kernel
theorem dX4_restore_26 : decode cX4_restore 26 = .ok (.iconst 0, 1) := by decide +kernel
theorem dX4_restore_27 : decode cX4_restore 27 = .ok (.istore_n 2, 1) := by decide +kernel
theorem dX4_restore_28 : decode cX4_restore 28 = .ok (.iload_n 2, 1) := by decide +kernel
theorem dX4_restore_29 : decode cX4_restore 29 = .ok (.sipush 670, 3) := by decide +kernel
theorem dX4_restore_32 : decode cX4_restore 32 = .ok (.if_icmp .ge 27, 3) := by decide +kernel
theorem dX4_restore_35 : decode cX4_restore 35 = .ok (.aload_n 0, 1) := by decide +kernel
theorem dX4_restore_36 : decode cX4_restore 36 = .ok (.getfield 7, 3) := by decide +kernel
theorem dX4_restore_39 : decode cX4_restore 39 = .ok (.iload_n 2, 1) := by decide +kernel
theorem dX4_restore_40 : decode cX4_restore 40 = .ok (.aload_n 0, 1) := by decide +kernel
theorem dX4_restore_41 : decode cX4_restore 41 = .ok (.getfield 13, 3) := by decide +kernel
theorem dX4_restore_44 : decode cX4_restore 44 = .ok (.sipush 670, 3) := by decide +kernel
theorem dX4_restore_47 : decode cX4_restore 47 = .ok (.iload_n 1, 1) := by decide +kernel
theorem dX4_restore_48 : decode cX4_restore 48 = .ok (.imul, 1) := by decide +kernel
theorem dX4_restore_49 : decode cX4_restore 49 = .ok (.iload_n 2, 1) := by decide +kernel
theorem dX4_restore_50 : decode cX4_restore 50 = .ok (.iadd, 1) := by decide +kernel
theorem dX4_restore_51 : decode cX4_restore 51 = .ok (.iaload, 1) := by decide +kernel
theorem dX4_restore_52 : decode cX4_restore 52 = .ok (.iastore, 1) := by decide +kernel
theorem dX4_restore_53 : decode cX4_restore 53 = .ok (.iinc 2 1, 3) := by decide +kernel
theorem dX4_restore_56 : decode cX4_restore 56 = .ok (.goto (-28), 3) := by decide +kernel
theorem dX4_restore_59 : decode cX4_restore 59 = .ok (.iconst 1, 1) := by decide +kernel
theorem dX4_restore_60 : decode cX4_restore 60 = .ok (.ireturn, 1) := by decide +kernel
theorem dJ6_bitCount_0f7a4_0 : decode cJ6_bitCount_0f7a4 0 = .ok (.iload_n 0, 1) := by decide +kernel
theorem dJ6_bitCount_0f7a4_1 : decode cJ6_bitCount_0f7a4 1 = .ok (.iload_n 0, 1) := by decide +kernel
theorem dJ6_bitCount_0f7a4_2 : decode cJ6_bitCount_0f7a4 2 = .ok (.iconst 1, 1) := by decide +kernel
theorem dJ6_bitCount_0f7a4_3 : decode cJ6_bitCount_0f7a4 3 = .ok (.iushr, 1) := by decide +kernel
theorem dJ6_bitCount_0f7a4_4 : decode cJ6_bitCount_0f7a4 4 = .ok (.ldc_w 265, 3) := by decide +kernel
theorem dJ6_bitCount_0f7a4_7 : decode cJ6_bitCount_0f7a4 7 = .ok (.iand, 1) := by decide +kernel
theorem dJ6_bitCount_0f7a4_8 : decode cJ6_bitCount_0f7a4 8 = .ok (.isub, 1) := by decide +kernel
theorem dJ6_bitCount_0f7a4_9 : decode cJ6_bitCount_0f7a4 9 = .ok (.istore_n 0, 1) := by decide +kernel
theorem dJ6_bitCount_0f7a4_10 : decode cJ6_bitCount_0f7a4 10 = .ok (.iload_n 0, 1) := by decide +kernel
theorem dJ6_bitCount_0f7a4_11 : decode cJ6_bitCount_0f7a4 11 = .ok (.ldc_w 266, 3) := by decide +kernel
theorem dJ6_bitCount_0f7a4_14 : decode cJ6_bitCount_0f7a4 14 = .ok (.iand, 1) := by decide +kernel
theorem dJ6_bitCount_0f7a4_15 : decode cJ6_bitCount_0f7a4 15 = .ok (.iload_n 0, 1) := by decide +kernel
theorem dJ6_bitCount_0f7a4_16 : decode cJ6_bitCount_0f7a4 16 = .ok (.iconst 2, 1) := by decide +kernel
theorem dJ6_bitCount_0f7a4_17 : decode cJ6_bitCount_0f7a4 17 = .ok (.iushr, 1) := by decide +kernel
theorem dJ6_bitCount_0f7a4_18 : decode cJ6_bitCount_0f7a4 18 = .ok (.ldc_w 266, 3) := by decide +kernel
theorem dJ6_bitCount_0f7a4_21 : decode cJ6_bitCount_0f7a4 21 = .ok (.iand, 1) := by decide +kernel
theorem dJ6_bitCount_0f7a4_22 : decode cJ6_bitCount_0f7a4 22 = .ok (.iadd, 1) := by decide +kernel
theorem dJ6_bitCount_0f7a4_23 : decode cJ6_bitCount_0f7a4 23 = .ok (.istore_n 0, 1) := by decide +kernel
theorem dJ6_bitCount_0f7a4_24 : decode cJ6_bitCount_0f7a4 24 = .ok (.iload_n 0, 1) := by decide +kernel
theorem dJ6_bitCount_0f7a4_25 : decode cJ6_bitCount_0f7a4 25 = .ok (.iload_n 0, 1) := by decide +kernel
theorem dJ6_bitCount_0f7a4_26 : decode cJ6_bitCount_0f7a4 26 = .ok (.iconst 4, 1) := by decide +kernel
theorem dJ6_bitCount_0f7a4_27 : decode cJ6_bitCount_0f7a4 27 = .ok (.iushr, 1) := by decide +kernel
theorem dJ6_bitCount_0f7a4_28 : decode cJ6_bitCount_0f7a4 28 = .ok (.iadd, 1) := by decide +kernel
theorem dJ6_bitCount_0f7a4_29 : decode cJ6_bitCount_0f7a4 29 = .ok (.ldc_w 267, 3) := by decide +kernel
theorem dJ6_bitCount_0f7a4_32 : decode cJ6_bitCount_0f7a4 32 = .ok (.iand, 1) := by decide +kernel
theorem dJ6_bitCount_0f7a4_33 : decode cJ6_bitCount_0f7a4 33 = .ok (.istore_n 0, 1) := by decide +kernel
theorem dJ6_bitCount_0f7a4_34 : decode cJ6_bitCount_0f7a4 34 = .ok (.iload_n 0, 1) := by decide +kernel
theorem dJ6_bitCount_0f7a4_35 : decode cJ6_bitCount_0f7a4 35 = .ok (.iload_n 0, 1) := by decide +kernel
theorem dJ6_bitCount_0f7a4_36 : decode cJ6_bitCount_0f7a4 36 = .ok (.bipush 8, 2) := by decide +kernel
theorem dJ6_bitCount_0f7a4_38 : decode cJ6_bitCount_0f7a4 38 = .ok (.iushr, 1) := by decide +kernel
theorem dJ6_bitCount_0f7a4_39 : decode cJ6_bitCount_0f7a4 39 = .ok (.iadd, 1) := by decide +kernel
theorem dJ6_bitCount_0f7a4_40 : decode cJ6_bitCount_0f7a4 40 = .ok (.istore_n 0, 1) := by decide +kernel
theorem dJ6_bitCount_0f7a4_41 : decode cJ6_bitCount_0f7a4 41 = .ok (.iload_n 0, 1) := by decide +kernel
theorem dJ6_bitCount_0f7a4_42 : decode cJ6_bitCount_0f7a4 42 = .ok (.iload_n 0, 1) := by decide +kernel
theorem dJ6_bitCount_0f7a4_43 : decode cJ6_bitCount_0f7a4 43 = .ok (.bipush 16, 2) := by decide +kernel
theorem dJ6_bitCount_0f7a4_45 : decode cJ6_bitCount_0f7a4 45 = .ok (.iushr, 1) := by decide +kernel
theorem dJ6_bitCount_0f7a4_46 : decode cJ6_bitCount_0f7a4 46 = .ok (.iadd, 1) := by decide +kernel
theorem dJ6_bitCount_0f7a4_47 : decode cJ6_bitCount_0f7a4 47 = .ok (.istore_n 0, 1) := by decide +kernel
theorem dJ6_bitCount_0f7a4_48 : decode cJ6_bitCount_0f7a4 48 = .ok (.iload_n 0, 1) := by decide +kernel
theorem dJ6_bitCount_0f7a4_49 : decode cJ6_bitCount_0f7a4 49 = .ok (.bipush 63, 2) := by decide +kernel
theorem dJ6_bitCount_0f7a4_51 : decode cJ6_bitCount_0f7a4 51 = .ok (.iand, 1) := by decide +kernel
theorem dJ6_bitCount_0f7a4_52 : decode cJ6_bitCount_0f7a4 52 = .ok (.ireturn, 1) := by decide +kernel
theorem dJ9_min_7cf53_0 : decode cJ9_min_7cf53 0 = .ok (.iload_n 0, 1) := by decide +kernel
theorem dJ9_min_7cf53_1 : decode cJ9_min_7cf53 1 = .ok (.iload_n 1, 1) := by decide +kernel
theorem dJ9_min_7cf53_2 : decode cJ9_min_7cf53 2 = .ok (.if_icmp .gt 7, 3) := by decide +kernel
theorem dJ9_min_7cf53_5 : decode cJ9_min_7cf53 5 = .ok (.iload_n 0, 1) := by decide +kernel
theorem dJ9_min_7cf53_6 : decode cJ9_min_7cf53 6 = .ok (.goto 4, 3) := by decide +kernel
theorem dJ9_min_7cf53_9 : decode cJ9_min_7cf53 9 = .ok (.iload_n 1, 1) := by decide +kernel
theorem dJ9_min_7cf53_10 : decode cJ9_min_7cf53 10 = .ok (.ireturn, 1) := by decide +kernel
set_option maxRecDepth 20000 in
theorem ggL_law_X3_init : GoodIn wsL_law wsX3_init := goodIn_r _ [8, 9, 10, 11, 12, 13, 14, 15, 16, 17, 18, 19, 20, 21, 22, 23, 24, 25, 26, 27, 28, 29, 30, 31, 32, 33, 34, 35, 36, 37, 38, 39, 40, 41, 42, 43, 44, 45, 46, 47, 48, 49, 50, 51, 618, 619, 620, 621, 622, 607, 608, 609, 610, 623, 624, 625, 626, 627, 628, 629, 630, 631, 632, 633] (by decide +kernel) (by decide +kernel)
set_option maxRecDepth 20000 in
theorem gL_law_X3_init : GoodIn wsL_law (wsX3_init) := ggL_law_X3_init
set_option maxRecDepth 20000 in
theorem ggL_law_X4_init : GoodIn wsL_law wsX4_init := goodIn_r _ [54, 55, 10, 11, 32, 56, 57, 17, 58, 59, 60, 611, 612, 613, 614, 615, 616, 617] (by decide +kernel) (by decide +kernel)
set_option maxRecDepth 20000 in
theorem gL_law_X4_init : GoodIn wsL_law (wsX4_init) := ggL_law_X4_init
set_option maxRecDepth 20000 in
theorem ggL_law_X3_addBlock : GoodIn wsL_law wsX3_addBlock := goodIn_r _ [64, 15, 65, 14, 66, 67, 30, 27, 68, 29, 69, 70, 43, 71, 72, 73, 74, 44, 45, 607, 608, 609, 610, 618, 619, 620, 621, 622, 626, 627, 628, 629, 630, 631, 632, 633] (by decide +kernel) (by decide +kernel)
set_option maxRecDepth 20000 in
theorem gL_law_X3_addBlock : GoodIn wsL_law (wsV RL 13 RX3 yX3_addBlock wsX3_addBlock) := goodIn_app (goodIn_of _ (by decide +kernel)) ggL_law_X3_addBlock
set_option maxRecDepth 20000 in
theorem ggL_law_X4_addBlock : GoodIn wsL_law wsX4_addBlock := goodIn_r _ [78, 56, 79, 80, 81, 5, 82, 83, 84, 85, 86, 87, 88, 89, 90, 91, 92, 611, 612, 613, 614, 615, 616, 617] (by decide +kernel) (by decide +kernel)
set_option maxRecDepth 20000 in
theorem gL_law_X4_addBlock : GoodIn wsL_law (wsV RL 17 RX4 yX4_addBlock wsX4_addBlock) := goodIn_app (goodIn_of _ (by decide +kernel)) ggL_law_X4_addBlock
set_option maxRecDepth 20000 in
theorem ggL_law_X3_addInstruction : GoodIn wsL_law wsX3_addInstruction := goodIn_r _ [96, 15, 97, 14, 98, 99, 30, 100, 101, 2, 102, 103, 104, 105, 106, 29, 107, 108, 43, 38, 39, 40, 41, 42, 607, 608, 609, 610, 618, 619, 620, 621, 622, 626, 627, 628, 629, 630, 631, 632, 633] (by decide +kernel) (by decide +kernel)
set_option maxRecDepth 20000 in
theorem gL_law_X3_addInstruction : GoodIn wsL_law (wsV RL 18 RX3 yX3_addInstruction wsX3_addInstruction) := goodIn_app (goodIn_of _ (by decide +kernel)) ggL_law_X3_addInstruction
set_option maxRecDepth 20000 in
theorem ggL_law_X4_addInstruction : GoodIn wsL_law wsX4_addInstruction := goodIn_r _ [112, 113, 114, 115, 5, 116, 56, 117, 118, 119, 120, 121, 122, 123, 124, 125, 126, 127, 128, 129, 83, 84, 85, 130, 131, 132, 133, 134, 135, 136, 611, 612, 613, 614, 615, 616, 617] (by decide +kernel) (by decide +kernel)
set_option maxRecDepth 20000 in
theorem gL_law_X4_addInstruction : GoodIn wsL_law (wsV RL 22 RX4 yX4_addInstruction wsX4_addInstruction) := goodIn_app (goodIn_of _ (by decide +kernel)) ggL_law_X4_addInstruction
set_option maxRecDepth 20000 in
theorem ggL_law_X3_setJump : GoodIn wsL_law wsX3_setJump := goodIn_r _ [140, 15, 97, 14, 98, 99, 30, 72, 29, 73, 74, 44, 45, 607, 608, 609, 610, 618, 619, 620, 621, 622, 626, 627, 628, 629, 630, 631, 632, 633] (by decide +kernel) (by decide +kernel)
set_option maxRecDepth 20000 in
theorem gL_law_X3_setJump : GoodIn wsL_law (wsV RL 23 RX3 yX3_setJump wsX3_setJump) := goodIn_app (goodIn_of _ (by decide +kernel)) ggL_law_X3_setJump
set_option maxRecDepth 20000 in
theorem ggL_law_X4_setJump : GoodIn wsL_law wsX4_setJump := goodIn_r _ [144, 56, 113, 114, 115, 5, 116, 117, 118, 119, 90, 91, 92, 83, 84, 85, 86, 87, 88, 89, 611, 612, 613, 614, 615, 616, 617] (by decide +kernel) (by decide +kernel)
set_option maxRecDepth 20000 in
theorem gL_law_X4_setJump : GoodIn wsL_law (wsV RL 27 RX4 yX4_setJump wsX4_setJump) := goodIn_app (goodIn_of _ (by decide +kernel)) ggL_law_X4_setJump
set_option maxRecDepth 20000 in
theorem ggL_law_X3_setBranch : GoodIn wsL_law wsX3_setBranch := goodIn_r _ [148, 15, 97, 14, 98, 99, 30, 103, 104, 2, 105, 72, 29, 73, 74, 44, 45, 607, 608, 609, 610, 618, 619, 620, 621, 622, 626, 627, 628, 629, 630, 631, 632, 633] (by decide +kernel) (by decide +kernel)
set_option maxRecDepth 20000 in
theorem gL_law_X3_setBranch : GoodIn wsL_law (wsV RL 28 RX3 yX3_setBranch wsX3_setBranch) := goodIn_app (goodIn_of _ (by decide +kernel)) ggL_law_X3_setBranch
set_option maxRecDepth 20000 in
theorem ggL_law_X4_setBranch : GoodIn wsL_law wsX4_setBranch := goodIn_r _ [152, 56, 113, 114, 115, 5, 116, 117, 118, 119, 123, 124, 125, 90, 91, 92, 83, 84, 85, 86, 87, 88, 89, 611, 612, 613, 614, 615, 616, 617] (by decide +kernel) (by decide +kernel)
set_option maxRecDepth 20000 in
theorem gL_law_X4_setBranch : GoodIn wsL_law (wsV RL 32 RX4 yX4_setBranch wsX4_setBranch) := goodIn_app (goodIn_of _ (by decide +kernel)) ggL_law_X4_setBranch
set_option maxRecDepth 20000 in
theorem ggL_law_X3_setReturn : GoodIn wsL_law wsX3_setReturn := goodIn_r _ [156, 15, 97, 14, 98, 99, 30, 103, 104, 2, 105, 72, 29, 73, 74, 44, 45, 607, 608, 609, 610, 618, 619, 620, 621, 622, 626, 627, 628, 629, 630, 631, 632, 633] (by decide +kernel) (by decide +kernel)
set_option maxRecDepth 20000 in
theorem gL_law_X3_setReturn : GoodIn wsL_law (wsV RL 33 RX3 yX3_setReturn wsX3_setReturn) := goodIn_app (goodIn_of _ (by decide +kernel)) ggL_law_X3_setReturn
set_option maxRecDepth 20000 in
theorem ggL_law_X4_setReturn : GoodIn wsL_law wsX4_setReturn := goodIn_r _ [160, 56, 113, 114, 115, 5, 116, 117, 118, 119, 123, 124, 125, 90, 91, 92, 83, 84, 85, 86, 87, 88, 89, 611, 612, 613, 614, 615, 616, 617] (by decide +kernel) (by decide +kernel)
set_option maxRecDepth 20000 in
theorem gL_law_X4_setReturn : GoodIn wsL_law (wsV RL 36 RX4 yX4_setReturn wsX4_setReturn) := goodIn_app (goodIn_of _ (by decide +kernel)) ggL_law_X4_setReturn
set_option maxRecDepth 20000 in
theorem ggL_law_X3_blockCount : GoodIn wsL_law wsX3_blockCount := goodIn_r _ [164, 15, 607, 608, 609, 610, 618, 619, 620, 621, 622] (by decide +kernel) (by decide +kernel)
set_option maxRecDepth 20000 in
theorem gL_law_X3_blockCount : GoodIn wsL_law (wsV RL 37 RX3 yX3_blockCount wsX3_blockCount) := goodIn_app (goodIn_of _ (by decide +kernel)) ggL_law_X3_blockCount
set_option maxRecDepth 20000 in
theorem ggL_law_X4_blockCount : GoodIn wsL_law wsX4_blockCount := goodIn_r _ [168, 56, 611, 612, 613, 614, 615, 616, 617] (by decide +kernel) (by decide +kernel)
set_option maxRecDepth 20000 in
theorem gL_law_X4_blockCount : GoodIn wsL_law (wsV RL 40 RX4 yX4_blockCount wsX4_blockCount) := goodIn_app (goodIn_of _ (by decide +kernel)) ggL_law_X4_blockCount
set_option maxRecDepth 20000 in
theorem ggL_law_X3_instructionCount : GoodIn wsL_law wsX3_instructionCount := goodIn_r _ [172, 15, 97, 14, 98, 99, 30, 607, 608, 609, 610, 618, 619, 620, 621, 622, 626, 627, 628, 629, 630, 631, 632, 633] (by decide +kernel) (by decide +kernel)
set_option maxRecDepth 20000 in
theorem gL_law_X3_instructionCount : GoodIn wsL_law (wsV RL 41 RX3 yX3_instructionCount wsX3_instructionCount) := goodIn_app (goodIn_of _ (by decide +kernel)) ggL_law_X3_instructionCount
set_option maxRecDepth 20000 in
theorem ggL_law_X4_instructionCount : GoodIn wsL_law wsX4_instructionCount := goodIn_r _ [176, 113, 114, 115, 5, 116, 56, 117, 118, 119, 126, 127, 128, 129, 83, 84, 85, 611, 612, 613, 614, 615, 616, 617] (by decide +kernel) (by decide +kernel)
set_option maxRecDepth 20000 in
theorem gL_law_X4_instructionCount : GoodIn wsL_law (wsV RL 45 RX4 yX4_instructionCount wsX4_instructionCount) := goodIn_app (goodIn_of _ (by decide +kernel)) ggL_law_X4_instructionCount
set_option maxRecDepth 20000 in
theorem ggL_law_X3_opcode : GoodIn wsL_law wsX3_opcode := goodIn_r _ [180, 15, 181, 182, 183, 2, 184, 97, 14, 98, 99, 30, 607, 608, 609, 610, 618, 619, 620, 621, 622, 626, 627, 628, 629, 630, 631, 632, 633] (by decide +kernel) (by decide +kernel)
set_option maxRecDepth 20000 in
theorem gL_law_X3_opcode : GoodIn wsL_law (wsV RL 46 RX3 yX3_opcode wsX3_opcode) := goodIn_app (goodIn_of _ (by decide +kernel)) ggL_law_X3_opcode
set_option maxRecDepth 20000 in
theorem ggL_law_X4_opcode : GoodIn wsL_law wsX4_opcode := goodIn_r _ [188, 189, 190, 191, 5, 192, 56, 113, 114, 115, 116, 117, 118, 119, 126, 127, 128, 129, 83, 84, 85, 134, 135, 136, 611, 612, 613, 614, 615, 616, 617] (by decide +kernel) (by decide +kernel)
set_option maxRecDepth 20000 in
theorem gL_law_X4_opcode : GoodIn wsL_law (wsV RL 49 RX4 yX4_opcode wsX4_opcode) := goodIn_app (goodIn_of _ (by decide +kernel)) ggL_law_X4_opcode
set_option maxRecDepth 20000 in
theorem ggL_law_X3_destination : GoodIn wsL_law wsX3_destination := goodIn_r _ [196, 15, 181, 182, 183, 2, 184, 97, 14, 98, 99, 30, 607, 608, 609, 610, 618, 619, 620, 621, 622, 626, 627, 628, 629, 630, 631, 632, 633] (by decide +kernel) (by decide +kernel)
set_option maxRecDepth 20000 in
theorem gL_law_X3_destination : GoodIn wsL_law (wsV RL 50 RX3 yX3_destination wsX3_destination) := goodIn_app (goodIn_of _ (by decide +kernel)) ggL_law_X3_destination
set_option maxRecDepth 20000 in
theorem ggL_law_X4_destination : GoodIn wsL_law wsX4_destination := goodIn_r _ [200, 189, 190, 191, 5, 192, 56, 113, 114, 115, 116, 117, 118, 119, 126, 127, 128, 129, 83, 84, 85, 134, 135, 136, 611, 612, 613, 614, 615, 616, 617] (by decide +kernel) (by decide +kernel)
set_option maxRecDepth 20000 in
theorem gL_law_X4_destination : GoodIn wsL_law (wsV RL 53 RX4 yX4_destination wsX4_destination) := goodIn_app (goodIn_of _ (by decide +kernel)) ggL_law_X4_destination
set_option maxRecDepth 20000 in
theorem ggL_law_X3_operandA : GoodIn wsL_law wsX3_operandA := goodIn_r _ [204, 15, 181, 182, 183, 2, 184, 97, 14, 98, 99, 30, 607, 608, 609, 610, 618, 619, 620, 621, 622, 626, 627, 628, 629, 630, 631, 632, 633] (by decide +kernel) (by decide +kernel)
set_option maxRecDepth 20000 in
theorem gL_law_X3_operandA : GoodIn wsL_law (wsV RL 54 RX3 yX3_operandA wsX3_operandA) := goodIn_app (goodIn_of _ (by decide +kernel)) ggL_law_X3_operandA
set_option maxRecDepth 20000 in
theorem ggL_law_X4_operandA : GoodIn wsL_law wsX4_operandA := goodIn_r _ [208, 189, 190, 191, 5, 192, 56, 113, 114, 115, 116, 117, 118, 119, 126, 127, 128, 129, 83, 84, 85, 134, 135, 136, 611, 612, 613, 614, 615, 616, 617] (by decide +kernel) (by decide +kernel)
set_option maxRecDepth 20000 in
theorem gL_law_X4_operandA : GoodIn wsL_law (wsV RL 57 RX4 yX4_operandA wsX4_operandA) := goodIn_app (goodIn_of _ (by decide +kernel)) ggL_law_X4_operandA
set_option maxRecDepth 20000 in
theorem ggL_law_X3_operandB : GoodIn wsL_law wsX3_operandB := goodIn_r _ [212, 15, 181, 182, 183, 2, 184, 97, 14, 98, 99, 30, 607, 608, 609, 610, 618, 619, 620, 621, 622, 626, 627, 628, 629, 630, 631, 632, 633] (by decide +kernel) (by decide +kernel)
set_option maxRecDepth 20000 in
theorem gL_law_X3_operandB : GoodIn wsL_law (wsV RL 58 RX3 yX3_operandB wsX3_operandB) := goodIn_app (goodIn_of _ (by decide +kernel)) ggL_law_X3_operandB
set_option maxRecDepth 20000 in
theorem ggL_law_X4_operandB : GoodIn wsL_law wsX4_operandB := goodIn_r _ [216, 189, 190, 191, 5, 192, 56, 113, 114, 115, 116, 117, 118, 119, 126, 127, 128, 129, 83, 84, 85, 134, 135, 136, 611, 612, 613, 614, 615, 616, 617] (by decide +kernel) (by decide +kernel)
set_option maxRecDepth 20000 in
theorem gL_law_X4_operandB : GoodIn wsL_law (wsV RL 61 RX4 yX4_operandB wsX4_operandB) := goodIn_app (goodIn_of _ (by decide +kernel)) ggL_law_X4_operandB
set_option maxRecDepth 20000 in
theorem ggL_law_X3_lines : GoodIn wsL_law wsX3_lines := goodIn_r _ [220, 15, 181, 182, 183, 2, 184, 97, 14, 98, 99, 30, 607, 608, 609, 610, 618, 619, 620, 621, 622, 626, 627, 628, 629, 630, 631, 632, 633] (by decide +kernel) (by decide +kernel)
set_option maxRecDepth 20000 in
theorem gL_law_X3_lines : GoodIn wsL_law (wsV RL 62 RX3 yX3_lines wsX3_lines) := goodIn_app (goodIn_of _ (by decide +kernel)) ggL_law_X3_lines
set_option maxRecDepth 20000 in
theorem ggL_law_X4_lines : GoodIn wsL_law wsX4_lines := goodIn_r _ [224, 189, 190, 191, 5, 192, 56, 113, 114, 115, 116, 117, 118, 119, 126, 127, 128, 129, 83, 84, 85, 134, 135, 136, 611, 612, 613, 614, 615, 616, 617] (by decide +kernel) (by decide +kernel)
set_option maxRecDepth 20000 in
theorem gL_law_X4_lines : GoodIn wsL_law (wsV RL 65 RX4 yX4_lines wsX4_lines) := goodIn_app (goodIn_of _ (by decide +kernel)) ggL_law_X4_lines
set_option maxRecDepth 20000 in
theorem ggL_law_X3_terminatorKind : GoodIn wsL_law wsX3_terminatorKind := goodIn_r _ [228, 15, 97, 14, 98, 99, 30, 607, 608, 609, 610, 618, 619, 620, 621, 622, 626, 627, 628, 629, 630, 631, 632, 633] (by decide +kernel) (by decide +kernel)
set_option maxRecDepth 20000 in
theorem gL_law_X3_terminatorKind : GoodIn wsL_law (wsV RL 66 RX3 yX3_terminatorKind wsX3_terminatorKind) := goodIn_app (goodIn_of _ (by decide +kernel)) ggL_law_X3_terminatorKind
set_option maxRecDepth 20000 in
theorem ggL_law_X4_terminatorKind : GoodIn wsL_law wsX4_terminatorKind := goodIn_r _ [232, 56, 113, 114, 115, 5, 116, 117, 118, 119, 90, 91, 92, 83, 84, 85, 611, 612, 613, 614, 615, 616, 617] (by decide +kernel) (by decide +kernel)
set_option maxRecDepth 20000 in
theorem gL_law_X4_terminatorKind : GoodIn wsL_law (wsV RL 69 RX4 yX4_terminatorKind wsX4_terminatorKind) := goodIn_app (goodIn_of _ (by decide +kernel)) ggL_law_X4_terminatorKind
set_option maxRecDepth 20000 in
theorem ggL_law_X3_terminatorOperand : GoodIn wsL_law wsX3_terminatorOperand := goodIn_r _ [236, 15, 97, 14, 98, 99, 30, 607, 608, 609, 610, 618, 619, 620, 621, 622, 626, 627, 628, 629, 630, 631, 632, 633] (by decide +kernel) (by decide +kernel)
set_option maxRecDepth 20000 in
theorem gL_law_X3_terminatorOperand : GoodIn wsL_law (wsV RL 70 RX3 yX3_terminatorOperand wsX3_terminatorOperand) := goodIn_app (goodIn_of _ (by decide +kernel)) ggL_law_X3_terminatorOperand
set_option maxRecDepth 20000 in
theorem ggL_law_X4_terminatorOperand : GoodIn wsL_law wsX4_terminatorOperand := goodIn_r _ [240, 56, 113, 114, 115, 5, 116, 117, 118, 119, 90, 91, 92, 83, 84, 85, 611, 612, 613, 614, 615, 616, 617] (by decide +kernel) (by decide +kernel)
set_option maxRecDepth 20000 in
theorem gL_law_X4_terminatorOperand : GoodIn wsL_law (wsV RL 73 RX4 yX4_terminatorOperand wsX4_terminatorOperand) := goodIn_app (goodIn_of _ (by decide +kernel)) ggL_law_X4_terminatorOperand
set_option maxRecDepth 20000 in
theorem ggL_law_X3_tailHash : GoodIn wsL_law wsX3_tailHash := goodIn_r _ [244, 15, 97, 14, 98, 99, 30, 245, 29, 246, 247, 43, 38, 39, 40, 41, 44, 45, 248, 607, 608, 609, 610, 618, 619, 620, 621, 622, 626, 627, 628, 629, 630, 631, 632, 633] (by decide +kernel) (by decide +kernel)
set_option maxRecDepth 20000 in
theorem gL_law_X3_tailHash : GoodIn wsL_law (wsV RL 74 RX3 yX3_tailHash wsX3_tailHash) := goodIn_app (goodIn_of _ (by decide +kernel)) ggL_law_X3_tailHash
set_option maxRecDepth 20000 in
theorem ggL_law_X4_tailHash : GoodIn wsL_law wsX4_tailHash := goodIn_r _ [252, 56, 253, 113, 114, 115, 5, 116, 117, 118, 119, 126, 127, 128, 129, 83, 84, 85, 134, 135, 136, 90, 91, 92, 611, 612, 613, 614, 615, 616, 617] (by decide +kernel) (by decide +kernel)
set_option maxRecDepth 20000 in
theorem gL_law_X4_tailHash : GoodIn wsL_law (wsV RL 77 RX4 yX4_tailHash wsX4_tailHash) := goodIn_app (goodIn_of _ (by decide +kernel)) ggL_law_X4_tailHash
set_option maxRecDepth 20000 in
theorem ggL_law_X3_commonTail : GoodIn wsL_law wsX3_commonTail := goodIn_r _ [257, 15, 258, 259, 260, 2, 261, 97, 14, 98, 99, 30, 262, 29, 263, 264, 43, 265, 266, 267, 268, 269, 270, 271, 272, 44, 45, 273, 274, 275, 276, 38, 39, 40, 41, 607, 608, 609, 610, 618, 619, 620, 621, 622, 626, 627, 628, 629, 630, 631, 632, 633] (by decide +kernel) (by decide +kernel)
set_option maxRecDepth 20000 in
theorem gL_law_X3_commonTail : GoodIn wsL_law (wsV RL 78 RX3 yX3_commonTail wsX3_commonTail) := goodIn_app (goodIn_of _ (by decide +kernel)) ggL_law_X3_commonTail
set_option maxRecDepth 20000 in
theorem ggL_law_X4_commonTail : GoodIn wsL_law wsX4_commonTail := goodIn_r _ [280, 281, 282, 283, 5, 284, 113, 114, 115, 116, 56, 117, 118, 119, 285, 286, 287, 288, 289, 290, 291, 292, 90, 91, 92, 83, 84, 85, 126, 127, 128, 129, 293, 294, 295, 296, 134, 135, 136, 611, 612, 613, 614, 615, 616, 617] (by decide +kernel) (by decide +kernel)
set_option maxRecDepth 20000 in
theorem gL_law_X4_commonTail : GoodIn wsL_law (wsV RL 81 RX4 yX4_commonTail wsX4_commonTail) := goodIn_app (goodIn_of _ (by decide +kernel)) ggL_law_X4_commonTail
set_option maxRecDepth 20000 in
theorem ggL_law_X3_parameterTail : GoodIn wsL_law wsX3_parameterTail := goodIn_r _ [300, 15, 258, 259, 260, 2, 261, 97, 14, 98, 99, 30, 301, 29, 302, 303, 44, 43, 265, 266, 267, 268, 269, 270, 271, 272, 45, 304, 305, 306, 307, 308, 309, 310, 311, 39, 41, 40, 38, 273, 274, 275, 276, 312, 313, 314, 315, 607, 608, 609, 610, 618, 619, 620, 621, 622, 626, 627, 628, 629, 630, 631, 632, 633] (by decide +kernel) (by decide +kernel)
set_option maxRecDepth 20000 in
theorem gL_law_X3_parameterTail : GoodIn wsL_law (wsV RL 82 RX3 yX3_parameterTail wsX3_parameterTail) := goodIn_app (goodIn_of _ (by decide +kernel)) ggL_law_X3_parameterTail
set_option maxRecDepth 20000 in
theorem ggL_law_X4_parameterTail : GoodIn wsL_law wsX4_parameterTail := goodIn_r _ [319, 281, 282, 283, 5, 284, 113, 114, 115, 116, 56, 117, 118, 119, 320, 321, 322, 323, 324, 289, 290, 291, 292, 90, 91, 92, 83, 84, 85, 126, 127, 128, 129, 325, 326, 327, 328, 134, 135, 136, 293, 294, 295, 296, 329, 330, 331, 332, 611, 612, 613, 614, 615, 616, 617] (by decide +kernel) (by decide +kernel)
set_option maxRecDepth 20000 in
theorem gL_law_X4_parameterTail : GoodIn wsL_law (wsV RL 85 RX4 yX4_parameterTail wsX4_parameterTail) := goodIn_app (goodIn_of _ (by decide +kernel)) ggL_law_X4_parameterTail
set_option maxRecDepth 20000 in
theorem ggL_law_X3_setJumpCost : GoodIn wsL_law wsX3_setJumpCost := goodIn_r _ [336, 15, 607, 608, 609, 610, 618, 619, 620, 621, 622] (by decide +kernel) (by decide +kernel)
set_option maxRecDepth 20000 in
theorem gL_law_X3_setJumpCost : GoodIn wsL_law (wsV RL 86 RX3 yX3_setJumpCost wsX3_setJumpCost) := goodIn_app (goodIn_of _ (by decide +kernel)) ggL_law_X3_setJumpCost
set_option maxRecDepth 20000 in
theorem ggL_law_X4_setJumpCost : GoodIn wsL_law wsX4_setJumpCost := goodIn_r _ [340, 56, 117, 118, 5, 119, 611, 612, 613, 614, 615, 616, 617] (by decide +kernel) (by decide +kernel)
set_option maxRecDepth 20000 in
theorem gL_law_X4_setJumpCost : GoodIn wsL_law (wsV RL 89 RX4 yX4_setJumpCost wsX4_setJumpCost) := goodIn_app (goodIn_of _ (by decide +kernel)) ggL_law_X4_setJumpCost
