theorem dX0_init_0 : decode cX0_init 0 = .ok (.aload_n 0, 1) := by decide +kernel
theorem dX0_init_1 : decode cX0_init 1 = .ok (.invokespecial 3, 3) := by decide +kernel
theorem dX0_init_4 : decode cX0_init 4 = .ok (.aload_n 0, 1) := by decide +kernel
theorem dX0_init_5 : decode cX0_init 5 = .ok (.bipush 10, 2) := by decide +kernel
theorem dX0_init_7 : decode cX0_init 7 = .ok (.newarray .int, 2) := by decide +kernel
theorem dX0_init_9 : decode cX0_init 9 = .ok (.putfield 9, 3) := by decide +kernel
theorem dX0_init_12 : decode cX0_init 12 = .ok (.aload_n 0, 1) := by decide +kernel
theorem dX0_init_13 : decode cX0_init 13 = .ok (.bipush 10, 2) := by decide +kernel
theorem dX0_init_15 : decode cX0_init 15 = .ok (.newarray .int, 2) := by decide +kernel
theorem dX0_init_17 : decode cX0_init 17 = .ok (.putfield 15, 3) := by decide +kernel
theorem dX0_init_20 : decode cX0_init 20 = .ok (.aload_n 0, 1) := by decide +kernel
theorem dX0_init_21 : decode cX0_init 21 = .ok (.bipush 10, 2) := by decide +kernel
theorem dX0_init_23 : decode cX0_init 23 = .ok (.newarray .int, 2) := by decide +kernel
theorem dX0_init_25 : decode cX0_init 25 = .ok (.putfield 18, 3) := by decide +kernel
theorem dX0_init_28 : decode cX0_init 28 = .ok (.aload_n 0, 1) := by decide +kernel
theorem dX0_init_29 : decode cX0_init 29 = .ok (.bipush 10, 2) := by decide +kernel
theorem dX0_init_31 : decode cX0_init 31 = .ok (.newarray .int, 2) := by decide +kernel
theorem dX0_init_33 : decode cX0_init 33 = .ok (.putfield 21, 3) := by decide +kernel
theorem dX0_init_36 : decode cX0_init 36 = .ok (.aload_n 0, 1) := by decide +kernel
theorem dX0_init_37 : decode cX0_init 37 = .ok (.bipush 10, 2) := by decide +kernel
theorem dX0_init_39 : decode cX0_init 39 = .ok (.newarray .int, 2) := by decide +kernel
theorem dX0_init_41 : decode cX0_init 41 = .ok (.putfield 24, 3) := by decide +kernel
theorem dX0_init_44 : decode cX0_init 44 = .ok (.aload_n 0, 1) := by decide +kernel
theorem dX0_init_45 : decode cX0_init 45 = .ok (.iconst 0, 1) := by decide +kernel
theorem dX0_init_46 : decode cX0_init 46 = .ok (.putfield 27, 3) := by decide +kernel
theorem dX0_init_49 : decode cX0_init 49 = .ok (.aload_n 0, 1) := by decide +kernel
theorem dX0_init_50 : decode cX0_init 50 = .ok (.iconst 2, 1) := by decide +kernel
theorem dX0_init_51 : decode cX0_init 51 = .ok (.putfield 31, 3) := by decide +kernel
theorem dX0_init_54 : decode cX0_init 54 = .ok (.aload_n 0, 1) := by decide +kernel
theorem dX0_init_55 : decode cX0_init 55 = .ok (.iconst 3, 1) := by decide +kernel
theorem dX0_init_56 : decode cX0_init 56 = .ok (.newarray .int, 2) := by decide +kernel
theorem dX0_init_58 : decode cX0_init 58 = .ok (.putfield 34, 3) := by decide +kernel
theorem dX0_init_61 : decode cX0_init 61 = .ok (.return_, 1) := by decide +kernel
set_option maxRecDepth 20000 in
theorem ggX0_clear_X0_terminate : GoodIn wsX0_clear wsX0_terminate := goodIn_r _ [6, 7, 8, 9, 10, 11, 12, 13, 14, 15, 16] (by decide +kernel) (by decide +kernel)
set_option maxRecDepth 20000 in
theorem gX0_clear_X0_terminate : GoodIn wsX0_clear (wsV RX0 37 RX0 yX0_terminate wsX0_terminate) := goodIn_app (goodIn_of _ (by decide +kernel)) ggX0_clear_X0_terminate
theorem dX0_clear_0 : decode cX0_clear 0 = .ok (.aload_n 0, 1) := by decide +kernel
theorem dX0_clear_1 : decode cX0_clear 1 = .ok (.iconst 0, 1) := by decide +kernel
theorem dX0_clear_2 : decode cX0_clear 2 = .ok (.putfield 27, 3) := by decide +kernel
theorem dX0_clear_5 : decode cX0_clear 5 = .ok (.aload_n 0, 1) := by decide +kernel
theorem dX0_clear_6 : decode cX0_clear 6 = .ok (.iconst 2, 1) := by decide +kernel
theorem dX0_clear_7 : decode cX0_clear 7 = .ok (.iconst 0, 1) := by decide +kernel
theorem dX0_clear_8 : decode cX0_clear 8 = .ok (.iconst 0, 1) := by decide +kernel
theorem dX0_clear_9 : decode cX0_clear 9 = .ok (.iconst 0, 1) := by decide +kernel
theorem dX0_clear_10 : decode cX0_clear 10 = .ok (.invokevirtual 37, 3) := by decide +kernel
theorem dX0_clear_13 : decode cX0_clear 13 = .ok (.pop, 1) := by decide +kernel
theorem dX0_clear_14 : decode cX0_clear 14 = .ok (.return_, 1) := by decide +kernel
theorem dX0_append_0 : decode cX0_append 0 = .ok (.aload_n 0, 1) := by decide +kernel
theorem dX0_append_1 : decode cX0_append 1 = .ok (.getfield 27, 3) := by decide +kernel
theorem dX0_append_4 : decode cX0_append 4 = .ok (.bipush 10, 2) := by decide +kernel
theorem dX0_append_6 : decode cX0_append 6 = .ok (.if_icmp .lt 7, 3) := by decide +kernel
theorem dX0_append_9 : decode cX0_append 9 = .ok (.sipush (-1004), 3) := by decide +kernel
theorem dX0_append_12 : decode cX0_append 12 = .ok (.ireturn, 1) := by decide +kernel
theorem dX0_append_13 : decode cX0_append 13 = .ok (.aload_n 0, 1) := by decide +kernel
theorem dX0_append_14 : decode cX0_append 14 = .ok (.getfield 27, 3) := by decide +kernel
theorem dX0_append_17 : decode cX0_append 17 = .ok (.istore 6, 2) := by decide +kernel
theorem dX0_append_19 : decode cX0_append 19 = .ok (.aload_n 0, 1) := by decide +kernel
theorem dX0_append_20 : decode cX0_append 20 = .ok (.getfield 9, 3) := by decide +kernel
theorem dX0_append_23 : decode cX0_append 23 = .ok (.iload 6, 2) := by decide +kernel
theorem dX0_append_25 : decode cX0_append 25 = .ok (.iload_n 1, 1) := by decide +kernel
theorem dX0_append_26 : decode cX0_append 26 = .ok (.iastore, 1) := by decide +kernel
theorem dX0_append_27 : decode cX0_append 27 = .ok (.aload_n 0, 1) := by decide +kernel
theorem dX0_append_28 : decode cX0_append 28 = .ok (.getfield 15, 3) := by decide +kernel
theorem dX0_append_31 : decode cX0_append 31 = .ok (.iload 6, 2) := by decide +kernel
theorem dX0_append_33 : decode cX0_append 33 = .ok (.iload_n 2, 1) := by decide +kernel
theorem dX0_append_34 : decode cX0_append 34 = .ok (.iastore, 1) := by decide +kernel
theorem dX0_append_35 : decode cX0_append 35 = .ok (.aload_n 0, 1) := by decide +kernel
theorem dX0_append_36 : decode cX0_append 36 = .ok (.getfield 18, 3) := by decide +kernel
theorem dX0_append_39 : decode cX0_append 39 = .ok (.iload 6, 2) := by decide +kernel
theorem dX0_append_41 : decode cX0_append 41 = .ok (.iload_n 3, 1) := by decide +kernel
theorem dX0_append_42 : decode cX0_append 42 = .ok (.iastore, 1) := by decide +kernel
theorem dX0_append_43 : decode cX0_append 43 = .ok (.aload_n 0, 1) := by decide +kernel
theorem dX0_append_44 : decode cX0_append 44 = .ok (.getfield 21, 3) := by decide +kernel
theorem dX0_append_47 : decode cX0_append 47 = .ok (.iload 6, 2) := by decide +kernel
theorem dX0_append_49 : decode cX0_append 49 = .ok (.iload 4, 2) := by decide +kernel
theorem dX0_append_51 : decode cX0_append 51 = .ok (.iastore, 1) := by decide +kernel
theorem dX0_append_52 : decode cX0_append 52 = .ok (.aload_n 0, 1) := by decide +kernel
theorem dX0_append_53 : decode cX0_append 53 = .ok (.getfield 24, 3) := by decide +kernel
theorem dX0_append_56 : decode cX0_append 56 = .ok (.iload 6, 2) := by decide +kernel
theorem dX0_append_58 : decode cX0_append 58 = .ok (.iload 5, 2) := by decide +kernel
theorem dX0_append_60 : decode cX0_append 60 = .ok (.iastore, 1) := by decide +kernel
theorem dX0_append_61 : decode cX0_append 61 = .ok (.aload_n 0, 1) := by decide +kernel
theorem dX0_append_62 : decode cX0_append 62 = .ok (.dup, 1) := by decide +kernel
theorem dX0_append_63 : decode cX0_append 63 = .ok (.getfield 27, 3) := by decide +kernel
theorem dX0_append_66 : decode cX0_append 66 = .ok (.iconst 1, 1) := by decide +kernel
theorem dX0_append_67 : decode cX0_append 67 = .ok (.iadd, 1) := by decide +kernel
theorem dX0_append_68 : decode cX0_append 68 = .ok (.putfield 27, 3) := by decide +kernel
theorem dX0_append_71 : decode cX0_append 71 = .ok (.iload 6, 2) := by decide +kernel
theorem dX0_append_73 : decode cX0_append 73 = .ok (.ireturn, 1) := by decide +kernel
theorem dX0_terminate_0 : decode cX0_terminate 0 = .ok (.aload_n 0, 1) := by decide +kernel
theorem dX0_terminate_1 : decode cX0_terminate 1 = .ok (.getfield 31, 3) := by decide +kernel
theorem dX0_terminate_4 : decode cX0_terminate 4 = .ok (.istore 5, 2) := by decide +kernel
theorem dX0_terminate_6 : decode cX0_terminate 6 = .ok (.aload_n 0, 1) := by decide +kernel
theorem dX0_terminate_7 : decode cX0_terminate 7 = .ok (.iload_n 1, 1) := by decide +kernel
theorem dX0_terminate_8 : decode cX0_terminate 8 = .ok (.putfield 31, 3) := by decide +kernel
theorem dX0_terminate_11 : decode cX0_terminate 11 = .ok (.aload_n 0, 1) := by decide +kernel
theorem dX0_terminate_12 : decode cX0_terminate 12 = .ok (.getfield 34, 3) := by decide +kernel
theorem dX0_terminate_15 : decode cX0_terminate 15 = .ok (.iconst 0, 1) := by decide +kernel
theorem dX0_terminate_16 : decode cX0_terminate 16 = .ok (.iload_n 2, 1) := by decide +kernel
theorem dX0_terminate_17 : decode cX0_terminate 17 = .ok (.iastore, 1) := by decide +kernel
theorem dX0_terminate_18 : decode cX0_terminate 18 = .ok (.aload_n 0, 1) := by decide +kernel
theorem dX0_terminate_19 : decode cX0_terminate 19 = .ok (.getfield 34, 3) := by decide +kernel
theorem dX0_terminate_22 : decode cX0_terminate 22 = .ok (.iconst 1, 1) := by decide +kernel
theorem dX0_terminate_23 : decode cX0_terminate 23 = .ok (.iload_n 3, 1) := by decide +kernel
theorem dX0_terminate_24 : decode cX0_terminate 24 = .ok (.iastore, 1) := by decide +kernel
theorem dX0_terminate_25 : decode cX0_terminate 25 = .ok (.aload_n 0, 1) := by decide +kernel
theorem dX0_terminate_26 : decode cX0_terminate 26 = .ok (.getfield 34, 3) := by decide +kernel
theorem dX0_terminate_29 : decode cX0_terminate 29 = .ok (.iconst 2, 1) := by decide +kernel
theorem dX0_terminate_30 : decode cX0_terminate 30 = .ok (.iload 4, 2) := by decide +kernel
theorem dX0_terminate_32 : decode cX0_terminate 32 = .ok (.iastore, 1) := by decide +kernel
theorem dX0_terminate_33 : decode cX0_terminate 33 = .ok (.iload 5, 2) := by decide +kernel
theorem dX0_terminate_35 : decode cX0_terminate 35 = .ok (.ireturn, 1) := by decide +kernel
set_option maxRecDepth 20000 in
theorem ggX0_copyFrom_X0_appendTail : GoodIn wsX0_copyFrom wsX0_appendTail := goodIn_r _ [6, 1, 7, 8, 9, 10, 11, 12, 13, 14, 15, 16, 5, 17, 18, 19, 20, 21, 22, 23, 24, 25, 26, 27, 28, 29] (by decide +kernel) (by decide +kernel)
set_option maxRecDepth 20000 in
theorem gX0_copyFrom_X0_appendTail : GoodIn wsX0_copyFrom (wsV RX0 41 RX0 yX0_appendTail wsX0_appendTail) := goodIn_app (goodIn_of _ (by decide +kernel)) ggX0_copyFrom_X0_appendTail
theorem dX0_copyFrom_0 : decode cX0_copyFrom 0 = .ok (.aload_n 0, 1) := by decide +kernel
theorem dX0_copyFrom_1 : decode cX0_copyFrom 1 = .ok (.iconst 0, 1) := by decide +kernel
theorem dX0_copyFrom_2 : decode cX0_copyFrom 2 = .ok (.putfield 27, 3) := by decide +kernel
theorem dX0_copyFrom_5 : decode cX0_copyFrom 5 = .ok (.aload_n 0, 1) := by decide +kernel
theorem dX0_copyFrom_6 : decode cX0_copyFrom 6 = .ok (.aload_n 1, 1) := by decide +kernel
theorem dX0_copyFrom_7 : decode cX0_copyFrom 7 = .ok (.aload_n 1, 1) := by decide +kernel
theorem dX0_copyFrom_8 : decode cX0_copyFrom 8 = .ok (.getfield 27, 3) := by decide +kernel
theorem dX0_copyFrom_11 : decode cX0_copyFrom 11 = .ok (.invokevirtual 41, 3) := by decide +kernel
theorem dX0_copyFrom_14 : decode cX0_copyFrom 14 = .ok (.return_, 1) := by decide +kernel
set_option maxRecDepth 20000 in
theorem ggX0_appendTail_X0_append : GoodIn wsX0_appendTail wsX0_append := goodIn_r _ [13, 1, 2, 3, 4, 5, 6, 18, 19, 20, 21, 22, 23, 24, 25] (by decide +kernel) (by decide +kernel)
set_option maxRecDepth 20000 in
theorem gX0_appendTail_X0_append : GoodIn wsX0_appendTail (wsV RX0 45 RX0 yX0_append wsX0_append) := goodIn_app (goodIn_of _ (by decide +kernel)) ggX0_appendTail_X0_append
set_option maxRecDepth 20000 in
theorem ggX0_appendTail_X0_terminate : GoodIn wsX0_appendTail wsX0_terminate := goodIn_r _ [17, 7, 8, 18, 19, 20, 21, 22, 23, 24, 25] (by decide +kernel) (by decide +kernel)
set_option maxRecDepth 20000 in
theorem gX0_appendTail_X0_terminate : GoodIn wsX0_appendTail (wsV RX0 37 RX0 yX0_terminate wsX0_terminate) := goodIn_app (goodIn_of _ (by decide +kernel)) ggX0_appendTail_X0_terminate
theorem dX0_appendTail_0 : decode cX0_appendTail 0 = .ok (.aload_n 1, 1) := by decide +kernel
theorem dX0_appendTail_1 : decode cX0_appendTail 1 = .ok (.getfield 27, 3) := by decide +kernel
theorem dX0_appendTail_4 : decode cX0_appendTail 4 = .ok (.iload_n 2, 1) := by decide +kernel
theorem dX0_appendTail_5 : decode cX0_appendTail 5 = .ok (.isub, 1) := by decide +kernel
theorem dX0_appendTail_6 : decode cX0_appendTail 6 = .ok (.istore_n 3, 1) := by decide +kernel
theorem dX0_appendTail_7 : decode cX0_appendTail 7 = .ok (.iload_n 3, 1) := by decide +kernel
theorem dX0_appendTail_8 : decode cX0_appendTail 8 = .ok (.aload_n 1, 1) := by decide +kernel
theorem dX0_appendTail_9 : decode cX0_appendTail 9 = .ok (.getfield 27, 3) := by decide +kernel
theorem dX0_appendTail_12 : decode cX0_appendTail 12 = .ok (.if_icmp .ge 44, 3) := by decide +kernel
theorem dX0_appendTail_15 : decode cX0_appendTail 15 = .ok (.aload_n 0, 1) := by decide +kernel
theorem dX0_appendTail_16 : decode cX0_appendTail 16 = .ok (.aload_n 1, 1) := by decide +kernel
theorem dX0_appendTail_17 : decode cX0_appendTail 17 = .ok (.getfield 9, 3) := by decide +kernel
theorem dX0_appendTail_20 : decode cX0_appendTail 20 = .ok (.iload_n 3, 1) := by decide +kernel
theorem dX0_appendTail_21 : decode cX0_appendTail 21 = .ok (.iaload, 1) := by decide +kernel
theorem dX0_appendTail_22 : decode cX0_appendTail 22 = .ok (.aload_n 1, 1) := by decide +kernel
theorem dX0_appendTail_23 : decode cX0_appendTail 23 = .ok (.getfield 15, 3) := by decide +kernel
theorem dX0_appendTail_26 : decode cX0_appendTail 26 = .ok (.iload_n 3, 1) := by decide +kernel
theorem dX0_appendTail_27 : decode cX0_appendTail 27 = .ok (.iaload, 1) := by decide +kernel
theorem dX0_appendTail_28 : decode cX0_appendTail 28 = .ok (.aload_n 1, 1) := by decide +kernel
theorem dX0_appendTail_29 : decode cX0_appendTail 29 = .ok (.getfield 18, 3) := by decide +kernel
theorem dX0_appendTail_32 : decode cX0_appendTail 32 = .ok (.iload_n 3, 1) := by decide +kernel
theorem dX0_appendTail_33 : decode cX0_appendTail 33 = .ok (.iaload, 1) := by decide +kernel
theorem dX0_appendTail_34 : decode cX0_appendTail 34 = .ok (.aload_n 1, 1) := by decide +kernel
theorem dX0_appendTail_35 : decode cX0_appendTail 35 = .ok (.getfield 21, 3) := by decide +kernel
theorem dX0_appendTail_38 : decode cX0_appendTail 38 = .ok (.iload_n 3, 1) := by decide +kernel
theorem dX0_appendTail_39 : decode cX0_appendTail 39 = .ok (.iaload, 1) := by decide +kernel
theorem dX0_appendTail_40 : decode cX0_appendTail 40 = .ok (.aload_n 1, 1) := by decide +kernel
theorem dX0_appendTail_41 : decode cX0_appendTail 41 = .ok (.getfield 24, 3) := by decide +kernel
theorem dX0_appendTail_44 : decode cX0_appendTail 44 = .ok (.iload_n 3, 1) := by decide +kernel
theorem dX0_appendTail_45 : decode cX0_appendTail 45 = .ok (.iaload, 1) := by decide +kernel
theorem dX0_appendTail_46 : decode cX0_appendTail 46 = .ok (.invokevirtual 45, 3) := by decide +kernel
theorem dX0_appendTail_49 : decode cX0_appendTail 49 = .ok (.pop, 1) := by decide +kernel
theorem dX0_appendTail_50 : decode cX0_appendTail 50 = .ok (.iinc 3 1, 3) := by decide +kernel
theorem dX0_appendTail_53 : decode cX0_appendTail 53 = .ok (.goto (-46), 3) := by decide +kernel
theorem dX0_appendTail_56 : decode cX0_appendTail 56 = .ok (.aload_n 0, 1) := by decide +kernel
theorem dX0_appendTail_57 : decode cX0_appendTail 57 = .ok (.aload_n 1, 1) := by decide +kernel
theorem dX0_appendTail_58 : decode cX0_appendTail 58 = .ok (.getfield 31, 3) := by decide +kernel
theorem dX0_appendTail_61 : decode cX0_appendTail 61 = .ok (.aload_n 1, 1) := by decide +kernel
theorem dX0_appendTail_62 : decode cX0_appendTail 62 = .ok (.getfield 34, 3) := by decide +kernel
theorem dX0_appendTail_65 : decode cX0_appendTail 65 = .ok (.iconst 0, 1) := by decide +kernel
theorem dX0_appendTail_66 : decode cX0_appendTail 66 = .ok (.iaload, 1) := by decide +kernel
theorem dX0_appendTail_67 : decode cX0_appendTail 67 = .ok (.aload_n 1, 1) := by decide +kernel
theorem dX0_appendTail_68 : decode cX0_appendTail 68 = .ok (.getfield 34, 3) := by decide +kernel
theorem dX0_appendTail_71 : decode cX0_appendTail 71 = .ok (.iconst 1, 1) := by decide +kernel
theorem dX0_appendTail_72 : decode cX0_appendTail 72 = .ok (.iaload, 1) := by decide +kernel
theorem dX0_appendTail_73 : decode cX0_appendTail 73 = .ok (.aload_n 1, 1) := by decide +kernel
theorem dX0_appendTail_74 : decode cX0_appendTail 74 = .ok (.getfield 34, 3) := by decide +kernel
theorem dX0_appendTail_77 : decode cX0_appendTail 77 = .ok (.iconst 2, 1) := by decide +kernel
theorem dX0_appendTail_78 : decode cX0_appendTail 78 = .ok (.iaload, 1) := by decide +kernel
theorem dX0_appendTail_79 : decode cX0_appendTail 79 = .ok (.invokevirtual 37, 3) := by decide +kernel
theorem dX0_appendTail_82 : decode cX0_appendTail 82 = .ok (.pop, 1) := by decide +kernel
theorem dX0_appendTail_83 : decode cX0_appendTail 83 = .ok (.return_, 1) := by decide +kernel
theorem dX0_uniteLines_0 : decode cX0_uniteLines 0 = .ok (.iconst 1, 1) := by decide +kernel
theorem dX0_uniteLines_1 : decode cX0_uniteLines 1 = .ok (.istore_n 3, 1) := by decide +kernel
theorem dX0_uniteLines_2 : decode cX0_uniteLines 2 = .ok (.iload_n 3, 1) := by decide +kernel
theorem dX0_uniteLines_3 : decode cX0_uniteLines 3 = .ok (.iload_n 2, 1) := by decide +kernel
theorem dX0_uniteLines_4 : decode cX0_uniteLines 4 = .ok (.if_icmp .gt 34, 3) := by decide +kernel
theorem dX0_uniteLines_7 : decode cX0_uniteLines 7 = .ok (.aload_n 0, 1) := by decide +kernel
theorem dX0_uniteLines_8 : decode cX0_uniteLines 8 = .ok (.getfield 24, 3) := by decide +kernel
theorem dX0_uniteLines_11 : decode cX0_uniteLines 11 = .ok (.aload_n 0, 1) := by decide +kernel
theorem dX0_uniteLines_12 : decode cX0_uniteLines 12 = .ok (.getfield 27, 3) := by decide +kernel
theorem dX0_uniteLines_15 : decode cX0_uniteLines 15 = .ok (.iload_n 3, 1) := by decide +kernel
theorem dX0_uniteLines_16 : decode cX0_uniteLines 16 = .ok (.isub, 1) := by decide +kernel
theorem dX0_uniteLines_17 : decode cX0_uniteLines 17 = .ok (.dup2, 1) := by decide +kernel
theorem dX0_uniteLines_18 : decode cX0_uniteLines 18 = .ok (.iaload, 1) := by decide +kernel
theorem dX0_uniteLines_19 : decode cX0_uniteLines 19 = .ok (.aload_n 1, 1) := by decide +kernel
theorem dX0_uniteLines_20 : decode cX0_uniteLines 20 = .ok (.getfield 24, 3) := by decide +kernel
theorem dX0_uniteLines_23 : decode cX0_uniteLines 23 = .ok (.aload_n 1, 1) := by decide +kernel
theorem dX0_uniteLines_24 : decode cX0_uniteLines 24 = .ok (.getfield 27, 3) := by decide +kernel
theorem dX0_uniteLines_27 : decode cX0_uniteLines 27 = .ok (.iload_n 3, 1) := by decide +kernel
theorem dX0_uniteLines_28 : decode cX0_uniteLines 28 = .ok (.isub, 1) := by decide +kernel
theorem dX0_uniteLines_29 : decode cX0_uniteLines 29 = .ok (.iaload, 1) := by decide +kernel
theorem dX0_uniteLines_30 : decode cX0_uniteLines 30 = .ok (.ior, 1) := by decide +kernel
theorem dX0_uniteLines_31 : decode cX0_uniteLines 31 = .ok (.iastore, 1) := by decide +kernel
theorem dX0_uniteLines_32 : decode cX0_uniteLines 32 = .ok (.iinc 3 1, 3) := by decide +kernel
theorem dX0_uniteLines_35 : decode cX0_uniteLines 35 = .ok (.goto (-33), 3) := by decide +kernel
theorem dX0_uniteLines_38 : decode cX0_uniteLines 38 = .ok (.return_, 1) := by decide +kernel
set_option maxRecDepth 20000 in
theorem ggX0_replaceTailByJump_X0_terminate : GoodIn wsX0_replaceTailByJump wsX0_terminate := goodIn_r _ [6, 7, 8, 9, 10, 11, 12, 13, 14, 15, 16] (by decide +kernel) (by decide +kernel)
set_option maxRecDepth 20000 in
theorem gX0_replaceTailByJump_X0_terminate : GoodIn wsX0_replaceTailByJump (wsV RX0 37 RX0 yX0_terminate wsX0_terminate) := goodIn_app (goodIn_of _ (by decide +kernel)) ggX0_replaceTailByJump_X0_terminate
theorem dX0_replaceTailByJump_0 : decode cX0_replaceTailByJump 0 = .ok (.aload_n 0, 1) := by decide +kernel
theorem dX0_replaceTailByJump_1 : decode cX0_replaceTailByJump 1 = .ok (.dup, 1) := by decide +kernel
theorem dX0_replaceTailByJump_2 : decode cX0_replaceTailByJump 2 = .ok (.getfield 27, 3) := by decide +kernel
theorem dX0_replaceTailByJump_5 : decode cX0_replaceTailByJump 5 = .ok (.iload_n 1, 1) := by decide +kernel
theorem dX0_replaceTailByJump_6 : decode cX0_replaceTailByJump 6 = .ok (.isub, 1) := by decide +kernel
theorem dX0_replaceTailByJump_7 : decode cX0_replaceTailByJump 7 = .ok (.putfield 27, 3) := by decide +kernel
theorem dX0_replaceTailByJump_10 : decode cX0_replaceTailByJump 10 = .ok (.aload_n 0, 1) := by decide +kernel
theorem dX0_replaceTailByJump_11 : decode cX0_replaceTailByJump 11 = .ok (.iconst 0, 1) := by decide +kernel
theorem dX0_replaceTailByJump_12 : decode cX0_replaceTailByJump 12 = .ok (.iload_n 2, 1) := by decide +kernel
theorem dX0_replaceTailByJump_13 : decode cX0_replaceTailByJump 13 = .ok (.iconst 0, 1) := by decide +kernel
theorem dX0_replaceTailByJump_14 : decode cX0_replaceTailByJump 14 = .ok (.iconst 0, 1) := by decide +kernel
theorem dX0_replaceTailByJump_15 : decode cX0_replaceTailByJump 15 = .ok (.invokevirtual 37, 3) := by decide +kernel
theorem dX0_replaceTailByJump_18 : decode cX0_replaceTailByJump 18 = .ok (.pop, 1) := by decide +kernel
theorem dX0_replaceTailByJump_19 : decode cX0_replaceTailByJump 19 = .ok (.return_, 1) := by decide +kernel
set_option maxRecDepth 20000 in
theorem ggX0_replaceTailByParameter_X0_replaceTailByJump : GoodIn wsX0_replaceTailByParameter wsX0_replaceTailByJump := goodIn_r _ [8, 2, 9, 10, 11, 7, 12, 13, 14, 22, 23, 24, 25, 26, 27, 28, 29] (by decide +kernel) (by decide +kernel)
set_option maxRecDepth 20000 in
theorem gX0_replaceTailByParameter_X0_replaceTailByJump : GoodIn wsX0_replaceTailByParameter (wsV RX0 49 RX0 yX0_replaceTailByJump wsX0_replaceTailByJump) := goodIn_app (goodIn_of _ (by decide +kernel)) ggX0_replaceTailByParameter_X0_replaceTailByJump
set_option maxRecDepth 20000 in
theorem ggX0_replaceTailByParameter_X0_append : GoodIn wsX0_replaceTailByParameter wsX0_append := goodIn_r _ [18, 2, 19, 20, 1, 21, 3, 22, 23, 24, 25, 26, 27, 28, 29] (by decide +kernel) (by decide +kernel)
set_option maxRecDepth 20000 in
theorem gX0_replaceTailByParameter_X0_append : GoodIn wsX0_replaceTailByParameter (wsV RX0 45 RX0 yX0_append wsX0_append) := goodIn_app (goodIn_of _ (by decide +kernel)) ggX0_replaceTailByParameter_X0_append
theorem dX0_replaceTailByParameter_0 : decode cX0_replaceTailByParameter 0 = .ok (.aload_n 0, 1) := by decide +kernel
theorem dX0_replaceTailByParameter_1 : decode cX0_replaceTailByParameter 1 = .ok (.getfield 18, 3) := by decide +kernel
theorem dX0_replaceTailByParameter_4 : decode cX0_replaceTailByParameter 4 = .ok (.aload_n 0, 1) := by decide +kernel
theorem dX0_replaceTailByParameter_5 : decode cX0_replaceTailByParameter 5 = .ok (.getfield 27, 3) := by decide +kernel
theorem dX0_replaceTailByParameter_8 : decode cX0_replaceTailByParameter 8 = .ok (.iload_n 2, 1) := by decide +kernel
theorem dX0_replaceTailByParameter_9 : decode cX0_replaceTailByParameter 9 = .ok (.isub, 1) := by decide +kernel
theorem dX0_replaceTailByParameter_10 : decode cX0_replaceTailByParameter 10 = .ok (.iaload, 1) := by decide +kernel
theorem dX0_replaceTailByParameter_11 : decode cX0_replaceTailByParameter 11 = .ok (.istore 4, 2) := by decide +kernel
theorem dX0_replaceTailByParameter_13 : decode cX0_replaceTailByParameter 13 = .ok (.aload_n 0, 1) := by decide +kernel
theorem dX0_replaceTailByParameter_14 : decode cX0_replaceTailByParameter 14 = .ok (.getfield 24, 3) := by decide +kernel
theorem dX0_replaceTailByParameter_17 : decode cX0_replaceTailByParameter 17 = .ok (.aload_n 0, 1) := by decide +kernel
theorem dX0_replaceTailByParameter_18 : decode cX0_replaceTailByParameter 18 = .ok (.getfield 27, 3) := by decide +kernel
theorem dX0_replaceTailByParameter_21 : decode cX0_replaceTailByParameter 21 = .ok (.iload_n 2, 1) := by decide +kernel
theorem dX0_replaceTailByParameter_22 : decode cX0_replaceTailByParameter 22 = .ok (.isub, 1) := by decide +kernel
theorem dX0_replaceTailByParameter_23 : decode cX0_replaceTailByParameter 23 = .ok (.iaload, 1) := by decide +kernel
theorem dX0_replaceTailByParameter_24 : decode cX0_replaceTailByParameter 24 = .ok (.istore 5, 2) := by decide +kernel
theorem dX0_replaceTailByParameter_26 : decode cX0_replaceTailByParameter 26 = .ok (.aload_n 0, 1) := by decide +kernel
theorem dX0_replaceTailByParameter_27 : decode cX0_replaceTailByParameter 27 = .ok (.iload_n 1, 1) := by decide +kernel
theorem dX0_replaceTailByParameter_28 : decode cX0_replaceTailByParameter 28 = .ok (.iload_n 3, 1) := by decide +kernel
theorem dX0_replaceTailByParameter_29 : decode cX0_replaceTailByParameter 29 = .ok (.invokevirtual 49, 3) := by decide +kernel
theorem dX0_replaceTailByParameter_32 : decode cX0_replaceTailByParameter 32 = .ok (.aload_n 0, 1) := by decide +kernel
theorem dX0_replaceTailByParameter_33 : decode cX0_replaceTailByParameter 33 = .ok (.iconst 0, 1) := by decide +kernel
theorem dX0_replaceTailByParameter_34 : decode cX0_replaceTailByParameter 34 = .ok (.bipush 7, 2) := by decide +kernel
theorem dX0_replaceTailByParameter_36 : decode cX0_replaceTailByParameter 36 = .ok (.iload 4, 2) := by decide +kernel
theorem dX0_replaceTailByParameter_38 : decode cX0_replaceTailByParameter 38 = .ok (.iconst 0, 1) := by decide +kernel
theorem dX0_replaceTailByParameter_39 : decode cX0_replaceTailByParameter 39 = .ok (.iload 5, 2) := by decide +kernel
theorem dX0_replaceTailByParameter_41 : decode cX0_replaceTailByParameter 41 = .ok (.invokevirtual 45, 3) := by decide +kernel
theorem dX0_replaceTailByParameter_44 : decode cX0_replaceTailByParameter 44 = .ok (.pop, 1) := by decide +kernel
theorem dX0_replaceTailByParameter_45 : decode cX0_replaceTailByParameter 45 = .ok (.return_, 1) := by decide +kernel
theorem dX0_takeParameterAt_0 : decode cX0_takeParameterAt 0 = .ok (.aload_n 0, 1) := by decide +kernel
theorem dX0_takeParameterAt_1 : decode cX0_takeParameterAt 1 = .ok (.getfield 9, 3) := by decide +kernel
theorem dX0_takeParameterAt_4 : decode cX0_takeParameterAt 4 = .ok (.aload_n 0, 1) := by decide +kernel
theorem dX0_takeParameterAt_5 : decode cX0_takeParameterAt 5 = .ok (.getfield 27, 3) := by decide +kernel
theorem dX0_takeParameterAt_8 : decode cX0_takeParameterAt 8 = .ok (.iload_n 1, 1) := by decide +kernel
theorem dX0_takeParameterAt_9 : decode cX0_takeParameterAt 9 = .ok (.isub, 1) := by decide +kernel
theorem dX0_takeParameterAt_10 : decode cX0_takeParameterAt 10 = .ok (.iconst 1, 1) := by decide +kernel
theorem dX0_takeParameterAt_11 : decode cX0_takeParameterAt 11 = .ok (.iastore, 1) := by decide +kernel
theorem dX0_takeParameterAt_12 : decode cX0_takeParameterAt 12 = .ok (.aload_n 0, 1) := by decide +kernel
theorem dX0_takeParameterAt_13 : decode cX0_takeParameterAt 13 = .ok (.getfield 18, 3) := by decide +kernel
theorem dX0_takeParameterAt_16 : decode cX0_takeParameterAt 16 = .ok (.aload_n 0, 1) := by decide +kernel
theorem dX0_takeParameterAt_17 : decode cX0_takeParameterAt 17 = .ok (.getfield 27, 3) := by decide +kernel
theorem dX0_takeParameterAt_20 : decode cX0_takeParameterAt 20 = .ok (.iload_n 1, 1) := by decide +kernel
theorem dX0_takeParameterAt_21 : decode cX0_takeParameterAt 21 = .ok (.isub, 1) := by decide +kernel
theorem dX0_takeParameterAt_22 : decode cX0_takeParameterAt 22 = .ok (.bipush 7, 2) := by decide +kernel
theorem dX0_takeParameterAt_24 : decode cX0_takeParameterAt 24 = .ok (.iastore, 1) := by decide +kernel
theorem dX0_takeParameterAt_25 : decode cX0_takeParameterAt 25 = .ok (.return_, 1) := by decide +kernel
theorem dX0_hashOfTail_0 : decode cX0_hashOfTail 0 = .ok (.bipush 17, 2) := by decide +kernel
theorem dX0_hashOfTail_2 : decode cX0_hashOfTail 2 = .ok (.istore_n 2, 1) := by decide +kernel
theorem dX0_hashOfTail_3 : decode cX0_hashOfTail 3 = .ok (.aload_n 0, 1) := by decide +kernel
theorem dX0_hashOfTail_4 : decode cX0_hashOfTail 4 = .ok (.getfield 27, 3) := by decide +kernel
theorem dX0_hashOfTail_7 : decode cX0_hashOfTail 7 = .ok (.iload_n 1, 1) := by decide +kernel
theorem dX0_hashOfTail_8 : decode cX0_hashOfTail 8 = .ok (.isub, 1) := by decide +kernel
theorem dX0_hashOfTail_9 : decode cX0_hashOfTail 9 = .ok (.istore_n 3, 1) := by decide +kernel
theorem dX0_hashOfTail_10 : decode cX0_hashOfTail 10 = .ok (.iload_n 3, 1) := by decide +kernel
theorem dX0_hashOfTail_11 : decode cX0_hashOfTail 11 = .ok (.aload_n 0, 1) := by decide +kernel
theorem dX0_hashOfTail_12 : decode cX0_hashOfTail 12 = .ok (.getfield 27, 3) := by decide +kernel
theorem dX0_hashOfTail_15 : decode cX0_hashOfTail 15 = .ok (.if_icmp .ge 57, 3) := by decide +kernel
theorem dX0_hashOfTail_18 : decode cX0_hashOfTail 18 = .ok (.bipush 31, 2) := by decide +kernel
theorem dX0_hashOfTail_20 : decode cX0_hashOfTail 20 = .ok (.iload_n 2, 1) := by decide +kernel
theorem dX0_hashOfTail_21 : decode cX0_hashOfTail 21 = .ok (.imul, 1) := by decide +kernel
theorem dX0_hashOfTail_22 : decode cX0_hashOfTail 22 = .ok (.aload_n 0, 1) := by decide +kernel
theorem dX0_hashOfTail_23 : decode cX0_hashOfTail 23 = .ok (.getfield 9, 3) := by decide +kernel
theorem dX0_hashOfTail_26 : decode cX0_hashOfTail 26 = .ok (.iload_n 3, 1) := by decide +kernel
theorem dX0_hashOfTail_27 : decode cX0_hashOfTail 27 = .ok (.iaload, 1) := by decide +kernel
theorem dX0_hashOfTail_28 : decode cX0_hashOfTail 28 = .ok (.iadd, 1) := by decide +kernel
theorem dX0_hashOfTail_29 : decode cX0_hashOfTail 29 = .ok (.istore_n 2, 1) := by decide +kernel
theorem dX0_hashOfTail_30 : decode cX0_hashOfTail 30 = .ok (.bipush 31, 2) := by decide +kernel
theorem dX0_hashOfTail_32 : decode cX0_hashOfTail 32 = .ok (.iload_n 2, 1) := by decide +kernel
theorem dX0_hashOfTail_33 : decode cX0_hashOfTail 33 = .ok (.imul, 1) := by decide +kernel
theorem dX0_hashOfTail_34 : decode cX0_hashOfTail 34 = .ok (.aload_n 0, 1) := by decide +kernel
theorem dX0_hashOfTail_35 : decode cX0_hashOfTail 35 = .ok (.getfield 15, 3) := by decide +kernel
theorem dX0_hashOfTail_38 : decode cX0_hashOfTail 38 = .ok (.iload_n 3, 1) := by decide +kernel
theorem dX0_hashOfTail_39 : decode cX0_hashOfTail 39 = .ok (.iaload, 1) := by decide +kernel
theorem dX0_hashOfTail_40 : decode cX0_hashOfTail 40 = .ok (.iadd, 1) := by decide +kernel
theorem dX0_hashOfTail_41 : decode cX0_hashOfTail 41 = .ok (.istore_n 2, 1) := by decide +kernel
theorem dX0_hashOfTail_42 : decode cX0_hashOfTail 42 = .ok (.bipush 31, 2) := by decide +kernel
theorem dX0_hashOfTail_44 : decode cX0_hashOfTail 44 = .ok (.iload_n 2, 1) := by decide +kernel
theorem dX0_hashOfTail_45 : decode cX0_hashOfTail 45 = .ok (.imul, 1) := by decide +kernel
theorem dX0_hashOfTail_46 : decode cX0_hashOfTail 46 = .ok (.aload_n 0, 1) := by decide +kernel
theorem dX0_hashOfTail_47 : decode cX0_hashOfTail 47 = .ok (.getfield 18, 3) := by decide +kernel
theorem dX0_hashOfTail_50 : decode cX0_hashOfTail 50 = .ok (.iload_n 3, 1) := by decide +kernel
theorem dX0_hashOfTail_51 : decode cX0_hashOfTail 51 = .ok (.iaload, 1) := by decide +kernel
theorem dX0_hashOfTail_52 : decode cX0_hashOfTail 52 = .ok (.iadd, 1) := by decide +kernel
theorem dX0_hashOfTail_53 : decode cX0_hashOfTail 53 = .ok (.istore_n 2, 1) := by decide +kernel
theorem dX0_hashOfTail_54 : decode cX0_hashOfTail 54 = .ok (.bipush 31, 2) := by decide +kernel
theorem dX0_hashOfTail_56 : decode cX0_hashOfTail 56 = .ok (.iload_n 2, 1) := by decide +kernel
theorem dX0_hashOfTail_57 : decode cX0_hashOfTail 57 = .ok (.imul, 1) := by decide +kernel
theorem dX0_hashOfTail_58 : decode cX0_hashOfTail 58 = .ok (.aload_n 0, 1) := by decide +kernel
theorem dX0_hashOfTail_59 : decode cX0_hashOfTail 59 = .ok (.getfield 21, 3) := by decide +kernel
theorem dX0_hashOfTail_62 : decode cX0_hashOfTail 62 = .ok (.iload_n 3, 1) := by decide +kernel
theorem dX0_hashOfTail_63 : decode cX0_hashOfTail 63 = .ok (.iaload, 1) := by decide +kernel
theorem dX0_hashOfTail_64 : decode cX0_hashOfTail 64 = .ok (.iadd, 1) := by decide +kernel
theorem dX0_hashOfTail_65 : decode cX0_hashOfTail 65 = .ok (.istore_n 2, 1) := by decide +kernel
theorem dX0_hashOfTail_66 : decode cX0_hashOfTail 66 = .ok (.iinc 3 1, 3) := by decide +kernel
theorem dX0_hashOfTail_69 : decode cX0_hashOfTail 69 = .ok (.goto (-59), 3) := by decide +kernel
theorem dX0_hashOfTail_72 : decode cX0_hashOfTail 72 = .ok (.bipush 31, 2) := by decide +kernel
theorem dX0_hashOfTail_74 : decode cX0_hashOfTail 74 = .ok (.iload_n 2, 1) := by decide +kernel
theorem dX0_hashOfTail_75 : decode cX0_hashOfTail 75 = .ok (.imul, 1) := by decide +kernel
theorem dX0_hashOfTail_76 : decode cX0_hashOfTail 76 = .ok (.aload_n 0, 1) := by decide +kernel
theorem dX0_hashOfTail_77 : decode cX0_hashOfTail 77 = .ok (.getfield 31, 3) := by decide +kernel
theorem dX0_hashOfTail_80 : decode cX0_hashOfTail 80 = .ok (.iadd, 1) := by decide +kernel
theorem dX0_hashOfTail_81 : decode cX0_hashOfTail 81 = .ok (.istore_n 2, 1) := by decide +kernel
theorem dX0_hashOfTail_82 : decode cX0_hashOfTail 82 = .ok (.iconst 0, 1) := by decide +kernel
theorem dX0_hashOfTail_83 : decode cX0_hashOfTail 83 = .ok (.istore_n 3, 1) := by decide +kernel
theorem dX0_hashOfTail_84 : decode cX0_hashOfTail 84 = .ok (.iload_n 3, 1) := by decide +kernel
theorem dX0_hashOfTail_85 : decode cX0_hashOfTail 85 = .ok (.iconst 3, 1) := by decide +kernel
theorem dX0_hashOfTail_86 : decode cX0_hashOfTail 86 = .ok (.if_icmp .ge 21, 3) := by decide +kernel
theorem dX0_hashOfTail_89 : decode cX0_hashOfTail 89 = .ok (.bipush 31, 2) := by decide +kernel
theorem dX0_hashOfTail_91 : decode cX0_hashOfTail 91 = .ok (.iload_n 2, 1) := by decide +kernel
theorem dX0_hashOfTail_92 : decode cX0_hashOfTail 92 = .ok (.imul, 1) := by decide +kernel
theorem dX0_hashOfTail_93 : decode cX0_hashOfTail 93 = .ok (.aload_n 0, 1) := by decide +kernel
theorem dX0_hashOfTail_94 : decode cX0_hashOfTail 94 = .ok (.getfield 34, 3) := by decide +kernel
theorem dX0_hashOfTail_97 : decode cX0_hashOfTail 97 = .ok (.iload_n 3, 1) := by decide +kernel
theorem dX0_hashOfTail_98 : decode cX0_hashOfTail 98 = .ok (.iaload, 1) := by decide +kernel
theorem dX0_hashOfTail_99 : decode cX0_hashOfTail 99 = .ok (.iadd, 1) := by decide +kernel
theorem dX0_hashOfTail_100 : decode cX0_hashOfTail 100 = .ok (.istore_n 2, 1) := by decide +kernel
theorem dX0_hashOfTail_101 : decode cX0_hashOfTail 101 = .ok (.iinc 3 1, 3) := by decide +kernel
theorem dX0_hashOfTail_104 : decode cX0_hashOfTail 104 = .ok (.goto (-20), 3) := by decide +kernel
theorem dX0_hashOfTail_107 : decode cX0_hashOfTail 107 = .ok (.iload_n 2, 1) := by decide +kernel
theorem dX0_hashOfTail_108 : decode cX0_hashOfTail 108 = .ok (.ldc 53, 2) := by decide +kernel
theorem dX0_hashOfTail_110 : decode cX0_hashOfTail 110 = .ok (.iand, 1) := by decide +kernel
theorem dX0_hashOfTail_111 : decode cX0_hashOfTail 111 = .ok (.ireturn, 1) := by decide +kernel
set_option maxRecDepth 20000 in
theorem ggX0_tailSharedWith_X0_hasTerminatorOf : GoodIn wsX0_tailSharedWith wsX0_hasTerminatorOf := goodIn_r _ [10, 11, 12, 21, 22, 23, 24, 25, 26, 27, 28] (by decide +kernel) (by decide +kernel)
set_option maxRecDepth 20000 in
theorem gX0_tailSharedWith_X0_hasTerminatorOf : GoodIn wsX0_tailSharedWith (wsV RX0 54 RX0 yX0_hasTerminatorOf wsX0_hasTerminatorOf) := goodIn_app (goodIn_of _ (by decide +kernel)) ggX0_tailSharedWith_X0_hasTerminatorOf
set_option maxRecDepth 20000 in
theorem ggX0_tailSharedWith_X0_isEqualAt : GoodIn wsX0_tailSharedWith wsX0_isEqualAt := goodIn_r _ [16, 1, 17, 18, 19, 20, 21, 22, 23, 24, 25, 26, 27, 28] (by decide +kernel) (by decide +kernel)
set_option maxRecDepth 20000 in
theorem gX0_tailSharedWith_X0_isEqualAt : GoodIn wsX0_tailSharedWith (wsV RX0 64 RX0 yX0_isEqualAt wsX0_isEqualAt) := goodIn_app (goodIn_of _ (by decide +kernel)) ggX0_tailSharedWith_X0_isEqualAt
theorem dX0_tailSharedWith_0 : decode cX0_tailSharedWith 0 = .ok (.aload_n 0, 1) := by decide +kernel
theorem dX0_tailSharedWith_1 : decode cX0_tailSharedWith 1 = .ok (.aload_n 1, 1) := by decide +kernel
theorem dX0_tailSharedWith_2 : decode cX0_tailSharedWith 2 = .ok (.invokevirtual 54, 3) := by decide +kernel
theorem dX0_tailSharedWith_5 : decode cX0_tailSharedWith 5 = .ok (.ifCond .ne 7, 3) := by decide +kernel
theorem dX0_tailSharedWith_8 : decode cX0_tailSharedWith 8 = .ok (.sipush (-1005), 3) := by decide +kernel
theorem dX0_tailSharedWith_11 : decode cX0_tailSharedWith 11 = .ok (.ireturn, 1) := by decide +kernel
theorem dX0_tailSharedWith_12 : decode cX0_tailSharedWith 12 = .ok (.aload_n 0, 1) := by decide +kernel
theorem dX0_tailSharedWith_13 : decode cX0_tailSharedWith 13 = .ok (.getfield 27, 3) := by decide +kernel
theorem dX0_tailSharedWith_16 : decode cX0_tailSharedWith 16 = .ok (.aload_n 1, 1) := by decide +kernel
theorem dX0_tailSharedWith_17 : decode cX0_tailSharedWith 17 = .ok (.getfield 27, 3) := by decide +kernel
theorem dX0_tailSharedWith_20 : decode cX0_tailSharedWith 20 = .ok (.invokestatic 58, 3) := by decide +kernel
theorem dX0_tailSharedWith_23 : decode cX0_tailSharedWith 23 = .ok (.istore_n 2, 1) := by decide +kernel
theorem dX0_tailSharedWith_24 : decode cX0_tailSharedWith 24 = .ok (.iconst 0, 1) := by decide +kernel
theorem dX0_tailSharedWith_25 : decode cX0_tailSharedWith 25 = .ok (.istore_n 3, 1) := by decide +kernel
theorem dX0_tailSharedWith_26 : decode cX0_tailSharedWith 26 = .ok (.iload_n 3, 1) := by decide +kernel
theorem dX0_tailSharedWith_27 : decode cX0_tailSharedWith 27 = .ok (.iload_n 2, 1) := by decide +kernel
theorem dX0_tailSharedWith_28 : decode cX0_tailSharedWith 28 = .ok (.if_icmp .ge 20, 3) := by decide +kernel
theorem dX0_tailSharedWith_31 : decode cX0_tailSharedWith 31 = .ok (.aload_n 0, 1) := by decide +kernel
theorem dX0_tailSharedWith_32 : decode cX0_tailSharedWith 32 = .ok (.aload_n 1, 1) := by decide +kernel
theorem dX0_tailSharedWith_33 : decode cX0_tailSharedWith 33 = .ok (.iload_n 3, 1) := by decide +kernel
theorem dX0_tailSharedWith_34 : decode cX0_tailSharedWith 34 = .ok (.iconst 1, 1) := by decide +kernel
theorem dX0_tailSharedWith_35 : decode cX0_tailSharedWith 35 = .ok (.iadd, 1) := by decide +kernel
theorem dX0_tailSharedWith_36 : decode cX0_tailSharedWith 36 = .ok (.invokevirtual 64, 3) := by decide +kernel
theorem dX0_tailSharedWith_39 : decode cX0_tailSharedWith 39 = .ok (.ifCond .eq 9, 3) := by decide +kernel
theorem dX0_tailSharedWith_42 : decode cX0_tailSharedWith 42 = .ok (.iinc 3 1, 3) := by decide +kernel
theorem dX0_tailSharedWith_45 : decode cX0_tailSharedWith 45 = .ok (.goto (-19), 3) := by decide +kernel
theorem dX0_tailSharedWith_48 : decode cX0_tailSharedWith 48 = .ok (.iload_n 3, 1) := by decide +kernel
theorem dX0_tailSharedWith_49 : decode cX0_tailSharedWith 49 = .ok (.ireturn, 1) := by decide +kernel
set_option maxRecDepth 20000 in
theorem ggX0_parameterTailWith_X0_hasTerminatorOf : GoodIn wsX0_parameterTailWith wsX0_hasTerminatorOf := goodIn_r _ [11, 1, 12, 33, 34, 35, 36, 37, 38, 39, 40] (by decide +kernel) (by decide +kernel)
set_option maxRecDepth 20000 in
theorem gX0_parameterTailWith_X0_hasTerminatorOf : GoodIn wsX0_parameterTailWith (wsV RX0 54 RX0 yX0_hasTerminatorOf wsX0_hasTerminatorOf) := goodIn_app (goodIn_of _ (by decide +kernel)) ggX0_parameterTailWith_X0_hasTerminatorOf
set_option maxRecDepth 20000 in
theorem ggX0_parameterTailWith_X0_fitsParameterTail : GoodIn wsX0_parameterTailWith wsX0_fitsParameterTail := goodIn_r _ [16, 17, 18, 19, 10, 20, 2, 21, 22, 23, 24, 25, 26, 27, 28, 29, 30, 31, 32, 33, 34, 35, 36, 37, 38, 39, 40] (by decide +kernel) (by decide +kernel)
set_option maxRecDepth 20000 in
theorem gX0_parameterTailWith_X0_fitsParameterTail : GoodIn wsX0_parameterTailWith (wsV RX0 68 RX0 yX0_fitsParameterTail wsX0_fitsParameterTail) := goodIn_app (goodIn_of _ (by decide +kernel)) ggX0_parameterTailWith_X0_fitsParameterTail
set_option maxRecDepth 20000 in
theorem ggX0_parameterTailWith_X0_isEqualAt : GoodIn wsX0_parameterTailWith wsX0_isEqualAt := goodIn_r _ [28, 2, 24, 21, 23, 22, 33, 34, 35, 36, 37, 38, 39, 40] (by decide +kernel) (by decide +kernel)
set_option maxRecDepth 20000 in
theorem gX0_parameterTailWith_X0_isEqualAt : GoodIn wsX0_parameterTailWith (wsV RX0 64 RX0 yX0_isEqualAt wsX0_isEqualAt) := goodIn_app (goodIn_of _ (by decide +kernel)) ggX0_parameterTailWith_X0_isEqualAt
theorem dX0_parameterTailWith_0 : decode cX0_parameterTailWith 0 = .ok (.aload_n 0, 1) := by decide +kernel
theorem dX0_parameterTailWith_1 : decode cX0_parameterTailWith 1 = .ok (.getfield 31, 3) := by decide +kernel
theorem dX0_parameterTailWith_4 : decode cX0_parameterTailWith 4 = .ok (.iconst 2, 1) := by decide +kernel
theorem dX0_parameterTailWith_5 : decode cX0_parameterTailWith 5 = .ok (.if_icmp .ne 11, 3) := by decide +kernel
theorem dX0_parameterTailWith_8 : decode cX0_parameterTailWith 8 = .ok (.aload_n 0, 1) := by decide +kernel
theorem dX0_parameterTailWith_9 : decode cX0_parameterTailWith 9 = .ok (.aload_n 1, 1) := by decide +kernel
theorem dX0_parameterTailWith_10 : decode cX0_parameterTailWith 10 = .ok (.invokevirtual 54, 3) := by decide +kernel
theorem dX0_parameterTailWith_13 : decode cX0_parameterTailWith 13 = .ok (.ifCond .ne 7, 3) := by decide +kernel
theorem dX0_parameterTailWith_16 : decode cX0_parameterTailWith 16 = .ok (.sipush (-1005), 3) := by decide +kernel
theorem dX0_parameterTailWith_19 : decode cX0_parameterTailWith 19 = .ok (.ireturn, 1) := by decide +kernel
theorem dX0_parameterTailWith_20 : decode cX0_parameterTailWith 20 = .ok (.aload_n 0, 1) := by decide +kernel
theorem dX0_parameterTailWith_21 : decode cX0_parameterTailWith 21 = .ok (.getfield 27, 3) := by decide +kernel
theorem dX0_parameterTailWith_24 : decode cX0_parameterTailWith 24 = .ok (.aload_n 1, 1) := by decide +kernel
theorem dX0_parameterTailWith_25 : decode cX0_parameterTailWith 25 = .ok (.getfield 27, 3) := by decide +kernel
theorem dX0_parameterTailWith_28 : decode cX0_parameterTailWith 28 = .ok (.invokestatic 58, 3) := by decide +kernel
theorem dX0_parameterTailWith_31 : decode cX0_parameterTailWith 31 = .ok (.istore_n 2, 1) := by decide +kernel
theorem dX0_parameterTailWith_32 : decode cX0_parameterTailWith 32 = .ok (.iconst 0, 1) := by decide +kernel
theorem dX0_parameterTailWith_33 : decode cX0_parameterTailWith 33 = .ok (.istore_n 3, 1) := by decide +kernel
theorem dX0_parameterTailWith_34 : decode cX0_parameterTailWith 34 = .ok (.iconst 0, 1) := by decide +kernel
theorem dX0_parameterTailWith_35 : decode cX0_parameterTailWith 35 = .ok (.istore 4, 2) := by decide +kernel
theorem dX0_parameterTailWith_37 : decode cX0_parameterTailWith 37 = .ok (.iload_n 3, 1) := by decide +kernel
theorem dX0_parameterTailWith_38 : decode cX0_parameterTailWith 38 = .ok (.iload_n 2, 1) := by decide +kernel
theorem dX0_parameterTailWith_39 : decode cX0_parameterTailWith 39 = .ok (.if_icmp .ge 43, 3) := by decide +kernel
theorem dX0_parameterTailWith_42 : decode cX0_parameterTailWith 42 = .ok (.aload_n 0, 1) := by decide +kernel
theorem dX0_parameterTailWith_43 : decode cX0_parameterTailWith 43 = .ok (.aload_n 1, 1) := by decide +kernel
theorem dX0_parameterTailWith_44 : decode cX0_parameterTailWith 44 = .ok (.iload_n 3, 1) := by decide +kernel
theorem dX0_parameterTailWith_45 : decode cX0_parameterTailWith 45 = .ok (.iconst 1, 1) := by decide +kernel
theorem dX0_parameterTailWith_46 : decode cX0_parameterTailWith 46 = .ok (.iadd, 1) := by decide +kernel
theorem dX0_parameterTailWith_47 : decode cX0_parameterTailWith 47 = .ok (.iload 4, 2) := by decide +kernel
theorem dX0_parameterTailWith_49 : decode cX0_parameterTailWith 49 = .ok (.invokevirtual 68, 3) := by decide +kernel
theorem dX0_parameterTailWith_52 : decode cX0_parameterTailWith 52 = .ok (.ifCond .eq 30, 3) := by decide +kernel
theorem dX0_parameterTailWith_55 : decode cX0_parameterTailWith 55 = .ok (.iinc 3 1, 3) := by decide +kernel
theorem dX0_parameterTailWith_58 : decode cX0_parameterTailWith 58 = .ok (.iload 4, 2) := by decide +kernel
theorem dX0_parameterTailWith_60 : decode cX0_parameterTailWith 60 = .ok (.ifCond .ne 12, 3) := by decide +kernel
theorem dX0_parameterTailWith_63 : decode cX0_parameterTailWith 63 = .ok (.aload_n 0, 1) := by decide +kernel
theorem dX0_parameterTailWith_64 : decode cX0_parameterTailWith 64 = .ok (.aload_n 1, 1) := by decide +kernel
theorem dX0_parameterTailWith_65 : decode cX0_parameterTailWith 65 = .ok (.iload_n 3, 1) := by decide +kernel
theorem dX0_parameterTailWith_66 : decode cX0_parameterTailWith 66 = .ok (.invokevirtual 64, 3) := by decide +kernel
theorem dX0_parameterTailWith_69 : decode cX0_parameterTailWith 69 = .ok (.ifCond .ne 7, 3) := by decide +kernel
theorem dX0_parameterTailWith_72 : decode cX0_parameterTailWith 72 = .ok (.iconst 1, 1) := by decide +kernel
theorem dX0_parameterTailWith_73 : decode cX0_parameterTailWith 73 = .ok (.goto 4, 3) := by decide +kernel
theorem dX0_parameterTailWith_76 : decode cX0_parameterTailWith 76 = .ok (.iconst 0, 1) := by decide +kernel
theorem dX0_parameterTailWith_77 : decode cX0_parameterTailWith 77 = .ok (.istore 4, 2) := by decide +kernel
theorem dX0_parameterTailWith_79 : decode cX0_parameterTailWith 79 = .ok (.goto (-42), 3) := by decide +kernel
theorem dX0_parameterTailWith_82 : decode cX0_parameterTailWith 82 = .ok (.iload 4, 2) := by decide +kernel
theorem dX0_parameterTailWith_84 : decode cX0_parameterTailWith 84 = .ok (.ifCond .eq 7, 3) := by decide +kernel
theorem dX0_parameterTailWith_87 : decode cX0_parameterTailWith 87 = .ok (.iload_n 3, 1) := by decide +kernel
theorem dX0_parameterTailWith_88 : decode cX0_parameterTailWith 88 = .ok (.goto 6, 3) := by decide +kernel
theorem dX0_parameterTailWith_91 : decode cX0_parameterTailWith 91 = .ok (.sipush (-1005), 3) := by decide +kernel
theorem dX0_parameterTailWith_94 : decode cX0_parameterTailWith 94 = .ok (.ireturn, 1) := by decide +kernel
set_option maxRecDepth 20000 in
theorem ggX0_fitsParameterTail_X0_usesParameterAt : GoodIn wsX0_fitsParameterTail wsX0_usesParameterAt := goodIn_r _ [5, 6, 7, 8, 9, 10, 19, 20, 21, 22, 23, 24, 25, 26] (by decide +kernel) (by decide +kernel)
set_option maxRecDepth 20000 in
theorem gX0_fitsParameterTail_X0_usesParameterAt : GoodIn wsX0_fitsParameterTail (wsV RX0 72 RX0 yX0_usesParameterAt wsX0_usesParameterAt) := goodIn_app (goodIn_of _ (by decide +kernel)) ggX0_fitsParameterTail_X0_usesParameterAt
set_option maxRecDepth 20000 in
theorem ggX0_fitsParameterTail_X0_isEqualAt : GoodIn wsX0_fitsParameterTail wsX0_isEqualAt := goodIn_r _ [14, 6, 10, 7, 9, 8, 19, 20, 21, 22, 23, 24, 25, 26] (by decide +kernel) (by decide +kernel)
set_option maxRecDepth 20000 in
theorem gX0_fitsParameterTail_X0_isEqualAt : GoodIn wsX0_fitsParameterTail (wsV RX0 64 RX0 yX0_isEqualAt wsX0_isEqualAt) := goodIn_app (goodIn_of _ (by decide +kernel)) ggX0_fitsParameterTail_X0_isEqualAt
set_option maxRecDepth 20000 in
theorem ggX0_fitsParameterTail_X0_isSameConstTargetAt : GoodIn wsX0_fitsParameterTail wsX0_isSameConstTargetAt := goodIn_r _ [18, 6, 10, 7, 19, 20, 21, 22, 23, 24, 25, 26] (by decide +kernel) (by decide +kernel)
set_option maxRecDepth 20000 in
theorem gX0_fitsParameterTail_X0_isSameConstTargetAt : GoodIn wsX0_fitsParameterTail (wsV RX0 76 RX0 yX0_isSameConstTargetAt wsX0_isSameConstTargetAt) := goodIn_app (goodIn_of _ (by decide +kernel)) ggX0_fitsParameterTail_X0_isSameConstTargetAt
theorem dX0_fitsParameterTail_0 : decode cX0_fitsParameterTail 0 = .ok (.aload_n 0, 1) := by decide +kernel
theorem dX0_fitsParameterTail_1 : decode cX0_fitsParameterTail 1 = .ok (.iload_n 2, 1) := by decide +kernel
theorem dX0_fitsParameterTail_2 : decode cX0_fitsParameterTail 2 = .ok (.invokevirtual 72, 3) := by decide +kernel
theorem dX0_fitsParameterTail_5 : decode cX0_fitsParameterTail 5 = .ok (.ifCond .ne 11, 3) := by decide +kernel
theorem dX0_fitsParameterTail_8 : decode cX0_fitsParameterTail 8 = .ok (.aload_n 1, 1) := by decide +kernel
theorem dX0_fitsParameterTail_9 : decode cX0_fitsParameterTail 9 = .ok (.iload_n 2, 1) := by decide +kernel
theorem dX0_fitsParameterTail_10 : decode cX0_fitsParameterTail 10 = .ok (.invokevirtual 72, 3) := by decide +kernel
theorem dX0_fitsParameterTail_13 : decode cX0_fitsParameterTail 13 = .ok (.ifCond .eq 5, 3) := by decide +kernel
theorem dX0_fitsParameterTail_16 : decode cX0_fitsParameterTail 16 = .ok (.iconst 0, 1) := by decide +kernel
theorem dX0_fitsParameterTail_17 : decode cX0_fitsParameterTail 17 = .ok (.ireturn, 1) := by decide +kernel
theorem dX0_fitsParameterTail_18 : decode cX0_fitsParameterTail 18 = .ok (.aload_n 0, 1) := by decide +kernel
theorem dX0_fitsParameterTail_19 : decode cX0_fitsParameterTail 19 = .ok (.aload_n 1, 1) := by decide +kernel
theorem dX0_fitsParameterTail_20 : decode cX0_fitsParameterTail 20 = .ok (.iload_n 2, 1) := by decide +kernel
theorem dX0_fitsParameterTail_21 : decode cX0_fitsParameterTail 21 = .ok (.invokevirtual 64, 3) := by decide +kernel
theorem dX0_fitsParameterTail_24 : decode cX0_fitsParameterTail 24 = .ok (.ifCond .ne 16, 3) := by decide +kernel
theorem dX0_fitsParameterTail_27 : decode cX0_fitsParameterTail 27 = .ok (.iload_n 3, 1) := by decide +kernel
theorem dX0_fitsParameterTail_28 : decode cX0_fitsParameterTail 28 = .ok (.ifCond .ne 16, 3) := by decide +kernel
theorem dX0_fitsParameterTail_31 : decode cX0_fitsParameterTail 31 = .ok (.aload_n 0, 1) := by decide +kernel
theorem dX0_fitsParameterTail_32 : decode cX0_fitsParameterTail 32 = .ok (.aload_n 1, 1) := by decide +kernel
theorem dX0_fitsParameterTail_33 : decode cX0_fitsParameterTail 33 = .ok (.iload_n 2, 1) := by decide +kernel
theorem dX0_fitsParameterTail_34 : decode cX0_fitsParameterTail 34 = .ok (.invokevirtual 76, 3) := by decide +kernel
theorem dX0_fitsParameterTail_37 : decode cX0_fitsParameterTail 37 = .ok (.ifCond .eq 7, 3) := by decide +kernel
theorem dX0_fitsParameterTail_40 : decode cX0_fitsParameterTail 40 = .ok (.iconst 1, 1) := by decide +kernel
theorem dX0_fitsParameterTail_41 : decode cX0_fitsParameterTail 41 = .ok (.goto 4, 3) := by decide +kernel
theorem dX0_fitsParameterTail_44 : decode cX0_fitsParameterTail 44 = .ok (.iconst 0, 1) := by decide +kernel
theorem dX0_fitsParameterTail_45 : decode cX0_fitsParameterTail 45 = .ok (.ireturn, 1) := by decide +kernel
theorem dX0_hasTerminatorOf_0 : decode cX0_hasTerminatorOf 0 = .ok (.aload_n 0, 1) := by decide +kernel
theorem dX0_hasTerminatorOf_1 : decode cX0_hasTerminatorOf 1 = .ok (.getfield 31, 3) := by decide +kernel
theorem dX0_hasTerminatorOf_4 : decode cX0_hasTerminatorOf 4 = .ok (.aload_n 1, 1) := by decide +kernel
theorem dX0_hasTerminatorOf_5 : decode cX0_hasTerminatorOf 5 = .ok (.getfield 31, 3) := by decide +kernel
theorem dX0_hasTerminatorOf_8 : decode cX0_hasTerminatorOf 8 = .ok (.if_icmp .ne 52, 3) := by decide +kernel
theorem dX0_hasTerminatorOf_11 : decode cX0_hasTerminatorOf 11 = .ok (.aload_n 0, 1) := by decide +kernel
theorem dX0_hasTerminatorOf_12 : decode cX0_hasTerminatorOf 12 = .ok (.getfield 34, 3) := by decide +kernel
theorem dX0_hasTerminatorOf_15 : decode cX0_hasTerminatorOf 15 = .ok (.iconst 0, 1) := by decide +kernel
theorem dX0_hasTerminatorOf_16 : decode cX0_hasTerminatorOf 16 = .ok (.iaload, 1) := by decide +kernel
theorem dX0_hasTerminatorOf_17 : decode cX0_hasTerminatorOf 17 = .ok (.aload_n 1, 1) := by decide +kernel
theorem dX0_hasTerminatorOf_18 : decode cX0_hasTerminatorOf 18 = .ok (.getfield 34, 3) := by decide +kernel
theorem dX0_hasTerminatorOf_21 : decode cX0_hasTerminatorOf 21 = .ok (.iconst 0, 1) := by decide +kernel
theorem dX0_hasTerminatorOf_22 : decode cX0_hasTerminatorOf 22 = .ok (.iaload, 1) := by decide +kernel
theorem dX0_hasTerminatorOf_23 : decode cX0_hasTerminatorOf 23 = .ok (.if_icmp .ne 37, 3) := by decide +kernel
theorem dX0_hasTerminatorOf_26 : decode cX0_hasTerminatorOf 26 = .ok (.aload_n 0, 1) := by decide +kernel
theorem dX0_hasTerminatorOf_27 : decode cX0_hasTerminatorOf 27 = .ok (.getfield 34, 3) := by decide +kernel
theorem dX0_hasTerminatorOf_30 : decode cX0_hasTerminatorOf 30 = .ok (.iconst 1, 1) := by decide +kernel
theorem dX0_hasTerminatorOf_31 : decode cX0_hasTerminatorOf 31 = .ok (.iaload, 1) := by decide +kernel
theorem dX0_hasTerminatorOf_32 : decode cX0_hasTerminatorOf 32 = .ok (.aload_n 1, 1) := by decide +kernel
theorem dX0_hasTerminatorOf_33 : decode cX0_hasTerminatorOf 33 = .ok (.getfield 34, 3) := by decide +kernel
theorem dX0_hasTerminatorOf_36 : decode cX0_hasTerminatorOf 36 = .ok (.iconst 1, 1) := by decide +kernel
theorem dX0_hasTerminatorOf_37 : decode cX0_hasTerminatorOf 37 = .ok (.iaload, 1) := by decide +kernel
theorem dX0_hasTerminatorOf_38 : decode cX0_hasTerminatorOf 38 = .ok (.if_icmp .ne 22, 3) := by decide +kernel
theorem dX0_hasTerminatorOf_41 : decode cX0_hasTerminatorOf 41 = .ok (.aload_n 0, 1) := by decide +kernel
theorem dX0_hasTerminatorOf_42 : decode cX0_hasTerminatorOf 42 = .ok (.getfield 34, 3) := by decide +kernel
theorem dX0_hasTerminatorOf_45 : decode cX0_hasTerminatorOf 45 = .ok (.iconst 2, 1) := by decide +kernel
theorem dX0_hasTerminatorOf_46 : decode cX0_hasTerminatorOf 46 = .ok (.iaload, 1) := by decide +kernel
theorem dX0_hasTerminatorOf_47 : decode cX0_hasTerminatorOf 47 = .ok (.aload_n 1, 1) := by decide +kernel
theorem dX0_hasTerminatorOf_48 : decode cX0_hasTerminatorOf 48 = .ok (.getfield 34, 3) := by decide +kernel
theorem dX0_hasTerminatorOf_51 : decode cX0_hasTerminatorOf 51 = .ok (.iconst 2, 1) := by decide +kernel
theorem dX0_hasTerminatorOf_52 : decode cX0_hasTerminatorOf 52 = .ok (.iaload, 1) := by decide +kernel
theorem dX0_hasTerminatorOf_53 : decode cX0_hasTerminatorOf 53 = .ok (.if_icmp .ne 7, 3) := by decide +kernel
theorem dX0_hasTerminatorOf_56 : decode cX0_hasTerminatorOf 56 = .ok (.iconst 1, 1) := by decide +kernel
theorem dX0_hasTerminatorOf_57 : decode cX0_hasTerminatorOf 57 = .ok (.goto 4, 3) := by decide +kernel
theorem dX0_hasTerminatorOf_60 : decode cX0_hasTerminatorOf 60 = .ok (.iconst 0, 1) := by decide +kernel
theorem dX0_hasTerminatorOf_61 : decode cX0_hasTerminatorOf 61 = .ok (.ireturn, 1) := by decide +kernel
theorem dX0_isEqualAt_0 : decode cX0_isEqualAt 0 = .ok (.aload_n 0, 1) := by decide +kernel
theorem dX0_isEqualAt_1 : decode cX0_isEqualAt 1 = .ok (.getfield 27, 3) := by decide +kernel
theorem dX0_isEqualAt_4 : decode cX0_isEqualAt 4 = .ok (.iload_n 2, 1) := by decide +kernel
theorem dX0_isEqualAt_5 : decode cX0_isEqualAt 5 = .ok (.isub, 1) := by decide +kernel
theorem dX0_isEqualAt_6 : decode cX0_isEqualAt 6 = .ok (.istore_n 3, 1) := by decide +kernel
theorem dX0_isEqualAt_7 : decode cX0_isEqualAt 7 = .ok (.aload_n 1, 1) := by decide +kernel
theorem dX0_isEqualAt_8 : decode cX0_isEqualAt 8 = .ok (.getfield 27, 3) := by decide +kernel
theorem dX0_isEqualAt_11 : decode cX0_isEqualAt 11 = .ok (.iload_n 2, 1) := by decide +kernel
theorem dX0_isEqualAt_12 : decode cX0_isEqualAt 12 = .ok (.isub, 1) := by decide +kernel
theorem dX0_isEqualAt_13 : decode cX0_isEqualAt 13 = .ok (.istore 4, 2) := by decide +kernel
theorem dX0_isEqualAt_15 : decode cX0_isEqualAt 15 = .ok (.aload_n 0, 1) := by decide +kernel
theorem dX0_isEqualAt_16 : decode cX0_isEqualAt 16 = .ok (.getfield 9, 3) := by decide +kernel
theorem dX0_isEqualAt_19 : decode cX0_isEqualAt 19 = .ok (.iload_n 3, 1) := by decide +kernel
theorem dX0_isEqualAt_20 : decode cX0_isEqualAt 20 = .ok (.iaload, 1) := by decide +kernel
theorem dX0_isEqualAt_21 : decode cX0_isEqualAt 21 = .ok (.aload_n 1, 1) := by decide +kernel
theorem dX0_isEqualAt_22 : decode cX0_isEqualAt 22 = .ok (.getfield 9, 3) := by decide +kernel
theorem dX0_isEqualAt_25 : decode cX0_isEqualAt 25 = .ok (.iload 4, 2) := by decide +kernel
theorem dX0_isEqualAt_27 : decode cX0_isEqualAt 27 = .ok (.iaload, 1) := by decide +kernel
theorem dX0_isEqualAt_28 : decode cX0_isEqualAt 28 = .ok (.if_icmp .ne 55, 3) := by decide +kernel
theorem dX0_isEqualAt_31 : decode cX0_isEqualAt 31 = .ok (.aload_n 0, 1) := by decide +kernel
theorem dX0_isEqualAt_32 : decode cX0_isEqualAt 32 = .ok (.getfield 15, 3) := by decide +kernel
theorem dX0_isEqualAt_35 : decode cX0_isEqualAt 35 = .ok (.iload_n 3, 1) := by decide +kernel
theorem dX0_isEqualAt_36 : decode cX0_isEqualAt 36 = .ok (.iaload, 1) := by decide +kernel
theorem dX0_isEqualAt_37 : decode cX0_isEqualAt 37 = .ok (.aload_n 1, 1) := by decide +kernel
theorem dX0_isEqualAt_38 : decode cX0_isEqualAt 38 = .ok (.getfield 15, 3) := by decide +kernel
theorem dX0_isEqualAt_41 : decode cX0_isEqualAt 41 = .ok (.iload 4, 2) := by decide +kernel
theorem dX0_isEqualAt_43 : decode cX0_isEqualAt 43 = .ok (.iaload, 1) := by decide +kernel
theorem dX0_isEqualAt_44 : decode cX0_isEqualAt 44 = .ok (.if_icmp .ne 39, 3) := by decide +kernel
theorem dX0_isEqualAt_47 : decode cX0_isEqualAt 47 = .ok (.aload_n 0, 1) := by decide +kernel
theorem dX0_isEqualAt_48 : decode cX0_isEqualAt 48 = .ok (.getfield 18, 3) := by decide +kernel
theorem dX0_isEqualAt_51 : decode cX0_isEqualAt 51 = .ok (.iload_n 3, 1) := by decide +kernel
theorem dX0_isEqualAt_52 : decode cX0_isEqualAt 52 = .ok (.iaload, 1) := by decide +kernel
theorem dX0_isEqualAt_53 : decode cX0_isEqualAt 53 = .ok (.aload_n 1, 1) := by decide +kernel
theorem dX0_isEqualAt_54 : decode cX0_isEqualAt 54 = .ok (.getfield 18, 3) := by decide +kernel
theorem dX0_isEqualAt_57 : decode cX0_isEqualAt 57 = .ok (.iload 4, 2) := by decide +kernel
theorem dX0_isEqualAt_59 : decode cX0_isEqualAt 59 = .ok (.iaload, 1) := by decide +kernel
theorem dX0_isEqualAt_60 : decode cX0_isEqualAt 60 = .ok (.if_icmp .ne 23, 3) := by decide +kernel
theorem dX0_isEqualAt_63 : decode cX0_isEqualAt 63 = .ok (.aload_n 0, 1) := by decide +kernel
theorem dX0_isEqualAt_64 : decode cX0_isEqualAt 64 = .ok (.getfield 21, 3) := by decide +kernel
theorem dX0_isEqualAt_67 : decode cX0_isEqualAt 67 = .ok (.iload_n 3, 1) := by decide +kernel
theorem dX0_isEqualAt_68 : decode cX0_isEqualAt 68 = .ok (.iaload, 1) := by decide +kernel
theorem dX0_isEqualAt_69 : decode cX0_isEqualAt 69 = .ok (.aload_n 1, 1) := by decide +kernel
theorem dX0_isEqualAt_70 : decode cX0_isEqualAt 70 = .ok (.getfield 21, 3) := by decide +kernel
theorem dX0_isEqualAt_73 : decode cX0_isEqualAt 73 = .ok (.iload 4, 2) := by decide +kernel
theorem dX0_isEqualAt_75 : decode cX0_isEqualAt 75 = .ok (.iaload, 1) := by decide +kernel
theorem dX0_isEqualAt_76 : decode cX0_isEqualAt 76 = .ok (.if_icmp .ne 7, 3) := by decide +kernel
theorem dX0_isEqualAt_79 : decode cX0_isEqualAt 79 = .ok (.iconst 1, 1) := by decide +kernel
theorem dX0_isEqualAt_80 : decode cX0_isEqualAt 80 = .ok (.goto 4, 3) := by decide +kernel
theorem dX0_isEqualAt_83 : decode cX0_isEqualAt 83 = .ok (.iconst 0, 1) := by decide +kernel
theorem dX0_isEqualAt_84 : decode cX0_isEqualAt 84 = .ok (.ireturn, 1) := by decide +kernel
theorem dX0_isSameConstTargetAt_0 : decode cX0_isSameConstTargetAt 0 = .ok (.aload_n 0, 1) := by decide +kernel
theorem dX0_isSameConstTargetAt_1 : decode cX0_isSameConstTargetAt 1 = .ok (.getfield 27, 3) := by decide +kernel
theorem dX0_isSameConstTargetAt_4 : decode cX0_isSameConstTargetAt 4 = .ok (.iload_n 2, 1) := by decide +kernel
theorem dX0_isSameConstTargetAt_5 : decode cX0_isSameConstTargetAt 5 = .ok (.isub, 1) := by decide +kernel
theorem dX0_isSameConstTargetAt_6 : decode cX0_isSameConstTargetAt 6 = .ok (.istore_n 3, 1) := by decide +kernel
theorem dX0_isSameConstTargetAt_7 : decode cX0_isSameConstTargetAt 7 = .ok (.aload_n 1, 1) := by decide +kernel
theorem dX0_isSameConstTargetAt_8 : decode cX0_isSameConstTargetAt 8 = .ok (.getfield 27, 3) := by decide +kernel
theorem dX0_isSameConstTargetAt_11 : decode cX0_isSameConstTargetAt 11 = .ok (.iload_n 2, 1) := by decide +kernel
theorem dX0_isSameConstTargetAt_12 : decode cX0_isSameConstTargetAt 12 = .ok (.isub, 1) := by decide +kernel
theorem dX0_isSameConstTargetAt_13 : decode cX0_isSameConstTargetAt 13 = .ok (.istore 4, 2) := by decide +kernel
theorem dX0_isSameConstTargetAt_15 : decode cX0_isSameConstTargetAt 15 = .ok (.aload_n 0, 1) := by decide +kernel
theorem dX0_isSameConstTargetAt_16 : decode cX0_isSameConstTargetAt 16 = .ok (.getfield 9, 3) := by decide +kernel
theorem dX0_isSameConstTargetAt_19 : decode cX0_isSameConstTargetAt 19 = .ok (.iload_n 3, 1) := by decide +kernel
theorem dX0_isSameConstTargetAt_20 : decode cX0_isSameConstTargetAt 20 = .ok (.iaload, 1) := by decide +kernel
theorem dX0_isSameConstTargetAt_21 : decode cX0_isSameConstTargetAt 21 = .ok (.ifCond .ne 33, 3) := by decide +kernel
theorem dX0_isSameConstTargetAt_24 : decode cX0_isSameConstTargetAt 24 = .ok (.aload_n 1, 1) := by decide +kernel
theorem dX0_isSameConstTargetAt_25 : decode cX0_isSameConstTargetAt 25 = .ok (.getfield 9, 3) := by decide +kernel
theorem dX0_isSameConstTargetAt_28 : decode cX0_isSameConstTargetAt 28 = .ok (.iload 4, 2) := by decide +kernel
theorem dX0_isSameConstTargetAt_30 : decode cX0_isSameConstTargetAt 30 = .ok (.iaload, 1) := by decide +kernel
theorem dX0_isSameConstTargetAt_31 : decode cX0_isSameConstTargetAt 31 = .ok (.ifCond .ne 23, 3) := by decide +kernel
theorem dX0_isSameConstTargetAt_34 : decode cX0_isSameConstTargetAt 34 = .ok (.aload_n 0, 1) := by decide +kernel
theorem dX0_isSameConstTargetAt_35 : decode cX0_isSameConstTargetAt 35 = .ok (.getfield 15, 3) := by decide +kernel
theorem dX0_isSameConstTargetAt_38 : decode cX0_isSameConstTargetAt 38 = .ok (.iload_n 3, 1) := by decide +kernel
theorem dX0_isSameConstTargetAt_39 : decode cX0_isSameConstTargetAt 39 = .ok (.iaload, 1) := by decide +kernel
theorem dX0_isSameConstTargetAt_40 : decode cX0_isSameConstTargetAt 40 = .ok (.aload_n 1, 1) := by decide +kernel
theorem dX0_isSameConstTargetAt_41 : decode cX0_isSameConstTargetAt 41 = .ok (.getfield 15, 3) := by decide +kernel
theorem dX0_isSameConstTargetAt_44 : decode cX0_isSameConstTargetAt 44 = .ok (.iload 4, 2) := by decide +kernel
theorem dX0_isSameConstTargetAt_46 : decode cX0_isSameConstTargetAt 46 = .ok (.iaload, 1) := by decide +kernel
theorem dX0_isSameConstTargetAt_47 : decode cX0_isSameConstTargetAt 47 = .ok (.if_icmp .ne 7, 3) := by decide +kernel
theorem dX0_isSameConstTargetAt_50 : decode cX0_isSameConstTargetAt 50 = .ok (.iconst 1, 1) := by decide +kernel
theorem dX0_isSameConstTargetAt_51 : decode cX0_isSameConstTargetAt 51 = .ok (.goto 4, 3) := by decide +kernel
theorem dX0_isSameConstTargetAt_54 : decode cX0_isSameConstTargetAt 54 = .ok (.iconst 0, 1) := by decide +kernel
theorem dX0_isSameConstTargetAt_55 : decode cX0_isSameConstTargetAt 55 = .ok (.ireturn, 1) := by decide +kernel
theorem dX0_usesParameterAt_0 : decode cX0_usesParameterAt 0 = .ok (.aload_n 0, 1) := by decide +kernel
theorem dX0_usesParameterAt_1 : decode cX0_usesParameterAt 1 = .ok (.getfield 27, 3) := by decide +kernel
theorem dX0_usesParameterAt_4 : decode cX0_usesParameterAt 4 = .ok (.iload_n 1, 1) := by decide +kernel
theorem dX0_usesParameterAt_5 : decode cX0_usesParameterAt 5 = .ok (.isub, 1) := by decide +kernel
theorem dX0_usesParameterAt_6 : decode cX0_usesParameterAt 6 = .ok (.istore_n 2, 1) := by decide +kernel
theorem dX0_usesParameterAt_7 : decode cX0_usesParameterAt 7 = .ok (.aload_n 0, 1) := by decide +kernel
theorem dX0_usesParameterAt_8 : decode cX0_usesParameterAt 8 = .ok (.getfield 15, 3) := by decide +kernel
theorem dX0_usesParameterAt_11 : decode cX0_usesParameterAt 11 = .ok (.iload_n 2, 1) := by decide +kernel
theorem dX0_usesParameterAt_12 : decode cX0_usesParameterAt 12 = .ok (.iaload, 1) := by decide +kernel
theorem dX0_usesParameterAt_13 : decode cX0_usesParameterAt 13 = .ok (.bipush 7, 2) := by decide +kernel
theorem dX0_usesParameterAt_15 : decode cX0_usesParameterAt 15 = .ok (.if_icmp .eq 34, 3) := by decide +kernel
theorem dX0_usesParameterAt_18 : decode cX0_usesParameterAt 18 = .ok (.aload_n 0, 1) := by decide +kernel
theorem dX0_usesParameterAt_19 : decode cX0_usesParameterAt 19 = .ok (.getfield 21, 3) := by decide +kernel
theorem dX0_usesParameterAt_22 : decode cX0_usesParameterAt 22 = .ok (.iload_n 2, 1) := by decide +kernel
theorem dX0_usesParameterAt_23 : decode cX0_usesParameterAt 23 = .ok (.iaload, 1) := by decide +kernel
theorem dX0_usesParameterAt_24 : decode cX0_usesParameterAt 24 = .ok (.bipush 7, 2) := by decide +kernel
theorem dX0_usesParameterAt_26 : decode cX0_usesParameterAt 26 = .ok (.if_icmp .eq 23, 3) := by decide +kernel
theorem dX0_usesParameterAt_29 : decode cX0_usesParameterAt 29 = .ok (.aload_n 0, 1) := by decide +kernel
theorem dX0_usesParameterAt_30 : decode cX0_usesParameterAt 30 = .ok (.getfield 18, 3) := by decide +kernel
theorem dX0_usesParameterAt_33 : decode cX0_usesParameterAt 33 = .ok (.iload_n 2, 1) := by decide +kernel
theorem dX0_usesParameterAt_34 : decode cX0_usesParameterAt 34 = .ok (.iaload, 1) := by decide +kernel
theorem dX0_usesParameterAt_35 : decode cX0_usesParameterAt 35 = .ok (.bipush 7, 2) := by decide +kernel
theorem dX0_usesParameterAt_37 : decode cX0_usesParameterAt 37 = .ok (.if_icmp .ne 16, 3) := by decide +kernel
theorem dX0_usesParameterAt_40 : decode cX0_usesParameterAt 40 = .ok (.aload_n 0, 1) := by decide +kernel
theorem dX0_usesParameterAt_41 : decode cX0_usesParameterAt 41 = .ok (.getfield 9, 3) := by decide +kernel
theorem dX0_usesParameterAt_44 : decode cX0_usesParameterAt 44 = .ok (.iload_n 2, 1) := by decide +kernel
theorem dX0_usesParameterAt_45 : decode cX0_usesParameterAt 45 = .ok (.iaload, 1) := by decide +kernel
theorem dX0_usesParameterAt_46 : decode cX0_usesParameterAt 46 = .ok (.ifCond .eq 7, 3) := by decide +kernel
theorem dX0_usesParameterAt_49 : decode cX0_usesParameterAt 49 = .ok (.iconst 1, 1) := by decide +kernel
theorem dX0_usesParameterAt_50 : decode cX0_usesParameterAt 50 = .ok (.goto 4, 3) := by decide +kernel
theorem dX0_usesParameterAt_53 : decode cX0_usesParameterAt 53 = .ok (.iconst 0, 1) := by decide +kernel
theorem dX0_usesParameterAt_54 : decode cX0_usesParameterAt 54 = .ok (.ireturn, 1) := by decide +kernel
theorem dX1_init_0 : decode cX1_init 0 = .ok (.aload_n 0, 1) := by decide +kernel
theorem dX1_init_1 : decode cX1_init 1 = .ok (.invokespecial 3, 3) := by decide +kernel
theorem dX1_init_4 : decode cX1_init 4 = .ok (.aload_n 0, 1) := by decide +kernel
theorem dX1_init_5 : decode cX1_init 5 = .ok (.bipush 8, 2) := by decide +kernel
theorem dX1_init_7 : decode cX1_init 7 = .ok (.newarray .int, 2) := by decide +kernel
theorem dX1_init_9 : decode cX1_init 9 = .ok (.putfield 9, 3) := by decide +kernel
theorem dX1_init_12 : decode cX1_init 12 = .ok (.aload_n 0, 1) := by decide +kernel
theorem dX1_init_13 : decode cX1_init 13 = .ok (.sipush 1000, 3) := by decide +kernel
theorem dX1_init_16 : decode cX1_init 16 = .ok (.newarray .int, 2) := by decide +kernel
theorem dX1_init_18 : decode cX1_init 18 = .ok (.putfield 15, 3) := by decide +kernel
theorem dX1_init_21 : decode cX1_init 21 = .ok (.aload_n 0, 1) := by decide +kernel
theorem dX1_init_22 : decode cX1_init 22 = .ok (.iconst 0, 1) := by decide +kernel
theorem dX1_init_23 : decode cX1_init 23 = .ok (.putfield 18, 3) := by decide +kernel
theorem dX1_init_26 : decode cX1_init 26 = .ok (.return_, 1) := by decide +kernel
set_option maxRecDepth 20000 in
theorem ggX1_execute_X1_perform : GoodIn wsX1_execute wsX1_perform := goodIn_r _ [11, 1, 12, 13, 14, 10, 15, 6, 16, 29, 30, 31, 32, 33, 34, 35, 36, 26, 27, 28] (by decide +kernel) (by decide +kernel)
set_option maxRecDepth 20000 in
theorem gX1_execute_X1_perform : GoodIn wsX1_execute (wsV RX1 42 RX1 yX1_perform wsX1_perform) := goodIn_app (goodIn_of _ (by decide +kernel)) ggX1_execute_X1_perform
set_option maxRecDepth 20000 in
theorem ggX1_execute_X1_successorOf : GoodIn wsX1_execute wsX1_successorOf := goodIn_r _ [20, 1, 29, 30, 31, 32, 33, 34, 35, 36, 26, 27, 28] (by decide +kernel) (by decide +kernel)
set_option maxRecDepth 20000 in
theorem gX1_execute_X1_successorOf : GoodIn wsX1_execute (wsV RX1 49 RX1 yX1_successorOf wsX1_successorOf) := goodIn_app (goodIn_of _ (by decide +kernel)) ggX1_execute_X1_successorOf
theorem dX1_execute_0 : decode cX1_execute 0 = .ok (.aload_n 1, 1) := by decide +kernel
theorem dX1_execute_1 : decode cX1_execute 1 = .ok (.getfield 22, 3) := by decide +kernel
theorem dX1_execute_4 : decode cX1_execute 4 = .ok (.iconst 0, 1) := by decide +kernel
theorem dX1_execute_5 : decode cX1_execute 5 = .ok (.aload_n 0, 1) := by decide +kernel
theorem dX1_execute_6 : decode cX1_execute 6 = .ok (.getfield 9, 3) := by decide +kernel
theorem dX1_execute_9 : decode cX1_execute 9 = .ok (.iconst 0, 1) := by decide +kernel
theorem dX1_execute_10 : decode cX1_execute 10 = .ok (.bipush 8, 2) := by decide +kernel
theorem dX1_execute_12 : decode cX1_execute 12 = .ok (.invokestatic 27, 3) := by decide +kernel
theorem dX1_execute_15 : decode cX1_execute 15 = .ok (.aload_n 0, 1) := by decide +kernel
theorem dX1_execute_16 : decode cX1_execute 16 = .ok (.iconst 0, 1) := by decide +kernel
theorem dX1_execute_17 : decode cX1_execute 17 = .ok (.putfield 18, 3) := by decide +kernel
theorem dX1_execute_20 : decode cX1_execute 20 = .ok (.aload_n 1, 1) := by decide +kernel
theorem dX1_execute_21 : decode cX1_execute 21 = .ok (.getfield 33, 3) := by decide +kernel
theorem dX1_execute_24 : decode cX1_execute 24 = .ok (.iconst 0, 1) := by decide +kernel
theorem dX1_execute_25 : decode cX1_execute 25 = .ok (.aaload, 1) := by decide +kernel
theorem dX1_execute_26 : decode cX1_execute 26 = .ok (.astore_n 3, 1) := by decide +kernel
theorem dX1_execute_27 : decode cX1_execute 27 = .ok (.iconst 0, 1) := by decide +kernel
theorem dX1_execute_28 : decode cX1_execute 28 = .ok (.istore 4, 2) := by decide +kernel
theorem dX1_execute_30 : decode cX1_execute 30 = .ok (.iconst 1, 1) := by decide +kernel
theorem dX1_execute_31 : decode cX1_execute 31 = .ok (.istore 5, 2) := by decide +kernel
theorem dX1_execute_33 : decode cX1_execute 33 = .ok (.iload 5, 2) := by decide +kernel
theorem dX1_execute_35 : decode cX1_execute 35 = .ok (.iload_n 2, 1) := by decide +kernel
theorem dX1_execute_36 : decode cX1_execute 36 = .ok (.if_icmp .gt 56, 3) := by decide +kernel
theorem dX1_execute_39 : decode cX1_execute 39 = .ok (.iload 4, 2) := by decide +kernel
theorem dX1_execute_41 : decode cX1_execute 41 = .ok (.aload_n 3, 1) := by decide +kernel
theorem dX1_execute_42 : decode cX1_execute 42 = .ok (.getfield 37, 3) := by decide +kernel
theorem dX1_execute_45 : decode cX1_execute 45 = .ok (.if_icmp .ge 16, 3) := by decide +kernel
theorem dX1_execute_48 : decode cX1_execute 48 = .ok (.aload_n 0, 1) := by decide +kernel
theorem dX1_execute_49 : decode cX1_execute 49 = .ok (.aload_n 3, 1) := by decide +kernel
theorem dX1_execute_50 : decode cX1_execute 50 = .ok (.iload 4, 2) := by decide +kernel
theorem dX1_execute_52 : decode cX1_execute 52 = .ok (.invokevirtual 42, 3) := by decide +kernel
theorem dX1_execute_55 : decode cX1_execute 55 = .ok (.iinc 4 1, 3) := by decide +kernel
theorem dX1_execute_58 : decode cX1_execute 58 = .ok (.goto 28, 3) := by decide +kernel
theorem dX1_execute_61 : decode cX1_execute 61 = .ok (.aload_n 3, 1) := by decide +kernel
theorem dX1_execute_62 : decode cX1_execute 62 = .ok (.getfield 46, 3) := by decide +kernel
theorem dX1_execute_65 : decode cX1_execute 65 = .ok (.iconst 2, 1) := by decide +kernel
theorem dX1_execute_66 : decode cX1_execute 66 = .ok (.if_icmp .ne 6, 3) := by decide +kernel
theorem dX1_execute_69 : decode cX1_execute 69 = .ok (.iload 5, 2) := by decide +kernel
theorem dX1_execute_71 : decode cX1_execute 71 = .ok (.ireturn, 1) := by decide +kernel
theorem dX1_execute_72 : decode cX1_execute 72 = .ok (.aload_n 1, 1) := by decide +kernel
theorem dX1_execute_73 : decode cX1_execute 73 = .ok (.getfield 33, 3) := by decide +kernel
theorem dX1_execute_76 : decode cX1_execute 76 = .ok (.aload_n 0, 1) := by decide +kernel
theorem dX1_execute_77 : decode cX1_execute 77 = .ok (.aload_n 3, 1) := by decide +kernel
theorem dX1_execute_78 : decode cX1_execute 78 = .ok (.invokevirtual 49, 3) := by decide +kernel
theorem dX1_execute_81 : decode cX1_execute 81 = .ok (.aaload, 1) := by decide +kernel
theorem dX1_execute_82 : decode cX1_execute 82 = .ok (.astore_n 3, 1) := by decide +kernel
theorem dX1_execute_83 : decode cX1_execute 83 = .ok (.iconst 0, 1) := by decide +kernel
theorem dX1_execute_84 : decode cX1_execute 84 = .ok (.istore 4, 2) := by decide +kernel
theorem dX1_execute_86 : decode cX1_execute 86 = .ok (.iinc 5 1, 3) := by decide +kernel
theorem dX1_execute_89 : decode cX1_execute 89 = .ok (.goto (-56), 3) := by decide +kernel
theorem dX1_execute_92 : decode cX1_execute 92 = .ok (.sipush (-1007), 3) := by decide +kernel
theorem dX1_execute_95 : decode cX1_execute 95 = .ok (.ireturn, 1) := by decide +kernel
theorem dX1_successorOf_0 : decode cX1_successorOf 0 = .ok (.aload_n 1, 1) := by decide +kernel
theorem dX1_successorOf_1 : decode cX1_successorOf 1 = .ok (.getfield 53, 3) := by decide +kernel
theorem dX1_successorOf_4 : decode cX1_successorOf 4 = .ok (.astore_n 2, 1) := by decide +kernel
theorem dX1_successorOf_5 : decode cX1_successorOf 5 = .ok (.aload_n 1, 1) := by decide +kernel
theorem dX1_successorOf_6 : decode cX1_successorOf 6 = .ok (.getfield 46, 3) := by decide +kernel
theorem dX1_successorOf_9 : decode cX1_successorOf 9 = .ok (.ifCond .ne 7, 3) := by decide +kernel
theorem dX1_successorOf_12 : decode cX1_successorOf 12 = .ok (.aload_n 2, 1) := by decide +kernel
theorem dX1_successorOf_13 : decode cX1_successorOf 13 = .ok (.iconst 0, 1) := by decide +kernel
theorem dX1_successorOf_14 : decode cX1_successorOf 14 = .ok (.iaload, 1) := by decide +kernel
theorem dX1_successorOf_15 : decode cX1_successorOf 15 = .ok (.ireturn, 1) := by decide +kernel
theorem dX1_successorOf_16 : decode cX1_successorOf 16 = .ok (.aload_n 0, 1) := by decide +kernel
theorem dX1_successorOf_17 : decode cX1_successorOf 17 = .ok (.getfield 9, 3) := by decide +kernel
theorem dX1_successorOf_20 : decode cX1_successorOf 20 = .ok (.aload_n 2, 1) := by decide +kernel
theorem dX1_successorOf_21 : decode cX1_successorOf 21 = .ok (.iconst 0, 1) := by decide +kernel
theorem dX1_successorOf_22 : decode cX1_successorOf 22 = .ok (.iaload, 1) := by decide +kernel
theorem dX1_successorOf_23 : decode cX1_successorOf 23 = .ok (.iaload, 1) := by decide +kernel
theorem dX1_successorOf_24 : decode cX1_successorOf 24 = .ok (.ifCond .eq 9, 3) := by decide +kernel
theorem dX1_successorOf_27 : decode cX1_successorOf 27 = .ok (.aload_n 2, 1) := by decide +kernel
theorem dX1_successorOf_28 : decode cX1_successorOf 28 = .ok (.iconst 1, 1) := by decide +kernel
theorem dX1_successorOf_29 : decode cX1_successorOf 29 = .ok (.iaload, 1) := by decide +kernel
theorem dX1_successorOf_30 : decode cX1_successorOf 30 = .ok (.goto 6, 3) := by decide +kernel
theorem dX1_successorOf_33 : decode cX1_successorOf 33 = .ok (.aload_n 2, 1) := by decide +kernel
theorem dX1_successorOf_34 : decode cX1_successorOf 34 = .ok (.iconst 2, 1) := by decide +kernel
theorem dX1_successorOf_35 : decode cX1_successorOf 35 = .ok (.iaload, 1) := by decide +kernel
theorem dX1_successorOf_36 : decode cX1_successorOf 36 = .ok (.ireturn, 1) := by decide +kernel
set_option maxRecDepth 20000 in
theorem ggX1_perform_X1_emit : GoodIn wsX1_perform wsX1_emit := goodIn_r _ [6, 7, 8, 17, 18, 19] (by decide +kernel) (by decide +kernel)
set_option maxRecDepth 20000 in
theorem gX1_perform_X1_emit : GoodIn wsX1_perform (wsV RX1 68 RX1 yX1_emit wsX1_emit) := goodIn_app (goodIn_of _ (by decide +kernel)) ggX1_perform_X1_emit
theorem dX1_perform_0 : decode cX1_perform 0 = .ok (.aload_n 1, 1) := by decide +kernel
theorem dX1_perform_1 : decode cX1_perform 1 = .ok (.getfield 56, 3) := by decide +kernel
theorem dX1_perform_4 : decode cX1_perform 4 = .ok (.iload_n 2, 1) := by decide +kernel
theorem dX1_perform_5 : decode cX1_perform 5 = .ok (.iaload, 1) := by decide +kernel
theorem dX1_perform_6 : decode cX1_perform 6 = .ok (.istore_n 3, 1) := by decide +kernel
theorem dX1_perform_7 : decode cX1_perform 7 = .ok (.aload_n 1, 1) := by decide +kernel
theorem dX1_perform_8 : decode cX1_perform 8 = .ok (.getfield 59, 3) := by decide +kernel
theorem dX1_perform_11 : decode cX1_perform 11 = .ok (.iload_n 2, 1) := by decide +kernel
theorem dX1_perform_12 : decode cX1_perform 12 = .ok (.iaload, 1) := by decide +kernel
theorem dX1_perform_13 : decode cX1_perform 13 = .ok (.istore 4, 2) := by decide +kernel
theorem dX1_perform_15 : decode cX1_perform 15 = .ok (.aload_n 1, 1) := by decide +kernel
theorem dX1_perform_16 : decode cX1_perform 16 = .ok (.getfield 62, 3) := by decide +kernel
theorem dX1_perform_19 : decode cX1_perform 19 = .ok (.iload_n 2, 1) := by decide +kernel
theorem dX1_perform_20 : decode cX1_perform 20 = .ok (.iaload, 1) := by decide +kernel
theorem dX1_perform_21 : decode cX1_perform 21 = .ok (.istore 5, 2) := by decide +kernel
theorem dX1_perform_23 : decode cX1_perform 23 = .ok (.aload_n 1, 1) := by decide +kernel
theorem dX1_perform_24 : decode cX1_perform 24 = .ok (.getfield 65, 3) := by decide +kernel
theorem dX1_perform_27 : decode cX1_perform 27 = .ok (.iload_n 2, 1) := by decide +kernel
theorem dX1_perform_28 : decode cX1_perform 28 = .ok (.iaload, 1) := by decide +kernel
theorem dX1_perform_29 : decode cX1_perform 29 = .ok (.tableswitch 169 0 5 #[39, 50, 66, 90, 114, 138], 39) := by decide +kernel
theorem dX1_perform_68 : decode cX1_perform 68 = .ok (.aload_n 0, 1) := by decide +kernel
theorem dX1_perform_69 : decode cX1_perform 69 = .ok (.getfield 9, 3) := by decide +kernel
theorem dX1_perform_72 : decode cX1_perform 72 = .ok (.iload_n 3, 1) := by decide +kernel
theorem dX1_perform_73 : decode cX1_perform 73 = .ok (.iload 4, 2) := by decide +kernel
theorem dX1_perform_75 : decode cX1_perform 75 = .ok (.iastore, 1) := by decide +kernel
theorem dX1_perform_76 : decode cX1_perform 76 = .ok (.goto 133, 3) := by decide +kernel
theorem dX1_perform_79 : decode cX1_perform 79 = .ok (.aload_n 0, 1) := by decide +kernel
theorem dX1_perform_80 : decode cX1_perform 80 = .ok (.getfield 9, 3) := by decide +kernel
theorem dX1_perform_83 : decode cX1_perform 83 = .ok (.iload_n 3, 1) := by decide +kernel
theorem dX1_perform_84 : decode cX1_perform 84 = .ok (.aload_n 0, 1) := by decide +kernel
theorem dX1_perform_85 : decode cX1_perform 85 = .ok (.getfield 9, 3) := by decide +kernel
theorem dX1_perform_88 : decode cX1_perform 88 = .ok (.iload 4, 2) := by decide +kernel
theorem dX1_perform_90 : decode cX1_perform 90 = .ok (.iaload, 1) := by decide +kernel
theorem dX1_perform_91 : decode cX1_perform 91 = .ok (.iastore, 1) := by decide +kernel
theorem dX1_perform_92 : decode cX1_perform 92 = .ok (.goto 117, 3) := by decide +kernel
theorem dX1_perform_95 : decode cX1_perform 95 = .ok (.aload_n 0, 1) := by decide +kernel
theorem dX1_perform_96 : decode cX1_perform 96 = .ok (.getfield 9, 3) := by decide +kernel
theorem dX1_perform_99 : decode cX1_perform 99 = .ok (.iload_n 3, 1) := by decide +kernel
theorem dX1_perform_100 : decode cX1_perform 100 = .ok (.aload_n 0, 1) := by decide +kernel
theorem dX1_perform_101 : decode cX1_perform 101 = .ok (.getfield 9, 3) := by decide +kernel
theorem dX1_perform_104 : decode cX1_perform 104 = .ok (.iload 4, 2) := by decide +kernel
theorem dX1_perform_106 : decode cX1_perform 106 = .ok (.iaload, 1) := by decide +kernel
theorem dX1_perform_107 : decode cX1_perform 107 = .ok (.aload_n 0, 1) := by decide +kernel
theorem dX1_perform_108 : decode cX1_perform 108 = .ok (.getfield 9, 3) := by decide +kernel
theorem dX1_perform_111 : decode cX1_perform 111 = .ok (.iload 5, 2) := by decide +kernel
theorem dX1_perform_113 : decode cX1_perform 113 = .ok (.iaload, 1) := by decide +kernel
theorem dX1_perform_114 : decode cX1_perform 114 = .ok (.iadd, 1) := by decide +kernel
theorem dX1_perform_115 : decode cX1_perform 115 = .ok (.iastore, 1) := by decide +kernel
theorem dX1_perform_116 : decode cX1_perform 116 = .ok (.goto 93, 3) := by decide +kernel
theorem dX1_perform_119 : decode cX1_perform 119 = .ok (.aload_n 0, 1) := by decide +kernel
theorem dX1_perform_120 : decode cX1_perform 120 = .ok (.getfield 9, 3) := by decide +kernel
theorem dX1_perform_123 : decode cX1_perform 123 = .ok (.iload_n 3, 1) := by decide +kernel
theorem dX1_perform_124 : decode cX1_perform 124 = .ok (.aload_n 0, 1) := by decide +kernel
theorem dX1_perform_125 : decode cX1_perform 125 = .ok (.getfield 9, 3) := by decide +kernel
theorem dX1_perform_128 : decode cX1_perform 128 = .ok (.iload 4, 2) := by decide +kernel
theorem dX1_perform_130 : decode cX1_perform 130 = .ok (.iaload, 1) := by decide +kernel
theorem dX1_perform_131 : decode cX1_perform 131 = .ok (.aload_n 0, 1) := by decide +kernel
theorem dX1_perform_132 : decode cX1_perform 132 = .ok (.getfield 9, 3) := by decide +kernel
theorem dX1_perform_135 : decode cX1_perform 135 = .ok (.iload 5, 2) := by decide +kernel
theorem dX1_perform_137 : decode cX1_perform 137 = .ok (.iaload, 1) := by decide +kernel
theorem dX1_perform_138 : decode cX1_perform 138 = .ok (.isub, 1) := by decide +kernel
theorem dX1_perform_139 : decode cX1_perform 139 = .ok (.iastore, 1) := by decide +kernel
theorem dX1_perform_140 : decode cX1_perform 140 = .ok (.goto 69, 3) := by decide +kernel
theorem dX1_perform_143 : decode cX1_perform 143 = .ok (.aload_n 0, 1) := by decide +kernel
theorem dX1_perform_144 : decode cX1_perform 144 = .ok (.getfield 9, 3) := by decide +kernel
theorem dX1_perform_147 : decode cX1_perform 147 = .ok (.iload_n 3, 1) := by decide +kernel
theorem dX1_perform_148 : decode cX1_perform 148 = .ok (.aload_n 0, 1) := by decide +kernel
theorem dX1_perform_149 : decode cX1_perform 149 = .ok (.getfield 9, 3) := by decide +kernel
theorem dX1_perform_152 : decode cX1_perform 152 = .ok (.iload 4, 2) := by decide +kernel
theorem dX1_perform_154 : decode cX1_perform 154 = .ok (.iaload, 1) := by decide +kernel
theorem dX1_perform_155 : decode cX1_perform 155 = .ok (.aload_n 0, 1) := by decide +kernel
theorem dX1_perform_156 : decode cX1_perform 156 = .ok (.getfield 9, 3) := by decide +kernel
theorem dX1_perform_159 : decode cX1_perform 159 = .ok (.iload 5, 2) := by decide +kernel
theorem dX1_perform_161 : decode cX1_perform 161 = .ok (.iaload, 1) := by decide +kernel
theorem dX1_perform_162 : decode cX1_perform 162 = .ok (.imul, 1) := by decide +kernel
theorem dX1_perform_163 : decode cX1_perform 163 = .ok (.iastore, 1) := by decide +kernel
theorem dX1_perform_164 : decode cX1_perform 164 = .ok (.goto 45, 3) := by decide +kernel
theorem dX1_perform_167 : decode cX1_perform 167 = .ok (.aload_n 0, 1) := by decide +kernel
theorem dX1_perform_168 : decode cX1_perform 168 = .ok (.getfield 9, 3) := by decide +kernel
theorem dX1_perform_171 : decode cX1_perform 171 = .ok (.iload_n 3, 1) := by decide +kernel
theorem dX1_perform_172 : decode cX1_perform 172 = .ok (.aload_n 0, 1) := by decide +kernel
theorem dX1_perform_173 : decode cX1_perform 173 = .ok (.getfield 9, 3) := by decide +kernel
theorem dX1_perform_176 : decode cX1_perform 176 = .ok (.iload 4, 2) := by decide +kernel
theorem dX1_perform_178 : decode cX1_perform 178 = .ok (.iaload, 1) := by decide +kernel
theorem dX1_perform_179 : decode cX1_perform 179 = .ok (.aload_n 0, 1) := by decide +kernel
theorem dX1_perform_180 : decode cX1_perform 180 = .ok (.getfield 9, 3) := by decide +kernel
theorem dX1_perform_183 : decode cX1_perform 183 = .ok (.iload 5, 2) := by decide +kernel
theorem dX1_perform_185 : decode cX1_perform 185 = .ok (.iaload, 1) := by decide +kernel
theorem dX1_perform_186 : decode cX1_perform 186 = .ok (.if_icmp .ge 7, 3) := by decide +kernel
theorem dX1_perform_189 : decode cX1_perform 189 = .ok (.iconst 1, 1) := by decide +kernel
theorem dX1_perform_190 : decode cX1_perform 190 = .ok (.goto 4, 3) := by decide +kernel
theorem dX1_perform_193 : decode cX1_perform 193 = .ok (.iconst 0, 1) := by decide +kernel
theorem dX1_perform_194 : decode cX1_perform 194 = .ok (.iastore, 1) := by decide +kernel
theorem dX1_perform_195 : decode cX1_perform 195 = .ok (.goto 14, 3) := by decide +kernel
theorem dX1_perform_198 : decode cX1_perform 198 = .ok (.aload_n 0, 1) := by decide +kernel
theorem dX1_perform_199 : decode cX1_perform 199 = .ok (.aload_n 0, 1) := by decide +kernel
theorem dX1_perform_200 : decode cX1_perform 200 = .ok (.getfield 9, 3) := by decide +kernel
theorem dX1_perform_203 : decode cX1_perform 203 = .ok (.iload 4, 2) := by decide +kernel
theorem dX1_perform_205 : decode cX1_perform 205 = .ok (.iaload, 1) := by decide +kernel
theorem dX1_perform_206 : decode cX1_perform 206 = .ok (.invokevirtual 68, 3) := by decide +kernel
theorem dX1_perform_209 : decode cX1_perform 209 = .ok (.return_, 1) := by decide +kernel
theorem dX1_emit_0 : decode cX1_emit 0 = .ok (.aload_n 0, 1) := by decide +kernel
theorem dX1_emit_1 : decode cX1_emit 1 = .ok (.getfield 18, 3) := by decide +kernel
theorem dX1_emit_4 : decode cX1_emit 4 = .ok (.sipush 1000, 3) := by decide +kernel
theorem dX1_emit_7 : decode cX1_emit 7 = .ok (.if_icmp .ge 23, 3) := by decide +kernel
theorem dX1_emit_10 : decode cX1_emit 10 = .ok (.aload_n 0, 1) := by decide +kernel
theorem dX1_emit_11 : decode cX1_emit 11 = .ok (.getfield 15, 3) := by decide +kernel
theorem dX1_emit_14 : decode cX1_emit 14 = .ok (.aload_n 0, 1) := by decide +kernel
theorem dX1_emit_15 : decode cX1_emit 15 = .ok (.getfield 18, 3) := by decide +kernel
theorem dX1_emit_18 : decode cX1_emit 18 = .ok (.iload_n 1, 1) := by decide +kernel
theorem dX1_emit_19 : decode cX1_emit 19 = .ok (.iastore, 1) := by decide +kernel
theorem dX1_emit_20 : decode cX1_emit 20 = .ok (.aload_n 0, 1) := by decide +kernel
theorem dX1_emit_21 : decode cX1_emit 21 = .ok (.dup, 1) := by decide +kernel
theorem dX1_emit_22 : decode cX1_emit 22 = .ok (.getfield 18, 3) := by decide +kernel
theorem dX1_emit_25 : decode cX1_emit 25 = .ok (.iconst 1, 1) := by decide +kernel
theorem dX1_emit_26 : decode cX1_emit 26 = .ok (.iadd, 1) := by decide +kernel
theorem dX1_emit_27 : decode cX1_emit 27 = .ok (.putfield 18, 3) := by decide +kernel
theorem dX1_emit_30 : decode cX1_emit 30 = .ok (.return_, 1) := by decide +kernel
set_option maxRecDepth 20000 in
theorem ggX2_init_X0_init : GoodIn wsX2_init wsX0_init := goodIn_r _ [14, 15, 2, 3, 10, 16, 17, 18, 19, 20, 21, 22, 23, 29, 30, 31, 32, 33, 34, 35, 36] (by decide +kernel) (by decide +kernel)
set_option maxRecDepth 20000 in
theorem gX2_init_X0_init_n17 : GoodIn wsX2_init (wsX0_init) := ggX2_init_X0_init
theorem dX2_init_0 : decode cX2_init 0 = .ok (.aload_n 0, 1) := by decide +kernel
theorem dX2_init_1 : decode cX2_init 1 = .ok (.invokespecial 3, 3) := by decide +kernel
theorem dX2_init_4 : decode cX2_init 4 = .ok (.aload_n 0, 1) := by decide +kernel
theorem dX2_init_5 : decode cX2_init 5 = .ok (.bipush 12, 2) := by decide +kernel
theorem dX2_init_7 : decode cX2_init 7 = .ok (.anewarray 9, 3) := by decide +kernel
theorem dX2_init_10 : decode cX2_init 10 = .ok (.putfield 11, 3) := by decide +kernel
theorem dX2_init_13 : decode cX2_init 13 = .ok (.iconst 0, 1) := by decide +kernel
theorem dX2_init_14 : decode cX2_init 14 = .ok (.istore_n 1, 1) := by decide +kernel
theorem dX2_init_15 : decode cX2_init 15 = .ok (.iload_n 1, 1) := by decide +kernel
theorem dX2_init_16 : decode cX2_init 16 = .ok (.bipush 12, 2) := by decide +kernel
theorem dX2_init_18 : decode cX2_init 18 = .ok (.if_icmp .ge 22, 3) := by decide +kernel
theorem dX2_init_21 : decode cX2_init 21 = .ok (.aload_n 0, 1) := by decide +kernel
theorem dX2_init_22 : decode cX2_init 22 = .ok (.getfield 11, 3) := by decide +kernel
theorem dX2_init_25 : decode cX2_init 25 = .ok (.iload_n 1, 1) := by decide +kernel
theorem dX2_init_26 : decode cX2_init 26 = .ok (.new 9, 3) := by decide +kernel
theorem dX2_init_29 : decode cX2_init 29 = .ok (.dup, 1) := by decide +kernel
theorem dX2_init_30 : decode cX2_init 30 = .ok (.invokespecial 17, 3) := by decide +kernel
theorem dX2_init_33 : decode cX2_init 33 = .ok (.aastore, 1) := by decide +kernel
theorem dX2_init_34 : decode cX2_init 34 = .ok (.iinc 1 1, 3) := by decide +kernel
theorem dX2_init_37 : decode cX2_init 37 = .ok (.goto (-22), 3) := by decide +kernel
theorem dX2_init_40 : decode cX2_init 40 = .ok (.aload_n 0, 1) := by decide +kernel
theorem dX2_init_41 : decode cX2_init 41 = .ok (.iconst 0, 1) := by decide +kernel
theorem dX2_init_42 : decode cX2_init 42 = .ok (.putfield 18, 3) := by decide +kernel
theorem dX2_init_45 : decode cX2_init 45 = .ok (.aload_n 0, 1) := by decide +kernel
theorem dX2_init_46 : decode cX2_init 46 = .ok (.iconst 1, 1) := by decide +kernel
theorem dX2_init_47 : decode cX2_init 47 = .ok (.putfield 22, 3) := by decide +kernel
theorem dX2_init_50 : decode cX2_init 50 = .ok (.aload_n 0, 1) := by decide +kernel
theorem dX2_init_51 : decode cX2_init 51 = .ok (.bipush 8, 2) := by decide +kernel
theorem dX2_init_53 : decode cX2_init 53 = .ok (.newarray .int, 2) := by decide +kernel
theorem dX2_init_55 : decode cX2_init 55 = .ok (.putfield 25, 3) := by decide +kernel
theorem dX2_init_58 : decode cX2_init 58 = .ok (.aload_n 0, 1) := by decide +kernel
theorem dX2_init_59 : decode cX2_init 59 = .ok (.bipush 12, 2) := by decide +kernel
theorem dX2_init_61 : decode cX2_init 61 = .ok (.newarray .int, 2) := by decide +kernel
theorem dX2_init_63 : decode cX2_init 63 = .ok (.putfield 29, 3) := by decide +kernel
theorem dX2_init_66 : decode cX2_init 66 = .ok (.return_, 1) := by decide +kernel
theorem dX2_has_0 : decode cX2_has 0 = .ok (.iload_n 1, 1) := by decide +kernel
theorem dX2_has_1 : decode cX2_has 1 = .ok (.ifCond .lt 15, 3) := by decide +kernel
theorem dX2_has_4 : decode cX2_has 4 = .ok (.iload_n 1, 1) := by decide +kernel
theorem dX2_has_5 : decode cX2_has 5 = .ok (.aload_n 0, 1) := by decide +kernel
theorem dX2_has_6 : decode cX2_has 6 = .ok (.getfield 18, 3) := by decide +kernel
theorem dX2_has_9 : decode cX2_has 9 = .ok (.if_icmp .ge 7, 3) := by decide +kernel
theorem dX2_has_12 : decode cX2_has 12 = .ok (.iconst 1, 1) := by decide +kernel
theorem dX2_has_13 : decode cX2_has 13 = .ok (.goto 4, 3) := by decide +kernel
theorem dX2_has_16 : decode cX2_has 16 = .ok (.iconst 0, 1) := by decide +kernel
theorem dX2_has_17 : decode cX2_has 17 = .ok (.ireturn, 1) := by decide +kernel
set_option maxRecDepth 20000 in
theorem ggX2_appendBlock_X0_clear : GoodIn wsX2_appendBlock wsX0_clear := goodIn_r _ [6, 7, 8, 9, 10, 4, 11, 12, 13, 19, 20, 21, 22, 23, 24, 25, 26] (by decide +kernel) (by decide +kernel)
set_option maxRecDepth 20000 in
theorem gX2_appendBlock_X0_clear_n32 : GoodIn wsX2_appendBlock (wsX0_clear) := ggX2_appendBlock_X0_clear
theorem dX2_appendBlock_0 : decode cX2_appendBlock 0 = .ok (.aload_n 0, 1) := by decide +kernel
theorem dX2_appendBlock_1 : decode cX2_appendBlock 1 = .ok (.getfield 18, 3) := by decide +kernel
theorem dX2_appendBlock_4 : decode cX2_appendBlock 4 = .ok (.bipush 12, 2) := by decide +kernel
theorem dX2_appendBlock_6 : decode cX2_appendBlock 6 = .ok (.if_icmp .lt 7, 3) := by decide +kernel
theorem dX2_appendBlock_9 : decode cX2_appendBlock 9 = .ok (.sipush (-1004), 3) := by decide +kernel
theorem dX2_appendBlock_12 : decode cX2_appendBlock 12 = .ok (.ireturn, 1) := by decide +kernel
theorem dX2_appendBlock_13 : decode cX2_appendBlock 13 = .ok (.aload_n 0, 1) := by decide +kernel
theorem dX2_appendBlock_14 : decode cX2_appendBlock 14 = .ok (.getfield 18, 3) := by decide +kernel
theorem dX2_appendBlock_17 : decode cX2_appendBlock 17 = .ok (.istore_n 1, 1) := by decide +kernel
theorem dX2_appendBlock_18 : decode cX2_appendBlock 18 = .ok (.aload_n 0, 1) := by decide +kernel
theorem dX2_appendBlock_19 : decode cX2_appendBlock 19 = .ok (.getfield 11, 3) := by decide +kernel
theorem dX2_appendBlock_22 : decode cX2_appendBlock 22 = .ok (.iload_n 1, 1) := by decide +kernel
theorem dX2_appendBlock_23 : decode cX2_appendBlock 23 = .ok (.aaload, 1) := by decide +kernel
theorem dX2_appendBlock_24 : decode cX2_appendBlock 24 = .ok (.invokevirtual 32, 3) := by decide +kernel
theorem dX2_appendBlock_27 : decode cX2_appendBlock 27 = .ok (.aload_n 0, 1) := by decide +kernel
theorem dX2_appendBlock_28 : decode cX2_appendBlock 28 = .ok (.dup, 1) := by decide +kernel
theorem dX2_appendBlock_29 : decode cX2_appendBlock 29 = .ok (.getfield 18, 3) := by decide +kernel
theorem dX2_appendBlock_32 : decode cX2_appendBlock 32 = .ok (.iconst 1, 1) := by decide +kernel
theorem dX2_appendBlock_33 : decode cX2_appendBlock 33 = .ok (.iadd, 1) := by decide +kernel
theorem dX2_appendBlock_34 : decode cX2_appendBlock 34 = .ok (.putfield 18, 3) := by decide +kernel
