theorem dX2_appendBlock_37 : decode cX2_appendBlock 37 = .ok (.iload_n 1, 1) := by decide +kernel
theorem dX2_appendBlock_38 : decode cX2_appendBlock 38 = .ok (.ireturn, 1) := by decide +kernel
set_option maxRecDepth 20000 in
theorem ggX2_copyFrom_X0_copyFrom : GoodIn wsX2_copyFrom wsX0_copyFrom := goodIn_r _ [12, 13, 14, 15, 16, 10, 17, 18, 19, 20, 21, 22, 23, 24, 25, 26, 27, 28, 29, 30, 31, 32, 38, 39, 40, 41, 42, 43, 44, 45] (by decide +kernel) (by decide +kernel)
set_option maxRecDepth 20000 in
theorem gX2_copyFrom_X0_copyFrom_n35 : GoodIn wsX2_copyFrom (wsX0_copyFrom) := ggX2_copyFrom_X0_copyFrom
theorem dX2_copyFrom_0 : decode cX2_copyFrom 0 = .ok (.aload_n 0, 1) := by decide +kernel
theorem dX2_copyFrom_1 : decode cX2_copyFrom 1 = .ok (.aload_n 1, 1) := by decide +kernel
theorem dX2_copyFrom_2 : decode cX2_copyFrom 2 = .ok (.getfield 18, 3) := by decide +kernel
theorem dX2_copyFrom_5 : decode cX2_copyFrom 5 = .ok (.putfield 18, 3) := by decide +kernel
theorem dX2_copyFrom_8 : decode cX2_copyFrom 8 = .ok (.iconst 0, 1) := by decide +kernel
theorem dX2_copyFrom_9 : decode cX2_copyFrom 9 = .ok (.istore_n 2, 1) := by decide +kernel
theorem dX2_copyFrom_10 : decode cX2_copyFrom 10 = .ok (.iload_n 2, 1) := by decide +kernel
theorem dX2_copyFrom_11 : decode cX2_copyFrom 11 = .ok (.aload_n 0, 1) := by decide +kernel
theorem dX2_copyFrom_12 : decode cX2_copyFrom 12 = .ok (.getfield 18, 3) := by decide +kernel
theorem dX2_copyFrom_15 : decode cX2_copyFrom 15 = .ok (.if_icmp .ge 24, 3) := by decide +kernel
theorem dX2_copyFrom_18 : decode cX2_copyFrom 18 = .ok (.aload_n 0, 1) := by decide +kernel
theorem dX2_copyFrom_19 : decode cX2_copyFrom 19 = .ok (.getfield 11, 3) := by decide +kernel
theorem dX2_copyFrom_22 : decode cX2_copyFrom 22 = .ok (.iload_n 2, 1) := by decide +kernel
theorem dX2_copyFrom_23 : decode cX2_copyFrom 23 = .ok (.aaload, 1) := by decide +kernel
theorem dX2_copyFrom_24 : decode cX2_copyFrom 24 = .ok (.aload_n 1, 1) := by decide +kernel
theorem dX2_copyFrom_25 : decode cX2_copyFrom 25 = .ok (.getfield 11, 3) := by decide +kernel
theorem dX2_copyFrom_28 : decode cX2_copyFrom 28 = .ok (.iload_n 2, 1) := by decide +kernel
theorem dX2_copyFrom_29 : decode cX2_copyFrom 29 = .ok (.aaload, 1) := by decide +kernel
theorem dX2_copyFrom_30 : decode cX2_copyFrom 30 = .ok (.invokevirtual 35, 3) := by decide +kernel
theorem dX2_copyFrom_33 : decode cX2_copyFrom 33 = .ok (.iinc 2 1, 3) := by decide +kernel
theorem dX2_copyFrom_36 : decode cX2_copyFrom 36 = .ok (.goto (-26), 3) := by decide +kernel
theorem dX2_copyFrom_39 : decode cX2_copyFrom 39 = .ok (.aload_n 0, 1) := by decide +kernel
theorem dX2_copyFrom_40 : decode cX2_copyFrom 40 = .ok (.aload_n 1, 1) := by decide +kernel
theorem dX2_copyFrom_41 : decode cX2_copyFrom 41 = .ok (.getfield 22, 3) := by decide +kernel
theorem dX2_copyFrom_44 : decode cX2_copyFrom 44 = .ok (.putfield 22, 3) := by decide +kernel
theorem dX2_copyFrom_47 : decode cX2_copyFrom 47 = .ok (.aload_n 1, 1) := by decide +kernel
theorem dX2_copyFrom_48 : decode cX2_copyFrom 48 = .ok (.getfield 25, 3) := by decide +kernel
theorem dX2_copyFrom_51 : decode cX2_copyFrom 51 = .ok (.iconst 0, 1) := by decide +kernel
theorem dX2_copyFrom_52 : decode cX2_copyFrom 52 = .ok (.aload_n 0, 1) := by decide +kernel
theorem dX2_copyFrom_53 : decode cX2_copyFrom 53 = .ok (.getfield 25, 3) := by decide +kernel
theorem dX2_copyFrom_56 : decode cX2_copyFrom 56 = .ok (.iconst 0, 1) := by decide +kernel
theorem dX2_copyFrom_57 : decode cX2_copyFrom 57 = .ok (.bipush 8, 2) := by decide +kernel
theorem dX2_copyFrom_59 : decode cX2_copyFrom 59 = .ok (.invokestatic 39, 3) := by decide +kernel
theorem dX2_copyFrom_62 : decode cX2_copyFrom 62 = .ok (.return_, 1) := by decide +kernel
set_option maxRecDepth 20000 in
theorem ggX2_size_X2_terminatorCost : GoodIn wsX2_size wsX2_terminatorCost := goodIn_r _ [7, 2, 8, 9, 10, 11, 12, 13, 14, 15, 16, 17, 18, 19, 20, 21] (by decide +kernel) (by decide +kernel)
set_option maxRecDepth 20000 in
theorem gX2_size_X2_terminatorCost : GoodIn wsX2_size (wsV RX2 46 RX2 yX2_terminatorCost wsX2_terminatorCost) := goodIn_app (goodIn_of _ (by decide +kernel)) ggX2_size_X2_terminatorCost
theorem dX2_size_0 : decode cX2_size 0 = .ok (.iconst 0, 1) := by decide +kernel
theorem dX2_size_1 : decode cX2_size 1 = .ok (.istore_n 1, 1) := by decide +kernel
theorem dX2_size_2 : decode cX2_size 2 = .ok (.iconst 0, 1) := by decide +kernel
theorem dX2_size_3 : decode cX2_size 3 = .ok (.istore_n 2, 1) := by decide +kernel
theorem dX2_size_4 : decode cX2_size 4 = .ok (.iload_n 2, 1) := by decide +kernel
theorem dX2_size_5 : decode cX2_size 5 = .ok (.aload_n 0, 1) := by decide +kernel
theorem dX2_size_6 : decode cX2_size 6 = .ok (.getfield 18, 3) := by decide +kernel
theorem dX2_size_9 : decode cX2_size 9 = .ok (.if_icmp .ge 27, 3) := by decide +kernel
theorem dX2_size_12 : decode cX2_size 12 = .ok (.iload_n 1, 1) := by decide +kernel
theorem dX2_size_13 : decode cX2_size 13 = .ok (.aload_n 0, 1) := by decide +kernel
theorem dX2_size_14 : decode cX2_size 14 = .ok (.getfield 11, 3) := by decide +kernel
theorem dX2_size_17 : decode cX2_size 17 = .ok (.iload_n 2, 1) := by decide +kernel
theorem dX2_size_18 : decode cX2_size 18 = .ok (.aaload, 1) := by decide +kernel
theorem dX2_size_19 : decode cX2_size 19 = .ok (.getfield 45, 3) := by decide +kernel
theorem dX2_size_22 : decode cX2_size 22 = .ok (.aload_n 0, 1) := by decide +kernel
theorem dX2_size_23 : decode cX2_size 23 = .ok (.iload_n 2, 1) := by decide +kernel
theorem dX2_size_24 : decode cX2_size 24 = .ok (.invokevirtual 46, 3) := by decide +kernel
theorem dX2_size_27 : decode cX2_size 27 = .ok (.iadd, 1) := by decide +kernel
theorem dX2_size_28 : decode cX2_size 28 = .ok (.iadd, 1) := by decide +kernel
theorem dX2_size_29 : decode cX2_size 29 = .ok (.istore_n 1, 1) := by decide +kernel
theorem dX2_size_30 : decode cX2_size 30 = .ok (.iinc 2 1, 3) := by decide +kernel
theorem dX2_size_33 : decode cX2_size 33 = .ok (.goto (-29), 3) := by decide +kernel
theorem dX2_size_36 : decode cX2_size 36 = .ok (.iload_n 1, 1) := by decide +kernel
theorem dX2_size_37 : decode cX2_size 37 = .ok (.ireturn, 1) := by decide +kernel
theorem dX2_terminatorCost_0 : decode cX2_terminatorCost 0 = .ok (.aload_n 0, 1) := by decide +kernel
theorem dX2_terminatorCost_1 : decode cX2_terminatorCost 1 = .ok (.getfield 11, 3) := by decide +kernel
theorem dX2_terminatorCost_4 : decode cX2_terminatorCost 4 = .ok (.iload_n 1, 1) := by decide +kernel
theorem dX2_terminatorCost_5 : decode cX2_terminatorCost 5 = .ok (.aaload, 1) := by decide +kernel
theorem dX2_terminatorCost_6 : decode cX2_terminatorCost 6 = .ok (.getfield 50, 3) := by decide +kernel
theorem dX2_terminatorCost_9 : decode cX2_terminatorCost 9 = .ok (.lookupswitch 34 #[(0, 27), (1, 32)], 27) := by decide +kernel
theorem dX2_terminatorCost_36 : decode cX2_terminatorCost 36 = .ok (.aload_n 0, 1) := by decide +kernel
theorem dX2_terminatorCost_37 : decode cX2_terminatorCost 37 = .ok (.getfield 22, 3) := by decide +kernel
theorem dX2_terminatorCost_40 : decode cX2_terminatorCost 40 = .ok (.ireturn, 1) := by decide +kernel
theorem dX2_terminatorCost_41 : decode cX2_terminatorCost 41 = .ok (.iconst 2, 1) := by decide +kernel
theorem dX2_terminatorCost_42 : decode cX2_terminatorCost 42 = .ok (.ireturn, 1) := by decide +kernel
theorem dX2_terminatorCost_43 : decode cX2_terminatorCost 43 = .ok (.iconst 1, 1) := by decide +kernel
theorem dX2_terminatorCost_44 : decode cX2_terminatorCost 44 = .ok (.ireturn, 1) := by decide +kernel
set_option maxRecDepth 20000 in
theorem ggX2_tailOfSet_X2_contains : GoodIn wsX2_tailOfSet wsX2_contains := goodIn_r _ [10] (by decide +kernel) (by decide +kernel)
set_option maxRecDepth 20000 in
theorem gX2_tailOfSet_X2_contains : GoodIn wsX2_tailOfSet (va_wsS RX2 53 yX2_contains wsX2_contains) := goodIn_app (goodIn_of _ (by decide +kernel)) ggX2_tailOfSet_X2_contains
set_option maxRecDepth 20000 in
theorem ggX2_tailOfSet_X0_tailSharedWith : GoodIn wsX2_tailOfSet wsX0_tailSharedWith := goodIn_r _ [14, 15, 16, 4, 5, 6, 17, 18, 19, 12, 20, 21, 22, 23, 24, 25, 26, 27, 28, 29, 30, 36, 37, 38, 39, 40, 41, 42, 43] (by decide +kernel) (by decide +kernel)
set_option maxRecDepth 20000 in
theorem gX2_tailOfSet_X0_tailSharedWith_n57 : GoodIn wsX2_tailOfSet (wsX0_tailSharedWith) := ggX2_tailOfSet_X0_tailSharedWith
theorem dX2_tailOfSet_0 : decode cX2_tailOfSet 0 = .ok (.sipush (-1008), 3) := by decide +kernel
theorem dX2_tailOfSet_3 : decode cX2_tailOfSet 3 = .ok (.istore_n 2, 1) := by decide +kernel
theorem dX2_tailOfSet_4 : decode cX2_tailOfSet 4 = .ok (.sipush (-1005), 3) := by decide +kernel
theorem dX2_tailOfSet_7 : decode cX2_tailOfSet 7 = .ok (.istore_n 3, 1) := by decide +kernel
theorem dX2_tailOfSet_8 : decode cX2_tailOfSet 8 = .ok (.iconst 0, 1) := by decide +kernel
theorem dX2_tailOfSet_9 : decode cX2_tailOfSet 9 = .ok (.istore 4, 2) := by decide +kernel
theorem dX2_tailOfSet_11 : decode cX2_tailOfSet 11 = .ok (.iload 4, 2) := by decide +kernel
theorem dX2_tailOfSet_13 : decode cX2_tailOfSet 13 = .ok (.aload_n 0, 1) := by decide +kernel
theorem dX2_tailOfSet_14 : decode cX2_tailOfSet 14 = .ok (.getfield 18, 3) := by decide +kernel
theorem dX2_tailOfSet_17 : decode cX2_tailOfSet 17 = .ok (.if_icmp .ge 63, 3) := by decide +kernel
theorem dX2_tailOfSet_20 : decode cX2_tailOfSet 20 = .ok (.iload_n 1, 1) := by decide +kernel
theorem dX2_tailOfSet_21 : decode cX2_tailOfSet 21 = .ok (.iload 4, 2) := by decide +kernel
theorem dX2_tailOfSet_23 : decode cX2_tailOfSet 23 = .ok (.invokestatic 53, 3) := by decide +kernel
theorem dX2_tailOfSet_26 : decode cX2_tailOfSet 26 = .ok (.ifCond .eq 48, 3) := by decide +kernel
theorem dX2_tailOfSet_29 : decode cX2_tailOfSet 29 = .ok (.iload_n 2, 1) := by decide +kernel
theorem dX2_tailOfSet_30 : decode cX2_tailOfSet 30 = .ok (.sipush (-1008), 3) := by decide +kernel
theorem dX2_tailOfSet_33 : decode cX2_tailOfSet 33 = .ok (.if_icmp .ne 20, 3) := by decide +kernel
theorem dX2_tailOfSet_36 : decode cX2_tailOfSet 36 = .ok (.iload 4, 2) := by decide +kernel
theorem dX2_tailOfSet_38 : decode cX2_tailOfSet 38 = .ok (.istore_n 2, 1) := by decide +kernel
theorem dX2_tailOfSet_39 : decode cX2_tailOfSet 39 = .ok (.aload_n 0, 1) := by decide +kernel
theorem dX2_tailOfSet_40 : decode cX2_tailOfSet 40 = .ok (.getfield 11, 3) := by decide +kernel
theorem dX2_tailOfSet_43 : decode cX2_tailOfSet 43 = .ok (.iload 4, 2) := by decide +kernel
theorem dX2_tailOfSet_45 : decode cX2_tailOfSet 45 = .ok (.aaload, 1) := by decide +kernel
theorem dX2_tailOfSet_46 : decode cX2_tailOfSet 46 = .ok (.getfield 45, 3) := by decide +kernel
theorem dX2_tailOfSet_49 : decode cX2_tailOfSet 49 = .ok (.istore_n 3, 1) := by decide +kernel
theorem dX2_tailOfSet_50 : decode cX2_tailOfSet 50 = .ok (.goto 24, 3) := by decide +kernel
theorem dX2_tailOfSet_53 : decode cX2_tailOfSet 53 = .ok (.iload_n 3, 1) := by decide +kernel
theorem dX2_tailOfSet_54 : decode cX2_tailOfSet 54 = .ok (.aload_n 0, 1) := by decide +kernel
theorem dX2_tailOfSet_55 : decode cX2_tailOfSet 55 = .ok (.getfield 11, 3) := by decide +kernel
theorem dX2_tailOfSet_58 : decode cX2_tailOfSet 58 = .ok (.iload_n 2, 1) := by decide +kernel
theorem dX2_tailOfSet_59 : decode cX2_tailOfSet 59 = .ok (.aaload, 1) := by decide +kernel
theorem dX2_tailOfSet_60 : decode cX2_tailOfSet 60 = .ok (.aload_n 0, 1) := by decide +kernel
theorem dX2_tailOfSet_61 : decode cX2_tailOfSet 61 = .ok (.getfield 11, 3) := by decide +kernel
theorem dX2_tailOfSet_64 : decode cX2_tailOfSet 64 = .ok (.iload 4, 2) := by decide +kernel
theorem dX2_tailOfSet_66 : decode cX2_tailOfSet 66 = .ok (.aaload, 1) := by decide +kernel
theorem dX2_tailOfSet_67 : decode cX2_tailOfSet 67 = .ok (.invokevirtual 57, 3) := by decide +kernel
theorem dX2_tailOfSet_70 : decode cX2_tailOfSet 70 = .ok (.invokestatic 61, 3) := by decide +kernel
theorem dX2_tailOfSet_73 : decode cX2_tailOfSet 73 = .ok (.istore_n 3, 1) := by decide +kernel
theorem dX2_tailOfSet_74 : decode cX2_tailOfSet 74 = .ok (.iinc 4 1, 3) := by decide +kernel
theorem dX2_tailOfSet_77 : decode cX2_tailOfSet 77 = .ok (.goto (-66), 3) := by decide +kernel
theorem dX2_tailOfSet_80 : decode cX2_tailOfSet 80 = .ok (.iload_n 3, 1) := by decide +kernel
theorem dX2_tailOfSet_81 : decode cX2_tailOfSet 81 = .ok (.ireturn, 1) := by decide +kernel
theorem dX2_contains_0 : decode cX2_contains 0 = .ok (.iload_n 0, 1) := by decide +kernel
theorem dX2_contains_1 : decode cX2_contains 1 = .ok (.iload_n 1, 1) := by decide +kernel
theorem dX2_contains_2 : decode cX2_contains 2 = .ok (.ishr, 1) := by decide +kernel
theorem dX2_contains_3 : decode cX2_contains 3 = .ok (.iconst 1, 1) := by decide +kernel
theorem dX2_contains_4 : decode cX2_contains 4 = .ok (.iand, 1) := by decide +kernel
theorem dX2_contains_5 : decode cX2_contains 5 = .ok (.iconst 1, 1) := by decide +kernel
theorem dX2_contains_6 : decode cX2_contains 6 = .ok (.if_icmp .ne 7, 3) := by decide +kernel
theorem dX2_contains_9 : decode cX2_contains 9 = .ok (.iconst 1, 1) := by decide +kernel
theorem dX2_contains_10 : decode cX2_contains 10 = .ok (.goto 4, 3) := by decide +kernel
theorem dX2_contains_13 : decode cX2_contains 13 = .ok (.iconst 0, 1) := by decide +kernel
theorem dX2_contains_14 : decode cX2_contains 14 = .ok (.ireturn, 1) := by decide +kernel
set_option maxRecDepth 20000 in
theorem ggX2_savingOfSet_X2_contains : GoodIn wsX2_savingOfSet wsX2_contains := goodIn_r _ [5] (by decide +kernel) (by decide +kernel)
set_option maxRecDepth 20000 in
theorem gX2_savingOfSet_X2_contains : GoodIn wsX2_savingOfSet (va_wsS RX2 53 yX2_contains wsX2_contains) := goodIn_app (goodIn_of _ (by decide +kernel)) ggX2_savingOfSet_X2_contains
set_option maxRecDepth 20000 in
theorem ggX2_savingOfSet_J6_bitCount_0f7a4 : GoodIn wsX2_savingOfSet wsJ6_bitCount_0f7a4 := goodIn_r _ [9, 10, 11, 12] (by decide +kernel) (by decide +kernel)
set_option maxRecDepth 20000 in
theorem gX2_savingOfSet_J6_bitCount_0f7a4 : GoodIn wsX2_savingOfSet (va_wsS RX2 67 yJ6_bitCount_0f7a4 wsJ6_bitCount_0f7a4) := goodIn_app (goodIn_of _ (by decide +kernel)) ggX2_savingOfSet_J6_bitCount_0f7a4
set_option maxRecDepth 20000 in
theorem ggX2_savingOfSet_X2_terminatorCost : GoodIn wsX2_savingOfSet wsX2_terminatorCost := goodIn_r _ [16, 17, 18, 23, 24, 25, 26, 27, 28, 29, 30, 31, 32, 33, 34, 35] (by decide +kernel) (by decide +kernel)
set_option maxRecDepth 20000 in
theorem gX2_savingOfSet_X2_terminatorCost : GoodIn wsX2_savingOfSet (wsV RX2 46 RX2 yX2_terminatorCost wsX2_terminatorCost) := goodIn_app (goodIn_of _ (by decide +kernel)) ggX2_savingOfSet_X2_terminatorCost
set_option maxRecDepth 20000 in
theorem ggX2_savingOfSet_X2_savingOf : GoodIn wsX2_savingOfSet wsX2_savingOf := goodIn_r _ [22, 18, 23, 24, 25, 26, 27] (by decide +kernel) (by decide +kernel)
set_option maxRecDepth 20000 in
theorem gX2_savingOfSet_X2_savingOf : GoodIn wsX2_savingOfSet (wsV RX2 72 RX2 yX2_savingOf wsX2_savingOf) := goodIn_app (goodIn_of _ (by decide +kernel)) ggX2_savingOfSet_X2_savingOf
theorem dX2_savingOfSet_0 : decode cX2_savingOfSet 0 = .ok (.iconst 0, 1) := by decide +kernel
theorem dX2_savingOfSet_1 : decode cX2_savingOfSet 1 = .ok (.istore_n 3, 1) := by decide +kernel
theorem dX2_savingOfSet_2 : decode cX2_savingOfSet 2 = .ok (.iconst 0, 1) := by decide +kernel
theorem dX2_savingOfSet_3 : decode cX2_savingOfSet 3 = .ok (.istore 4, 2) := by decide +kernel
theorem dX2_savingOfSet_5 : decode cX2_savingOfSet 5 = .ok (.iload 4, 2) := by decide +kernel
theorem dX2_savingOfSet_7 : decode cX2_savingOfSet 7 = .ok (.aload_n 0, 1) := by decide +kernel
theorem dX2_savingOfSet_8 : decode cX2_savingOfSet 8 = .ok (.getfield 18, 3) := by decide +kernel
theorem dX2_savingOfSet_11 : decode cX2_savingOfSet 11 = .ok (.if_icmp .ge 21, 3) := by decide +kernel
theorem dX2_savingOfSet_14 : decode cX2_savingOfSet 14 = .ok (.iload_n 1, 1) := by decide +kernel
theorem dX2_savingOfSet_15 : decode cX2_savingOfSet 15 = .ok (.iload 4, 2) := by decide +kernel
theorem dX2_savingOfSet_17 : decode cX2_savingOfSet 17 = .ok (.invokestatic 53, 3) := by decide +kernel
theorem dX2_savingOfSet_20 : decode cX2_savingOfSet 20 = .ok (.ifCond .eq 6, 3) := by decide +kernel
theorem dX2_savingOfSet_23 : decode cX2_savingOfSet 23 = .ok (.iload 4, 2) := by decide +kernel
theorem dX2_savingOfSet_25 : decode cX2_savingOfSet 25 = .ok (.istore_n 3, 1) := by decide +kernel
theorem dX2_savingOfSet_26 : decode cX2_savingOfSet 26 = .ok (.iinc 4 1, 3) := by decide +kernel
theorem dX2_savingOfSet_29 : decode cX2_savingOfSet 29 = .ok (.goto (-24), 3) := by decide +kernel
theorem dX2_savingOfSet_32 : decode cX2_savingOfSet 32 = .ok (.aload_n 0, 1) := by decide +kernel
theorem dX2_savingOfSet_33 : decode cX2_savingOfSet 33 = .ok (.iload_n 1, 1) := by decide +kernel
theorem dX2_savingOfSet_34 : decode cX2_savingOfSet 34 = .ok (.invokestatic 67, 3) := by decide +kernel
theorem dX2_savingOfSet_37 : decode cX2_savingOfSet 37 = .ok (.iload_n 2, 1) := by decide +kernel
theorem dX2_savingOfSet_38 : decode cX2_savingOfSet 38 = .ok (.aload_n 0, 1) := by decide +kernel
theorem dX2_savingOfSet_39 : decode cX2_savingOfSet 39 = .ok (.iload_n 3, 1) := by decide +kernel
theorem dX2_savingOfSet_40 : decode cX2_savingOfSet 40 = .ok (.invokevirtual 46, 3) := by decide +kernel
theorem dX2_savingOfSet_43 : decode cX2_savingOfSet 43 = .ok (.invokevirtual 72, 3) := by decide +kernel
theorem dX2_savingOfSet_46 : decode cX2_savingOfSet 46 = .ok (.ireturn, 1) := by decide +kernel
theorem dX2_savingOf_0 : decode cX2_savingOf 0 = .ok (.iload_n 1, 1) := by decide +kernel
theorem dX2_savingOf_1 : decode cX2_savingOf 1 = .ok (.iconst 1, 1) := by decide +kernel
theorem dX2_savingOf_2 : decode cX2_savingOf 2 = .ok (.isub, 1) := by decide +kernel
theorem dX2_savingOf_3 : decode cX2_savingOf 3 = .ok (.iload_n 2, 1) := by decide +kernel
theorem dX2_savingOf_4 : decode cX2_savingOf 4 = .ok (.iload_n 3, 1) := by decide +kernel
theorem dX2_savingOf_5 : decode cX2_savingOf 5 = .ok (.iadd, 1) := by decide +kernel
theorem dX2_savingOf_6 : decode cX2_savingOf 6 = .ok (.imul, 1) := by decide +kernel
theorem dX2_savingOf_7 : decode cX2_savingOf 7 = .ok (.iload_n 1, 1) := by decide +kernel
theorem dX2_savingOf_8 : decode cX2_savingOf 8 = .ok (.aload_n 0, 1) := by decide +kernel
theorem dX2_savingOf_9 : decode cX2_savingOf 9 = .ok (.getfield 22, 3) := by decide +kernel
theorem dX2_savingOf_12 : decode cX2_savingOf 12 = .ok (.imul, 1) := by decide +kernel
theorem dX2_savingOf_13 : decode cX2_savingOf 13 = .ok (.isub, 1) := by decide +kernel
theorem dX2_savingOf_14 : decode cX2_savingOf 14 = .ok (.ireturn, 1) := by decide +kernel
set_option maxRecDepth 20000 in
theorem ggX2_bestSet_X2_compareWithLater : GoodIn wsX2_bestSet wsX2_compareWithLater := goodIn_r _ [7, 1, 8, 2, 9, 10, 11, 12, 13, 14, 15, 16, 17, 18, 19, 20, 21, 22, 23, 24, 25, 26, 27, 28, 29, 30, 31, 52, 53, 54, 55, 56, 57, 58, 59, 60, 61, 62, 63, 64] (by decide +kernel) (by decide +kernel)
set_option maxRecDepth 20000 in
theorem gX2_bestSet_X2_compareWithLater : GoodIn wsX2_bestSet (wsV RX2 76 RX2 yX2_compareWithLater wsX2_compareWithLater) := goodIn_app (goodIn_of _ (by decide +kernel)) ggX2_bestSet_X2_compareWithLater
set_option maxRecDepth 20000 in
theorem ggX2_bestSet_X2_terminatorCost : GoodIn wsX2_bestSet wsX2_terminatorCost := goodIn_r _ [35, 2, 36, 52, 53, 54, 55, 56, 57, 58, 59, 60, 61, 62, 63, 64] (by decide +kernel) (by decide +kernel)
set_option maxRecDepth 20000 in
theorem gX2_bestSet_X2_terminatorCost : GoodIn wsX2_bestSet (wsV RX2 46 RX2 yX2_terminatorCost wsX2_terminatorCost) := goodIn_app (goodIn_of _ (by decide +kernel)) ggX2_bestSet_X2_terminatorCost
set_option maxRecDepth 20000 in
theorem ggX2_bestSet_X2_sharersFrom : GoodIn wsX2_bestSet wsX2_sharersFrom := goodIn_r _ [40, 1, 8, 52, 53, 54, 55, 56] (by decide +kernel) (by decide +kernel)
set_option maxRecDepth 20000 in
theorem gX2_bestSet_X2_sharersFrom : GoodIn wsX2_bestSet (wsV RX2 80 RX2 yX2_sharersFrom wsX2_sharersFrom) := goodIn_app (goodIn_of _ (by decide +kernel)) ggX2_bestSet_X2_sharersFrom
set_option maxRecDepth 20000 in
theorem ggX2_bestSet_J6_bitCount_0f7a4 : GoodIn wsX2_bestSet wsJ6_bitCount_0f7a4 := goodIn_r _ [44, 45, 46, 47] (by decide +kernel) (by decide +kernel)
set_option maxRecDepth 20000 in
theorem gX2_bestSet_J6_bitCount_0f7a4 : GoodIn wsX2_bestSet (va_wsS RX2 67 yJ6_bitCount_0f7a4 wsJ6_bitCount_0f7a4) := goodIn_app (goodIn_of _ (by decide +kernel)) ggX2_bestSet_J6_bitCount_0f7a4
set_option maxRecDepth 20000 in
theorem ggX2_bestSet_X2_savingOf : GoodIn wsX2_bestSet wsX2_savingOf := goodIn_r _ [51, 36, 52, 53, 54, 55, 56] (by decide +kernel) (by decide +kernel)
set_option maxRecDepth 20000 in
theorem gX2_bestSet_X2_savingOf : GoodIn wsX2_bestSet (wsV RX2 72 RX2 yX2_savingOf wsX2_savingOf) := goodIn_app (goodIn_of _ (by decide +kernel)) ggX2_bestSet_X2_savingOf
theorem dX2_bestSet_0 : decode cX2_bestSet 0 = .ok (.sipush (-1008), 3) := by decide +kernel
theorem dX2_bestSet_3 : decode cX2_bestSet 3 = .ok (.istore_n 1, 1) := by decide +kernel
theorem dX2_bestSet_4 : decode cX2_bestSet 4 = .ok (.iconst 0, 1) := by decide +kernel
theorem dX2_bestSet_5 : decode cX2_bestSet 5 = .ok (.istore_n 2, 1) := by decide +kernel
theorem dX2_bestSet_6 : decode cX2_bestSet 6 = .ok (.iconst 0, 1) := by decide +kernel
theorem dX2_bestSet_7 : decode cX2_bestSet 7 = .ok (.istore_n 3, 1) := by decide +kernel
theorem dX2_bestSet_8 : decode cX2_bestSet 8 = .ok (.iload_n 3, 1) := by decide +kernel
theorem dX2_bestSet_9 : decode cX2_bestSet 9 = .ok (.aload_n 0, 1) := by decide +kernel
theorem dX2_bestSet_10 : decode cX2_bestSet 10 = .ok (.getfield 18, 3) := by decide +kernel
theorem dX2_bestSet_13 : decode cX2_bestSet 13 = .ok (.if_icmp .ge 92, 3) := by decide +kernel
theorem dX2_bestSet_16 : decode cX2_bestSet 16 = .ok (.aload_n 0, 1) := by decide +kernel
theorem dX2_bestSet_17 : decode cX2_bestSet 17 = .ok (.iload_n 3, 1) := by decide +kernel
theorem dX2_bestSet_18 : decode cX2_bestSet 18 = .ok (.invokevirtual 76, 3) := by decide +kernel
theorem dX2_bestSet_21 : decode cX2_bestSet 21 = .ok (.aload_n 0, 1) := by decide +kernel
theorem dX2_bestSet_22 : decode cX2_bestSet 22 = .ok (.iload_n 3, 1) := by decide +kernel
theorem dX2_bestSet_23 : decode cX2_bestSet 23 = .ok (.invokevirtual 46, 3) := by decide +kernel
theorem dX2_bestSet_26 : decode cX2_bestSet 26 = .ok (.istore 4, 2) := by decide +kernel
theorem dX2_bestSet_28 : decode cX2_bestSet 28 = .ok (.iconst 0, 1) := by decide +kernel
theorem dX2_bestSet_29 : decode cX2_bestSet 29 = .ok (.istore 5, 2) := by decide +kernel
theorem dX2_bestSet_31 : decode cX2_bestSet 31 = .ok (.iload 5, 2) := by decide +kernel
theorem dX2_bestSet_33 : decode cX2_bestSet 33 = .ok (.aload_n 0, 1) := by decide +kernel
theorem dX2_bestSet_34 : decode cX2_bestSet 34 = .ok (.getfield 11, 3) := by decide +kernel
theorem dX2_bestSet_37 : decode cX2_bestSet 37 = .ok (.iload_n 3, 1) := by decide +kernel
theorem dX2_bestSet_38 : decode cX2_bestSet 38 = .ok (.aaload, 1) := by decide +kernel
theorem dX2_bestSet_39 : decode cX2_bestSet 39 = .ok (.getfield 45, 3) := by decide +kernel
theorem dX2_bestSet_42 : decode cX2_bestSet 42 = .ok (.if_icmp .gt 57, 3) := by decide +kernel
theorem dX2_bestSet_45 : decode cX2_bestSet 45 = .ok (.aload_n 0, 1) := by decide +kernel
theorem dX2_bestSet_46 : decode cX2_bestSet 46 = .ok (.iload_n 3, 1) := by decide +kernel
theorem dX2_bestSet_47 : decode cX2_bestSet 47 = .ok (.iload 5, 2) := by decide +kernel
theorem dX2_bestSet_49 : decode cX2_bestSet 49 = .ok (.invokevirtual 80, 3) := by decide +kernel
theorem dX2_bestSet_52 : decode cX2_bestSet 52 = .ok (.istore 6, 2) := by decide +kernel
theorem dX2_bestSet_54 : decode cX2_bestSet 54 = .ok (.aload_n 0, 1) := by decide +kernel
theorem dX2_bestSet_55 : decode cX2_bestSet 55 = .ok (.iload 6, 2) := by decide +kernel
theorem dX2_bestSet_57 : decode cX2_bestSet 57 = .ok (.invokestatic 67, 3) := by decide +kernel
theorem dX2_bestSet_60 : decode cX2_bestSet 60 = .ok (.iload 5, 2) := by decide +kernel
theorem dX2_bestSet_62 : decode cX2_bestSet 62 = .ok (.iload 4, 2) := by decide +kernel
theorem dX2_bestSet_64 : decode cX2_bestSet 64 = .ok (.invokevirtual 72, 3) := by decide +kernel
theorem dX2_bestSet_67 : decode cX2_bestSet 67 = .ok (.istore 7, 2) := by decide +kernel
theorem dX2_bestSet_69 : decode cX2_bestSet 69 = .ok (.iload 7, 2) := by decide +kernel
theorem dX2_bestSet_71 : decode cX2_bestSet 71 = .ok (.iload_n 2, 1) := by decide +kernel
theorem dX2_bestSet_72 : decode cX2_bestSet 72 = .ok (.if_icmp .gt 15, 3) := by decide +kernel
theorem dX2_bestSet_75 : decode cX2_bestSet 75 = .ok (.iload 7, 2) := by decide +kernel
theorem dX2_bestSet_77 : decode cX2_bestSet 77 = .ok (.iload_n 2, 1) := by decide +kernel
theorem dX2_bestSet_78 : decode cX2_bestSet 78 = .ok (.if_icmp .ne 15, 3) := by decide +kernel
theorem dX2_bestSet_81 : decode cX2_bestSet 81 = .ok (.iload 6, 2) := by decide +kernel
theorem dX2_bestSet_83 : decode cX2_bestSet 83 = .ok (.iload_n 1, 1) := by decide +kernel
theorem dX2_bestSet_84 : decode cX2_bestSet 84 = .ok (.if_icmp .ge 9, 3) := by decide +kernel
theorem dX2_bestSet_87 : decode cX2_bestSet 87 = .ok (.iload 6, 2) := by decide +kernel
theorem dX2_bestSet_89 : decode cX2_bestSet 89 = .ok (.istore_n 1, 1) := by decide +kernel
theorem dX2_bestSet_90 : decode cX2_bestSet 90 = .ok (.iload 7, 2) := by decide +kernel
theorem dX2_bestSet_92 : decode cX2_bestSet 92 = .ok (.istore_n 2, 1) := by decide +kernel
theorem dX2_bestSet_93 : decode cX2_bestSet 93 = .ok (.iinc 5 1, 3) := by decide +kernel
theorem dX2_bestSet_96 : decode cX2_bestSet 96 = .ok (.goto (-65), 3) := by decide +kernel
theorem dX2_bestSet_99 : decode cX2_bestSet 99 = .ok (.iinc 3 1, 3) := by decide +kernel
theorem dX2_bestSet_102 : decode cX2_bestSet 102 = .ok (.goto (-94), 3) := by decide +kernel
theorem dX2_bestSet_105 : decode cX2_bestSet 105 = .ok (.iload_n 1, 1) := by decide +kernel
theorem dX2_bestSet_106 : decode cX2_bestSet 106 = .ok (.ireturn, 1) := by decide +kernel
set_option maxRecDepth 20000 in
theorem ggX2_compareWithLater_X0_tailSharedWith : GoodIn wsX2_compareWithLater wsX0_tailSharedWith := goodIn_r _ [7, 8, 9, 10, 11, 12, 13, 14, 15, 5, 16, 17, 18, 19, 20, 21, 22, 23, 24, 25, 26, 32, 33, 34, 35, 36, 37, 38, 39] (by decide +kernel) (by decide +kernel)
set_option maxRecDepth 20000 in
theorem gX2_compareWithLater_X0_tailSharedWith_n57 : GoodIn wsX2_compareWithLater (wsX0_tailSharedWith) := ggX2_compareWithLater_X0_tailSharedWith
theorem dX2_compareWithLater_0 : decode cX2_compareWithLater 0 = .ok (.iload_n 1, 1) := by decide +kernel
theorem dX2_compareWithLater_1 : decode cX2_compareWithLater 1 = .ok (.iconst 1, 1) := by decide +kernel
theorem dX2_compareWithLater_2 : decode cX2_compareWithLater 2 = .ok (.iadd, 1) := by decide +kernel
theorem dX2_compareWithLater_3 : decode cX2_compareWithLater 3 = .ok (.istore_n 2, 1) := by decide +kernel
theorem dX2_compareWithLater_4 : decode cX2_compareWithLater 4 = .ok (.iload_n 2, 1) := by decide +kernel
theorem dX2_compareWithLater_5 : decode cX2_compareWithLater 5 = .ok (.aload_n 0, 1) := by decide +kernel
theorem dX2_compareWithLater_6 : decode cX2_compareWithLater 6 = .ok (.getfield 18, 3) := by decide +kernel
theorem dX2_compareWithLater_9 : decode cX2_compareWithLater 9 = .ok (.if_icmp .ge 30, 3) := by decide +kernel
theorem dX2_compareWithLater_12 : decode cX2_compareWithLater 12 = .ok (.aload_n 0, 1) := by decide +kernel
theorem dX2_compareWithLater_13 : decode cX2_compareWithLater 13 = .ok (.getfield 29, 3) := by decide +kernel
theorem dX2_compareWithLater_16 : decode cX2_compareWithLater 16 = .ok (.iload_n 2, 1) := by decide +kernel
theorem dX2_compareWithLater_17 : decode cX2_compareWithLater 17 = .ok (.aload_n 0, 1) := by decide +kernel
theorem dX2_compareWithLater_18 : decode cX2_compareWithLater 18 = .ok (.getfield 11, 3) := by decide +kernel
theorem dX2_compareWithLater_21 : decode cX2_compareWithLater 21 = .ok (.iload_n 1, 1) := by decide +kernel
theorem dX2_compareWithLater_22 : decode cX2_compareWithLater 22 = .ok (.aaload, 1) := by decide +kernel
theorem dX2_compareWithLater_23 : decode cX2_compareWithLater 23 = .ok (.aload_n 0, 1) := by decide +kernel
theorem dX2_compareWithLater_24 : decode cX2_compareWithLater 24 = .ok (.getfield 11, 3) := by decide +kernel
theorem dX2_compareWithLater_27 : decode cX2_compareWithLater 27 = .ok (.iload_n 2, 1) := by decide +kernel
theorem dX2_compareWithLater_28 : decode cX2_compareWithLater 28 = .ok (.aaload, 1) := by decide +kernel
theorem dX2_compareWithLater_29 : decode cX2_compareWithLater 29 = .ok (.invokevirtual 57, 3) := by decide +kernel
theorem dX2_compareWithLater_32 : decode cX2_compareWithLater 32 = .ok (.iastore, 1) := by decide +kernel
theorem dX2_compareWithLater_33 : decode cX2_compareWithLater 33 = .ok (.iinc 2 1, 3) := by decide +kernel
theorem dX2_compareWithLater_36 : decode cX2_compareWithLater 36 = .ok (.goto (-32), 3) := by decide +kernel
theorem dX2_compareWithLater_39 : decode cX2_compareWithLater 39 = .ok (.return_, 1) := by decide +kernel
theorem dX2_sharersFrom_0 : decode cX2_sharersFrom 0 = .ok (.iconst 1, 1) := by decide +kernel
theorem dX2_sharersFrom_1 : decode cX2_sharersFrom 1 = .ok (.iload_n 1, 1) := by decide +kernel
theorem dX2_sharersFrom_2 : decode cX2_sharersFrom 2 = .ok (.ishl, 1) := by decide +kernel
theorem dX2_sharersFrom_3 : decode cX2_sharersFrom 3 = .ok (.istore_n 3, 1) := by decide +kernel
theorem dX2_sharersFrom_4 : decode cX2_sharersFrom 4 = .ok (.iload_n 1, 1) := by decide +kernel
theorem dX2_sharersFrom_5 : decode cX2_sharersFrom 5 = .ok (.iconst 1, 1) := by decide +kernel
theorem dX2_sharersFrom_6 : decode cX2_sharersFrom 6 = .ok (.iadd, 1) := by decide +kernel
theorem dX2_sharersFrom_7 : decode cX2_sharersFrom 7 = .ok (.istore 4, 2) := by decide +kernel
theorem dX2_sharersFrom_9 : decode cX2_sharersFrom 9 = .ok (.iload 4, 2) := by decide +kernel
theorem dX2_sharersFrom_11 : decode cX2_sharersFrom 11 = .ok (.aload_n 0, 1) := by decide +kernel
theorem dX2_sharersFrom_12 : decode cX2_sharersFrom 12 = .ok (.getfield 18, 3) := by decide +kernel
theorem dX2_sharersFrom_15 : decode cX2_sharersFrom 15 = .ok (.if_icmp .ge 27, 3) := by decide +kernel
theorem dX2_sharersFrom_18 : decode cX2_sharersFrom 18 = .ok (.aload_n 0, 1) := by decide +kernel
theorem dX2_sharersFrom_19 : decode cX2_sharersFrom 19 = .ok (.getfield 29, 3) := by decide +kernel
theorem dX2_sharersFrom_22 : decode cX2_sharersFrom 22 = .ok (.iload 4, 2) := by decide +kernel
theorem dX2_sharersFrom_24 : decode cX2_sharersFrom 24 = .ok (.iaload, 1) := by decide +kernel
theorem dX2_sharersFrom_25 : decode cX2_sharersFrom 25 = .ok (.iload_n 2, 1) := by decide +kernel
theorem dX2_sharersFrom_26 : decode cX2_sharersFrom 26 = .ok (.if_icmp .lt 10, 3) := by decide +kernel
theorem dX2_sharersFrom_29 : decode cX2_sharersFrom 29 = .ok (.iload_n 3, 1) := by decide +kernel
theorem dX2_sharersFrom_30 : decode cX2_sharersFrom 30 = .ok (.iconst 1, 1) := by decide +kernel
theorem dX2_sharersFrom_31 : decode cX2_sharersFrom 31 = .ok (.iload 4, 2) := by decide +kernel
theorem dX2_sharersFrom_33 : decode cX2_sharersFrom 33 = .ok (.ishl, 1) := by decide +kernel
theorem dX2_sharersFrom_34 : decode cX2_sharersFrom 34 = .ok (.ior, 1) := by decide +kernel
theorem dX2_sharersFrom_35 : decode cX2_sharersFrom 35 = .ok (.istore_n 3, 1) := by decide +kernel
theorem dX2_sharersFrom_36 : decode cX2_sharersFrom 36 = .ok (.iinc 4 1, 3) := by decide +kernel
theorem dX2_sharersFrom_39 : decode cX2_sharersFrom 39 = .ok (.goto (-30), 3) := by decide +kernel
theorem dX2_sharersFrom_42 : decode cX2_sharersFrom 42 = .ok (.iload_n 3, 1) := by decide +kernel
theorem dX2_sharersFrom_43 : decode cX2_sharersFrom 43 = .ok (.ireturn, 1) := by decide +kernel
set_option maxRecDepth 20000 in
theorem ggX2_mergeSet_X2_appendBlock : GoodIn wsX2_mergeSet wsX2_appendBlock := goodIn_r _ [6, 7, 1, 8, 9, 10, 11, 12, 13, 14, 15, 16, 17, 18, 40, 41, 42, 43, 44, 45, 46, 47, 48, 49, 50, 51, 52] (by decide +kernel) (by decide +kernel)
set_option maxRecDepth 20000 in
theorem gX2_mergeSet_X2_appendBlock : GoodIn wsX2_mergeSet (wsV RX2 83 RX2 yX2_appendBlock wsX2_appendBlock) := goodIn_app (goodIn_of _ (by decide +kernel)) ggX2_mergeSet_X2_appendBlock
set_option maxRecDepth 20000 in
theorem ggX2_mergeSet_X2_contains : GoodIn wsX2_mergeSet wsX2_contains := goodIn_r _ [21] (by decide +kernel) (by decide +kernel)
set_option maxRecDepth 20000 in
theorem gX2_mergeSet_X2_contains : GoodIn wsX2_mergeSet (va_wsS RX2 53 yX2_contains wsX2_contains) := goodIn_app (goodIn_of _ (by decide +kernel)) ggX2_mergeSet_X2_contains
set_option maxRecDepth 20000 in
theorem ggX2_mergeSet_X0_uniteLines : GoodIn wsX2_mergeSet wsX0_uniteLines := goodIn_r _ [24, 25, 12, 45, 46, 47, 48, 49, 50, 51, 52] (by decide +kernel) (by decide +kernel)
set_option maxRecDepth 20000 in
theorem gX2_mergeSet_X0_uniteLines_n87 : GoodIn wsX2_mergeSet (wsX0_uniteLines) := ggX2_mergeSet_X0_uniteLines
set_option maxRecDepth 20000 in
theorem ggX2_mergeSet_X0_appendTail : GoodIn wsX2_mergeSet wsX0_appendTail := goodIn_r _ [28, 12, 29, 30, 31, 32, 25, 17, 18, 33, 34, 35, 9, 36, 13, 14, 15, 16, 45, 46, 47, 48, 49, 50, 51, 52] (by decide +kernel) (by decide +kernel)
set_option maxRecDepth 20000 in
theorem gX2_mergeSet_X0_appendTail_n91 : GoodIn wsX2_mergeSet (wsX0_appendTail) := ggX2_mergeSet_X0_appendTail
set_option maxRecDepth 20000 in
theorem ggX2_mergeSet_X0_replaceTailByJump : GoodIn wsX2_mergeSet wsX0_replaceTailByJump := goodIn_r _ [39, 12, 13, 14, 15, 9, 16, 17, 18, 45, 46, 47, 48, 49, 50, 51, 52] (by decide +kernel) (by decide +kernel)
set_option maxRecDepth 20000 in
theorem gX2_mergeSet_X0_replaceTailByJump_n94 : GoodIn wsX2_mergeSet (wsX0_replaceTailByJump) := ggX2_mergeSet_X0_replaceTailByJump
theorem dX2_mergeSet_0 : decode cX2_mergeSet 0 = .ok (.aload_n 0, 1) := by decide +kernel
theorem dX2_mergeSet_1 : decode cX2_mergeSet 1 = .ok (.invokevirtual 83, 3) := by decide +kernel
theorem dX2_mergeSet_4 : decode cX2_mergeSet 4 = .ok (.istore_n 3, 1) := by decide +kernel
theorem dX2_mergeSet_5 : decode cX2_mergeSet 5 = .ok (.iload_n 3, 1) := by decide +kernel
theorem dX2_mergeSet_6 : decode cX2_mergeSet 6 = .ok (.sipush (-1004), 3) := by decide +kernel
theorem dX2_mergeSet_9 : decode cX2_mergeSet 9 = .ok (.if_icmp .ne 7, 3) := by decide +kernel
theorem dX2_mergeSet_12 : decode cX2_mergeSet 12 = .ok (.sipush (-1004), 3) := by decide +kernel
theorem dX2_mergeSet_15 : decode cX2_mergeSet 15 = .ok (.ireturn, 1) := by decide +kernel
theorem dX2_mergeSet_16 : decode cX2_mergeSet 16 = .ok (.iconst 0, 1) := by decide +kernel
theorem dX2_mergeSet_17 : decode cX2_mergeSet 17 = .ok (.istore 4, 2) := by decide +kernel
theorem dX2_mergeSet_19 : decode cX2_mergeSet 19 = .ok (.iconst 0, 1) := by decide +kernel
theorem dX2_mergeSet_20 : decode cX2_mergeSet 20 = .ok (.istore 5, 2) := by decide +kernel
theorem dX2_mergeSet_22 : decode cX2_mergeSet 22 = .ok (.iload 5, 2) := by decide +kernel
theorem dX2_mergeSet_24 : decode cX2_mergeSet 24 = .ok (.iload_n 3, 1) := by decide +kernel
theorem dX2_mergeSet_25 : decode cX2_mergeSet 25 = .ok (.if_icmp .ge 75, 3) := by decide +kernel
theorem dX2_mergeSet_28 : decode cX2_mergeSet 28 = .ok (.iload_n 1, 1) := by decide +kernel
theorem dX2_mergeSet_29 : decode cX2_mergeSet 29 = .ok (.iload 5, 2) := by decide +kernel
theorem dX2_mergeSet_31 : decode cX2_mergeSet 31 = .ok (.invokestatic 53, 3) := by decide +kernel
theorem dX2_mergeSet_34 : decode cX2_mergeSet 34 = .ok (.ifCond .eq 60, 3) := by decide +kernel
theorem dX2_mergeSet_37 : decode cX2_mergeSet 37 = .ok (.iload 4, 2) := by decide +kernel
theorem dX2_mergeSet_39 : decode cX2_mergeSet 39 = .ok (.ifCond .eq 23, 3) := by decide +kernel
theorem dX2_mergeSet_42 : decode cX2_mergeSet 42 = .ok (.aload_n 0, 1) := by decide +kernel
theorem dX2_mergeSet_43 : decode cX2_mergeSet 43 = .ok (.getfield 11, 3) := by decide +kernel
theorem dX2_mergeSet_46 : decode cX2_mergeSet 46 = .ok (.iload_n 3, 1) := by decide +kernel
theorem dX2_mergeSet_47 : decode cX2_mergeSet 47 = .ok (.aaload, 1) := by decide +kernel
theorem dX2_mergeSet_48 : decode cX2_mergeSet 48 = .ok (.aload_n 0, 1) := by decide +kernel
theorem dX2_mergeSet_49 : decode cX2_mergeSet 49 = .ok (.getfield 11, 3) := by decide +kernel
theorem dX2_mergeSet_52 : decode cX2_mergeSet 52 = .ok (.iload 5, 2) := by decide +kernel
theorem dX2_mergeSet_54 : decode cX2_mergeSet 54 = .ok (.aaload, 1) := by decide +kernel
theorem dX2_mergeSet_55 : decode cX2_mergeSet 55 = .ok (.iload_n 2, 1) := by decide +kernel
theorem dX2_mergeSet_56 : decode cX2_mergeSet 56 = .ok (.invokevirtual 87, 3) := by decide +kernel
theorem dX2_mergeSet_59 : decode cX2_mergeSet 59 = .ok (.goto 23, 3) := by decide +kernel
theorem dX2_mergeSet_62 : decode cX2_mergeSet 62 = .ok (.aload_n 0, 1) := by decide +kernel
theorem dX2_mergeSet_63 : decode cX2_mergeSet 63 = .ok (.getfield 11, 3) := by decide +kernel
theorem dX2_mergeSet_66 : decode cX2_mergeSet 66 = .ok (.iload_n 3, 1) := by decide +kernel
theorem dX2_mergeSet_67 : decode cX2_mergeSet 67 = .ok (.aaload, 1) := by decide +kernel
theorem dX2_mergeSet_68 : decode cX2_mergeSet 68 = .ok (.aload_n 0, 1) := by decide +kernel
theorem dX2_mergeSet_69 : decode cX2_mergeSet 69 = .ok (.getfield 11, 3) := by decide +kernel
theorem dX2_mergeSet_72 : decode cX2_mergeSet 72 = .ok (.iload 5, 2) := by decide +kernel
theorem dX2_mergeSet_74 : decode cX2_mergeSet 74 = .ok (.aaload, 1) := by decide +kernel
theorem dX2_mergeSet_75 : decode cX2_mergeSet 75 = .ok (.iload_n 2, 1) := by decide +kernel
theorem dX2_mergeSet_76 : decode cX2_mergeSet 76 = .ok (.invokevirtual 91, 3) := by decide +kernel
theorem dX2_mergeSet_79 : decode cX2_mergeSet 79 = .ok (.iconst 1, 1) := by decide +kernel
theorem dX2_mergeSet_80 : decode cX2_mergeSet 80 = .ok (.istore 4, 2) := by decide +kernel
theorem dX2_mergeSet_82 : decode cX2_mergeSet 82 = .ok (.aload_n 0, 1) := by decide +kernel
theorem dX2_mergeSet_83 : decode cX2_mergeSet 83 = .ok (.getfield 11, 3) := by decide +kernel
theorem dX2_mergeSet_86 : decode cX2_mergeSet 86 = .ok (.iload 5, 2) := by decide +kernel
theorem dX2_mergeSet_88 : decode cX2_mergeSet 88 = .ok (.aaload, 1) := by decide +kernel
theorem dX2_mergeSet_89 : decode cX2_mergeSet 89 = .ok (.iload_n 2, 1) := by decide +kernel
theorem dX2_mergeSet_90 : decode cX2_mergeSet 90 = .ok (.iload_n 3, 1) := by decide +kernel
theorem dX2_mergeSet_91 : decode cX2_mergeSet 91 = .ok (.invokevirtual 94, 3) := by decide +kernel
theorem dX2_mergeSet_94 : decode cX2_mergeSet 94 = .ok (.iinc 5 1, 3) := by decide +kernel
theorem dX2_mergeSet_97 : decode cX2_mergeSet 97 = .ok (.goto (-75), 3) := by decide +kernel
theorem dX2_mergeSet_100 : decode cX2_mergeSet 100 = .ok (.iload_n 3, 1) := by decide +kernel
theorem dX2_mergeSet_101 : decode cX2_mergeSet 101 = .ok (.ireturn, 1) := by decide +kernel
set_option maxRecDepth 20000 in
theorem ggX2_savingWithParameter_X2_terminatorCost : GoodIn wsX2_savingWithParameter wsX2_terminatorCost := goodIn_r _ [6, 7, 1, 8, 9, 10, 11, 12, 13, 14, 15, 16, 17, 18, 19, 20] (by decide +kernel) (by decide +kernel)
set_option maxRecDepth 20000 in
theorem gX2_savingWithParameter_X2_terminatorCost : GoodIn wsX2_savingWithParameter (wsV RX2 46 RX2 yX2_terminatorCost wsX2_terminatorCost) := goodIn_app (goodIn_of _ (by decide +kernel)) ggX2_savingWithParameter_X2_terminatorCost
theorem dX2_savingWithParameter_0 : decode cX2_savingWithParameter 0 = .ok (.iload_n 2, 1) := by decide +kernel
theorem dX2_savingWithParameter_1 : decode cX2_savingWithParameter 1 = .ok (.aload_n 0, 1) := by decide +kernel
theorem dX2_savingWithParameter_2 : decode cX2_savingWithParameter 2 = .ok (.iload_n 1, 1) := by decide +kernel
theorem dX2_savingWithParameter_3 : decode cX2_savingWithParameter 3 = .ok (.invokevirtual 46, 3) := by decide +kernel
theorem dX2_savingWithParameter_6 : decode cX2_savingWithParameter 6 = .ok (.iadd, 1) := by decide +kernel
theorem dX2_savingWithParameter_7 : decode cX2_savingWithParameter 7 = .ok (.iconst 2, 1) := by decide +kernel
theorem dX2_savingWithParameter_8 : decode cX2_savingWithParameter 8 = .ok (.aload_n 0, 1) := by decide +kernel
theorem dX2_savingWithParameter_9 : decode cX2_savingWithParameter 9 = .ok (.getfield 22, 3) := by decide +kernel
theorem dX2_savingWithParameter_12 : decode cX2_savingWithParameter 12 = .ok (.imul, 1) := by decide +kernel
theorem dX2_savingWithParameter_13 : decode cX2_savingWithParameter 13 = .ok (.isub, 1) := by decide +kernel
theorem dX2_savingWithParameter_14 : decode cX2_savingWithParameter 14 = .ok (.iconst 2, 1) := by decide +kernel
theorem dX2_savingWithParameter_15 : decode cX2_savingWithParameter 15 = .ok (.isub, 1) := by decide +kernel
theorem dX2_savingWithParameter_16 : decode cX2_savingWithParameter 16 = .ok (.ireturn, 1) := by decide +kernel
set_option maxRecDepth 20000 in
theorem ggX2_mergePair_X2_appendBlock : GoodIn wsX2_mergePair wsX2_appendBlock := goodIn_r _ [6, 7, 1, 8, 9, 10, 11, 12, 13, 14, 15, 16, 17, 18, 47, 48, 49, 50, 51, 52, 53, 54, 55, 56, 57, 58, 59] (by decide +kernel) (by decide +kernel)
set_option maxRecDepth 20000 in
theorem gX2_mergePair_X2_appendBlock : GoodIn wsX2_mergePair (wsV RX2 83 RX2 yX2_appendBlock wsX2_appendBlock) := goodIn_app (goodIn_of _ (by decide +kernel)) ggX2_mergePair_X2_appendBlock
set_option maxRecDepth 20000 in
theorem ggX2_mergePair_X0_isEqualAt : GoodIn wsX2_mergePair wsX0_isEqualAt := goodIn_r _ [21, 12, 22, 23, 24, 25, 52, 53, 54, 55, 56, 57, 58, 59] (by decide +kernel) (by decide +kernel)
set_option maxRecDepth 20000 in
theorem gX2_mergePair_X0_isEqualAt_n98 : GoodIn wsX2_mergePair (wsX0_isEqualAt) := ggX2_mergePair_X0_isEqualAt
set_option maxRecDepth 20000 in
theorem ggX2_mergePair_X0_appendTail : GoodIn wsX2_mergePair wsX0_appendTail := goodIn_r _ [28, 12, 22, 23, 24, 25, 29, 17, 18, 30, 31, 32, 9, 33, 13, 14, 15, 16, 52, 53, 54, 55, 56, 57, 58, 59] (by decide +kernel) (by decide +kernel)
set_option maxRecDepth 20000 in
theorem gX2_mergePair_X0_appendTail_n91 : GoodIn wsX2_mergePair (wsX0_appendTail) := ggX2_mergePair_X0_appendTail
set_option maxRecDepth 20000 in
theorem ggX2_mergePair_X0_uniteLines : GoodIn wsX2_mergePair wsX0_uniteLines := goodIn_r _ [36, 29, 12, 52, 53, 54, 55, 56, 57, 58, 59] (by decide +kernel) (by decide +kernel)
set_option maxRecDepth 20000 in
theorem gX2_mergePair_X0_uniteLines_n87 : GoodIn wsX2_mergePair (wsX0_uniteLines) := ggX2_mergePair_X0_uniteLines
set_option maxRecDepth 20000 in
theorem ggX2_mergePair_X0_takeParameterAt : GoodIn wsX2_mergePair wsX0_takeParameterAt := goodIn_r _ [39, 22, 12, 24, 52, 53, 54, 55, 56, 57, 58, 59] (by decide +kernel) (by decide +kernel)
set_option maxRecDepth 20000 in
theorem gX2_mergePair_X0_takeParameterAt_n102 : GoodIn wsX2_mergePair (wsX0_takeParameterAt) := ggX2_mergePair_X0_takeParameterAt
set_option maxRecDepth 20000 in
theorem ggX2_mergePair_X0_replaceTailByParameter : GoodIn wsX2_mergePair wsX0_replaceTailByParameter := goodIn_r _ [42, 24, 12, 29, 43, 44, 45, 9, 46, 13, 14, 15, 16, 17, 18, 30, 31, 32, 33, 22, 23, 25, 52, 53, 54, 55, 56, 57, 58, 59] (by decide +kernel) (by decide +kernel)
set_option maxRecDepth 20000 in
theorem gX2_mergePair_X0_replaceTailByParameter_n105 : GoodIn wsX2_mergePair (wsX0_replaceTailByParameter) := ggX2_mergePair_X0_replaceTailByParameter
theorem dX2_mergePair_0 : decode cX2_mergePair 0 = .ok (.aload_n 0, 1) := by decide +kernel
theorem dX2_mergePair_1 : decode cX2_mergePair 1 = .ok (.invokevirtual 83, 3) := by decide +kernel
theorem dX2_mergePair_4 : decode cX2_mergePair 4 = .ok (.istore 4, 2) := by decide +kernel
theorem dX2_mergePair_6 : decode cX2_mergePair 6 = .ok (.iload 4, 2) := by decide +kernel
theorem dX2_mergePair_8 : decode cX2_mergePair 8 = .ok (.sipush (-1004), 3) := by decide +kernel
theorem dX2_mergePair_11 : decode cX2_mergePair 11 = .ok (.if_icmp .ne 7, 3) := by decide +kernel
theorem dX2_mergePair_14 : decode cX2_mergePair 14 = .ok (.sipush (-1004), 3) := by decide +kernel
theorem dX2_mergePair_17 : decode cX2_mergePair 17 = .ok (.ireturn, 1) := by decide +kernel
theorem dX2_mergePair_18 : decode cX2_mergePair 18 = .ok (.iconst 1, 1) := by decide +kernel
theorem dX2_mergePair_19 : decode cX2_mergePair 19 = .ok (.istore 5, 2) := by decide +kernel
theorem dX2_mergePair_21 : decode cX2_mergePair 21 = .ok (.iload 5, 2) := by decide +kernel
theorem dX2_mergePair_23 : decode cX2_mergePair 23 = .ok (.iload_n 3, 1) := by decide +kernel
theorem dX2_mergePair_24 : decode cX2_mergePair 24 = .ok (.if_icmp .ge 29, 3) := by decide +kernel
theorem dX2_mergePair_27 : decode cX2_mergePair 27 = .ok (.aload_n 0, 1) := by decide +kernel
theorem dX2_mergePair_28 : decode cX2_mergePair 28 = .ok (.getfield 11, 3) := by decide +kernel
theorem dX2_mergePair_31 : decode cX2_mergePair 31 = .ok (.iload_n 1, 1) := by decide +kernel
theorem dX2_mergePair_32 : decode cX2_mergePair 32 = .ok (.aaload, 1) := by decide +kernel
theorem dX2_mergePair_33 : decode cX2_mergePair 33 = .ok (.aload_n 0, 1) := by decide +kernel
theorem dX2_mergePair_34 : decode cX2_mergePair 34 = .ok (.getfield 11, 3) := by decide +kernel
theorem dX2_mergePair_37 : decode cX2_mergePair 37 = .ok (.iload_n 2, 1) := by decide +kernel
theorem dX2_mergePair_38 : decode cX2_mergePair 38 = .ok (.aaload, 1) := by decide +kernel
theorem dX2_mergePair_39 : decode cX2_mergePair 39 = .ok (.iload 5, 2) := by decide +kernel
theorem dX2_mergePair_41 : decode cX2_mergePair 41 = .ok (.invokevirtual 98, 3) := by decide +kernel
theorem dX2_mergePair_44 : decode cX2_mergePair 44 = .ok (.ifCond .eq 9, 3) := by decide +kernel
theorem dX2_mergePair_47 : decode cX2_mergePair 47 = .ok (.iinc 5 1, 3) := by decide +kernel
theorem dX2_mergePair_50 : decode cX2_mergePair 50 = .ok (.goto (-29), 3) := by decide +kernel
theorem dX2_mergePair_53 : decode cX2_mergePair 53 = .ok (.aload_n 0, 1) := by decide +kernel
theorem dX2_mergePair_54 : decode cX2_mergePair 54 = .ok (.getfield 11, 3) := by decide +kernel
theorem dX2_mergePair_57 : decode cX2_mergePair 57 = .ok (.iload 4, 2) := by decide +kernel
theorem dX2_mergePair_59 : decode cX2_mergePair 59 = .ok (.aaload, 1) := by decide +kernel
theorem dX2_mergePair_60 : decode cX2_mergePair 60 = .ok (.aload_n 0, 1) := by decide +kernel
theorem dX2_mergePair_61 : decode cX2_mergePair 61 = .ok (.getfield 11, 3) := by decide +kernel
theorem dX2_mergePair_64 : decode cX2_mergePair 64 = .ok (.iload_n 1, 1) := by decide +kernel
theorem dX2_mergePair_65 : decode cX2_mergePair 65 = .ok (.aaload, 1) := by decide +kernel
theorem dX2_mergePair_66 : decode cX2_mergePair 66 = .ok (.iload_n 3, 1) := by decide +kernel
theorem dX2_mergePair_67 : decode cX2_mergePair 67 = .ok (.invokevirtual 91, 3) := by decide +kernel
theorem dX2_mergePair_70 : decode cX2_mergePair 70 = .ok (.aload_n 0, 1) := by decide +kernel
theorem dX2_mergePair_71 : decode cX2_mergePair 71 = .ok (.getfield 11, 3) := by decide +kernel
theorem dX2_mergePair_74 : decode cX2_mergePair 74 = .ok (.iload 4, 2) := by decide +kernel
theorem dX2_mergePair_76 : decode cX2_mergePair 76 = .ok (.aaload, 1) := by decide +kernel
theorem dX2_mergePair_77 : decode cX2_mergePair 77 = .ok (.aload_n 0, 1) := by decide +kernel
theorem dX2_mergePair_78 : decode cX2_mergePair 78 = .ok (.getfield 11, 3) := by decide +kernel
theorem dX2_mergePair_81 : decode cX2_mergePair 81 = .ok (.iload_n 2, 1) := by decide +kernel
theorem dX2_mergePair_82 : decode cX2_mergePair 82 = .ok (.aaload, 1) := by decide +kernel
theorem dX2_mergePair_83 : decode cX2_mergePair 83 = .ok (.iload_n 3, 1) := by decide +kernel
theorem dX2_mergePair_84 : decode cX2_mergePair 84 = .ok (.invokevirtual 87, 3) := by decide +kernel
theorem dX2_mergePair_87 : decode cX2_mergePair 87 = .ok (.aload_n 0, 1) := by decide +kernel
theorem dX2_mergePair_88 : decode cX2_mergePair 88 = .ok (.getfield 11, 3) := by decide +kernel
theorem dX2_mergePair_91 : decode cX2_mergePair 91 = .ok (.iload 4, 2) := by decide +kernel
theorem dX2_mergePair_93 : decode cX2_mergePair 93 = .ok (.aaload, 1) := by decide +kernel
theorem dX2_mergePair_94 : decode cX2_mergePair 94 = .ok (.iload 5, 2) := by decide +kernel
theorem dX2_mergePair_96 : decode cX2_mergePair 96 = .ok (.invokevirtual 102, 3) := by decide +kernel
theorem dX2_mergePair_99 : decode cX2_mergePair 99 = .ok (.aload_n 0, 1) := by decide +kernel
theorem dX2_mergePair_100 : decode cX2_mergePair 100 = .ok (.getfield 11, 3) := by decide +kernel
theorem dX2_mergePair_103 : decode cX2_mergePair 103 = .ok (.iload_n 1, 1) := by decide +kernel
theorem dX2_mergePair_104 : decode cX2_mergePair 104 = .ok (.aaload, 1) := by decide +kernel
theorem dX2_mergePair_105 : decode cX2_mergePair 105 = .ok (.iload_n 3, 1) := by decide +kernel
theorem dX2_mergePair_106 : decode cX2_mergePair 106 = .ok (.iload 5, 2) := by decide +kernel
theorem dX2_mergePair_108 : decode cX2_mergePair 108 = .ok (.iload 4, 2) := by decide +kernel
theorem dX2_mergePair_110 : decode cX2_mergePair 110 = .ok (.invokevirtual 105, 3) := by decide +kernel
theorem dX2_mergePair_113 : decode cX2_mergePair 113 = .ok (.aload_n 0, 1) := by decide +kernel
theorem dX2_mergePair_114 : decode cX2_mergePair 114 = .ok (.getfield 11, 3) := by decide +kernel
theorem dX2_mergePair_117 : decode cX2_mergePair 117 = .ok (.iload_n 2, 1) := by decide +kernel
theorem dX2_mergePair_118 : decode cX2_mergePair 118 = .ok (.aaload, 1) := by decide +kernel
theorem dX2_mergePair_119 : decode cX2_mergePair 119 = .ok (.iload_n 3, 1) := by decide +kernel
theorem dX2_mergePair_120 : decode cX2_mergePair 120 = .ok (.iload 5, 2) := by decide +kernel
theorem dX2_mergePair_122 : decode cX2_mergePair 122 = .ok (.iload 4, 2) := by decide +kernel
theorem dX2_mergePair_124 : decode cX2_mergePair 124 = .ok (.invokevirtual 105, 3) := by decide +kernel
theorem dX2_mergePair_127 : decode cX2_mergePair 127 = .ok (.iload 4, 2) := by decide +kernel
theorem dX2_mergePair_129 : decode cX2_mergePair 129 = .ok (.ireturn, 1) := by decide +kernel
set_option maxRecDepth 20000 in
theorem ggX3_init_X2_init : GoodIn wsX3_init wsX2_init := goodIn_r _ [16, 17, 2, 3, 18, 19, 20, 21, 22, 23, 24, 25, 26, 27, 28, 29, 30, 31, 32, 33, 34, 35, 36, 37, 44, 45, 46, 47, 48, 56, 57, 58, 59, 60, 61, 62, 63] (by decide +kernel) (by decide +kernel)
set_option maxRecDepth 20000 in
theorem gX3_init_X2_init_n9 : GoodIn wsX3_init (wsX2_init) := ggX3_init_X2_init
set_option maxRecDepth 20000 in
theorem ggX3_init_X1_init : GoodIn wsX3_init wsX1_init := goodIn_r _ [39, 40, 2, 3, 24, 41, 42, 43, 53, 54, 55] (by decide +kernel) (by decide +kernel)
set_option maxRecDepth 20000 in
theorem gX3_init_X1_init_n26 : GoodIn wsX3_init (wsX1_init) := ggX3_init_X1_init
theorem dX3_init_0 : decode cX3_init 0 = .ok (.aload_n 0, 1) := by decide +kernel
theorem dX3_init_1 : decode cX3_init 1 = .ok (.invokespecial 1, 3) := by decide +kernel
theorem dX3_init_4 : decode cX3_init 4 = .ok (.aload_n 0, 1) := by decide +kernel
theorem dX3_init_5 : decode cX3_init 5 = .ok (.new 7, 3) := by decide +kernel
theorem dX3_init_8 : decode cX3_init 8 = .ok (.dup, 1) := by decide +kernel
theorem dX3_init_9 : decode cX3_init 9 = .ok (.invokespecial 9, 3) := by decide +kernel
theorem dX3_init_12 : decode cX3_init 12 = .ok (.putfield 10, 3) := by decide +kernel
theorem dX3_init_15 : decode cX3_init 15 = .ok (.aload_n 0, 1) := by decide +kernel
theorem dX3_init_16 : decode cX3_init 16 = .ok (.iconst 2, 1) := by decide +kernel
theorem dX3_init_17 : decode cX3_init 17 = .ok (.anewarray 7, 3) := by decide +kernel
theorem dX3_init_20 : decode cX3_init 20 = .ok (.putfield 16, 3) := by decide +kernel
theorem dX3_init_23 : decode cX3_init 23 = .ok (.iconst 0, 1) := by decide +kernel
theorem dX3_init_24 : decode cX3_init 24 = .ok (.istore_n 1, 1) := by decide +kernel
theorem dX3_init_25 : decode cX3_init 25 = .ok (.iload_n 1, 1) := by decide +kernel
theorem dX3_init_26 : decode cX3_init 26 = .ok (.iconst 2, 1) := by decide +kernel
theorem dX3_init_27 : decode cX3_init 27 = .ok (.if_icmp .ge 22, 3) := by decide +kernel
theorem dX3_init_30 : decode cX3_init 30 = .ok (.aload_n 0, 1) := by decide +kernel
theorem dX3_init_31 : decode cX3_init 31 = .ok (.getfield 16, 3) := by decide +kernel
theorem dX3_init_34 : decode cX3_init 34 = .ok (.iload_n 1, 1) := by decide +kernel
theorem dX3_init_35 : decode cX3_init 35 = .ok (.new 7, 3) := by decide +kernel
theorem dX3_init_38 : decode cX3_init 38 = .ok (.dup, 1) := by decide +kernel
theorem dX3_init_39 : decode cX3_init 39 = .ok (.invokespecial 9, 3) := by decide +kernel
theorem dX3_init_42 : decode cX3_init 42 = .ok (.aastore, 1) := by decide +kernel
theorem dX3_init_43 : decode cX3_init 43 = .ok (.iinc 1 1, 3) := by decide +kernel
theorem dX3_init_46 : decode cX3_init 46 = .ok (.goto (-21), 3) := by decide +kernel
theorem dX3_init_49 : decode cX3_init 49 = .ok (.aload_n 0, 1) := by decide +kernel
theorem dX3_init_50 : decode cX3_init 50 = .ok (.iconst 2, 1) := by decide +kernel
theorem dX3_init_51 : decode cX3_init 51 = .ok (.newarray .boolean, 2) := by decide +kernel
theorem dX3_init_53 : decode cX3_init 53 = .ok (.putfield 20, 3) := by decide +kernel
theorem dX3_init_56 : decode cX3_init 56 = .ok (.aload_n 0, 1) := by decide +kernel
theorem dX3_init_57 : decode cX3_init 57 = .ok (.new 24, 3) := by decide +kernel
theorem dX3_init_60 : decode cX3_init 60 = .ok (.dup, 1) := by decide +kernel
theorem dX3_init_61 : decode cX3_init 61 = .ok (.invokespecial 26, 3) := by decide +kernel
theorem dX3_init_64 : decode cX3_init 64 = .ok (.putfield 27, 3) := by decide +kernel
theorem dX3_init_67 : decode cX3_init 67 = .ok (.return_, 1) := by decide +kernel
set_option maxRecDepth 20000 in
theorem ggX3_addBlock_X2_appendBlock : GoodIn wsX3_addBlock wsX2_appendBlock := goodIn_r _ [5, 6, 7, 8, 9, 10, 11, 12, 13, 14, 15, 16, 17, 18, 23, 24, 25, 26, 27, 28, 29, 30, 31, 32, 33, 34, 35] (by decide +kernel) (by decide +kernel)
set_option maxRecDepth 20000 in
theorem gX3_addBlock_X2_appendBlock_n31 : GoodIn wsX3_addBlock (wsX2_appendBlock) := ggX3_addBlock_X2_appendBlock
theorem dX3_addBlock_0 : decode cX3_addBlock 0 = .ok (.aload_n 0, 1) := by decide +kernel
theorem dX3_addBlock_1 : decode cX3_addBlock 1 = .ok (.getfield 10, 3) := by decide +kernel
theorem dX3_addBlock_4 : decode cX3_addBlock 4 = .ok (.invokevirtual 31, 3) := by decide +kernel
theorem dX3_addBlock_7 : decode cX3_addBlock 7 = .ok (.ireturn, 1) := by decide +kernel
set_option maxRecDepth 20000 in
theorem ggX3_addInstruction_X2_has : GoodIn wsX3_addInstruction wsX2_has := goodIn_r _ [5, 6, 28, 29, 30, 31, 32] (by decide +kernel) (by decide +kernel)
set_option maxRecDepth 20000 in
theorem gX3_addInstruction_X2_has_n35 : GoodIn wsX3_addInstruction (wsX2_has) := ggX3_addInstruction_X2_has
set_option maxRecDepth 20000 in
theorem ggX3_addInstruction_X3_operandsFit : GoodIn wsX3_addInstruction wsX3_operandsFit := goodIn_r _ [10, 11, 12, 9, 13] (by decide +kernel) (by decide +kernel)
set_option maxRecDepth 20000 in
theorem gX3_addInstruction_X3_operandsFit : GoodIn wsX3_addInstruction (va_wsS RX3 39 yX3_operandsFit wsX3_operandsFit) := goodIn_app (goodIn_of _ (by decide +kernel)) ggX3_addInstruction_X3_operandsFit
set_option maxRecDepth 20000 in
theorem ggX3_addInstruction_X0_append : GoodIn wsX3_addInstruction wsX0_append := goodIn_r _ [17, 18, 19, 20, 21, 22, 23, 33, 34, 35, 36, 37, 38, 39, 40] (by decide +kernel) (by decide +kernel)
set_option maxRecDepth 20000 in
theorem gX3_addInstruction_X0_append_n47 : GoodIn wsX3_addInstruction (wsX0_append) := ggX3_addInstruction_X0_append
theorem dX3_addInstruction_0 : decode cX3_addInstruction 0 = .ok (.aload_n 0, 1) := by decide +kernel
theorem dX3_addInstruction_1 : decode cX3_addInstruction 1 = .ok (.getfield 10, 3) := by decide +kernel
theorem dX3_addInstruction_4 : decode cX3_addInstruction 4 = .ok (.iload_n 1, 1) := by decide +kernel
theorem dX3_addInstruction_5 : decode cX3_addInstruction 5 = .ok (.invokevirtual 35, 3) := by decide +kernel
theorem dX3_addInstruction_8 : decode cX3_addInstruction 8 = .ok (.ifCond .ne 7, 3) := by decide +kernel
theorem dX3_addInstruction_11 : decode cX3_addInstruction 11 = .ok (.sipush (-1001), 3) := by decide +kernel
theorem dX3_addInstruction_14 : decode cX3_addInstruction 14 = .ok (.ireturn, 1) := by decide +kernel
theorem dX3_addInstruction_15 : decode cX3_addInstruction 15 = .ok (.iload_n 2, 1) := by decide +kernel
theorem dX3_addInstruction_16 : decode cX3_addInstruction 16 = .ok (.iload_n 3, 1) := by decide +kernel
theorem dX3_addInstruction_17 : decode cX3_addInstruction 17 = .ok (.iload 4, 2) := by decide +kernel
theorem dX3_addInstruction_19 : decode cX3_addInstruction 19 = .ok (.iload 5, 2) := by decide +kernel
theorem dX3_addInstruction_21 : decode cX3_addInstruction 21 = .ok (.invokestatic 39, 3) := by decide +kernel
theorem dX3_addInstruction_24 : decode cX3_addInstruction 24 = .ok (.ifCond .eq 15, 3) := by decide +kernel
theorem dX3_addInstruction_27 : decode cX3_addInstruction 27 = .ok (.iload 6, 2) := by decide +kernel
theorem dX3_addInstruction_29 : decode cX3_addInstruction 29 = .ok (.ifCond .lt 10, 3) := by decide +kernel
theorem dX3_addInstruction_32 : decode cX3_addInstruction 32 = .ok (.iload 6, 2) := by decide +kernel
theorem dX3_addInstruction_34 : decode cX3_addInstruction 34 = .ok (.bipush 30, 2) := by decide +kernel
theorem dX3_addInstruction_36 : decode cX3_addInstruction 36 = .ok (.if_icmp .le 7, 3) := by decide +kernel
theorem dX3_addInstruction_39 : decode cX3_addInstruction 39 = .ok (.sipush (-1003), 3) := by decide +kernel
theorem dX3_addInstruction_42 : decode cX3_addInstruction 42 = .ok (.ireturn, 1) := by decide +kernel
theorem dX3_addInstruction_43 : decode cX3_addInstruction 43 = .ok (.aload_n 0, 1) := by decide +kernel
theorem dX3_addInstruction_44 : decode cX3_addInstruction 44 = .ok (.getfield 10, 3) := by decide +kernel
theorem dX3_addInstruction_47 : decode cX3_addInstruction 47 = .ok (.getfield 43, 3) := by decide +kernel
theorem dX3_addInstruction_50 : decode cX3_addInstruction 50 = .ok (.iload_n 1, 1) := by decide +kernel
theorem dX3_addInstruction_51 : decode cX3_addInstruction 51 = .ok (.aaload, 1) := by decide +kernel
theorem dX3_addInstruction_52 : decode cX3_addInstruction 52 = .ok (.iload_n 2, 1) := by decide +kernel
theorem dX3_addInstruction_53 : decode cX3_addInstruction 53 = .ok (.iload_n 3, 1) := by decide +kernel
theorem dX3_addInstruction_54 : decode cX3_addInstruction 54 = .ok (.iload 4, 2) := by decide +kernel
theorem dX3_addInstruction_56 : decode cX3_addInstruction 56 = .ok (.iload 5, 2) := by decide +kernel
theorem dX3_addInstruction_58 : decode cX3_addInstruction 58 = .ok (.iconst 1, 1) := by decide +kernel
theorem dX3_addInstruction_59 : decode cX3_addInstruction 59 = .ok (.iload 6, 2) := by decide +kernel
theorem dX3_addInstruction_61 : decode cX3_addInstruction 61 = .ok (.ishl, 1) := by decide +kernel
theorem dX3_addInstruction_62 : decode cX3_addInstruction 62 = .ok (.invokevirtual 47, 3) := by decide +kernel
theorem dX3_addInstruction_65 : decode cX3_addInstruction 65 = .ok (.ireturn, 1) := by decide +kernel
set_option maxRecDepth 20000 in
theorem ggX3_operandsFit_X3_isGeneral : GoodIn wsX3_operandsFit wsX3_isGeneral := goodIn_r _ [4] (by decide +kernel) (by decide +kernel)
set_option maxRecDepth 20000 in
theorem gX3_operandsFit_X3_isGeneral : GoodIn wsX3_operandsFit (va_wsS RX3 53 yX3_isGeneral wsX3_isGeneral) := goodIn_app (goodIn_of _ (by decide +kernel)) ggX3_operandsFit_X3_isGeneral
theorem dX3_operandsFit_0 : decode cX3_operandsFit 0 = .ok (.iload_n 0, 1) := by decide +kernel
theorem dX3_operandsFit_1 : decode cX3_operandsFit 1 = .ok (.tableswitch 146 0 6 #[43, 74, 98, 98, 98, 98, 125], 43) := by decide +kernel
theorem dX3_operandsFit_44 : decode cX3_operandsFit 44 = .ok (.iload_n 1, 1) := by decide +kernel
theorem dX3_operandsFit_45 : decode cX3_operandsFit 45 = .ok (.invokestatic 53, 3) := by decide +kernel
theorem dX3_operandsFit_48 : decode cX3_operandsFit 48 = .ok (.ifCond .eq 25, 3) := by decide +kernel
theorem dX3_operandsFit_51 : decode cX3_operandsFit 51 = .ok (.iload_n 2, 1) := by decide +kernel
theorem dX3_operandsFit_52 : decode cX3_operandsFit 52 = .ok (.sipush (-999), 3) := by decide +kernel
theorem dX3_operandsFit_55 : decode cX3_operandsFit 55 = .ok (.if_icmp .lt 18, 3) := by decide +kernel
theorem dX3_operandsFit_58 : decode cX3_operandsFit 58 = .ok (.iload_n 2, 1) := by decide +kernel
theorem dX3_operandsFit_59 : decode cX3_operandsFit 59 = .ok (.sipush 999, 3) := by decide +kernel
theorem dX3_operandsFit_62 : decode cX3_operandsFit 62 = .ok (.if_icmp .gt 11, 3) := by decide +kernel
theorem dX3_operandsFit_65 : decode cX3_operandsFit 65 = .ok (.iload_n 3, 1) := by decide +kernel
theorem dX3_operandsFit_66 : decode cX3_operandsFit 66 = .ok (.ifCond .ne 7, 3) := by decide +kernel
theorem dX3_operandsFit_69 : decode cX3_operandsFit 69 = .ok (.iconst 1, 1) := by decide +kernel
theorem dX3_operandsFit_70 : decode cX3_operandsFit 70 = .ok (.goto 4, 3) := by decide +kernel
theorem dX3_operandsFit_73 : decode cX3_operandsFit 73 = .ok (.iconst 0, 1) := by decide +kernel
theorem dX3_operandsFit_74 : decode cX3_operandsFit 74 = .ok (.ireturn, 1) := by decide +kernel
theorem dX3_operandsFit_75 : decode cX3_operandsFit 75 = .ok (.iload_n 1, 1) := by decide +kernel
theorem dX3_operandsFit_76 : decode cX3_operandsFit 76 = .ok (.invokestatic 53, 3) := by decide +kernel
theorem dX3_operandsFit_79 : decode cX3_operandsFit 79 = .ok (.ifCond .eq 18, 3) := by decide +kernel
theorem dX3_operandsFit_82 : decode cX3_operandsFit 82 = .ok (.iload_n 2, 1) := by decide +kernel
theorem dX3_operandsFit_83 : decode cX3_operandsFit 83 = .ok (.invokestatic 53, 3) := by decide +kernel
theorem dX3_operandsFit_86 : decode cX3_operandsFit 86 = .ok (.ifCond .eq 11, 3) := by decide +kernel
theorem dX3_operandsFit_89 : decode cX3_operandsFit 89 = .ok (.iload_n 3, 1) := by decide +kernel
theorem dX3_operandsFit_90 : decode cX3_operandsFit 90 = .ok (.ifCond .ne 7, 3) := by decide +kernel
theorem dX3_operandsFit_93 : decode cX3_operandsFit 93 = .ok (.iconst 1, 1) := by decide +kernel
theorem dX3_operandsFit_94 : decode cX3_operandsFit 94 = .ok (.goto 4, 3) := by decide +kernel
theorem dX3_operandsFit_97 : decode cX3_operandsFit 97 = .ok (.iconst 0, 1) := by decide +kernel
theorem dX3_operandsFit_98 : decode cX3_operandsFit 98 = .ok (.ireturn, 1) := by decide +kernel
theorem dX3_operandsFit_99 : decode cX3_operandsFit 99 = .ok (.iload_n 1, 1) := by decide +kernel
theorem dX3_operandsFit_100 : decode cX3_operandsFit 100 = .ok (.invokestatic 53, 3) := by decide +kernel
theorem dX3_operandsFit_103 : decode cX3_operandsFit 103 = .ok (.ifCond .eq 21, 3) := by decide +kernel
theorem dX3_operandsFit_106 : decode cX3_operandsFit 106 = .ok (.iload_n 2, 1) := by decide +kernel
theorem dX3_operandsFit_107 : decode cX3_operandsFit 107 = .ok (.invokestatic 53, 3) := by decide +kernel
theorem dX3_operandsFit_110 : decode cX3_operandsFit 110 = .ok (.ifCond .eq 14, 3) := by decide +kernel
theorem dX3_operandsFit_113 : decode cX3_operandsFit 113 = .ok (.iload_n 3, 1) := by decide +kernel
theorem dX3_operandsFit_114 : decode cX3_operandsFit 114 = .ok (.invokestatic 53, 3) := by decide +kernel
theorem dX3_operandsFit_117 : decode cX3_operandsFit 117 = .ok (.ifCond .eq 7, 3) := by decide +kernel
theorem dX3_operandsFit_120 : decode cX3_operandsFit 120 = .ok (.iconst 1, 1) := by decide +kernel
theorem dX3_operandsFit_121 : decode cX3_operandsFit 121 = .ok (.goto 4, 3) := by decide +kernel
theorem dX3_operandsFit_124 : decode cX3_operandsFit 124 = .ok (.iconst 0, 1) := by decide +kernel
theorem dX3_operandsFit_125 : decode cX3_operandsFit 125 = .ok (.ireturn, 1) := by decide +kernel
theorem dX3_operandsFit_126 : decode cX3_operandsFit 126 = .ok (.iload_n 1, 1) := by decide +kernel
theorem dX3_operandsFit_127 : decode cX3_operandsFit 127 = .ok (.ifCond .ne 18, 3) := by decide +kernel
theorem dX3_operandsFit_130 : decode cX3_operandsFit 130 = .ok (.iload_n 2, 1) := by decide +kernel
theorem dX3_operandsFit_131 : decode cX3_operandsFit 131 = .ok (.invokestatic 53, 3) := by decide +kernel
theorem dX3_operandsFit_134 : decode cX3_operandsFit 134 = .ok (.ifCond .eq 11, 3) := by decide +kernel
theorem dX3_operandsFit_137 : decode cX3_operandsFit 137 = .ok (.iload_n 3, 1) := by decide +kernel
theorem dX3_operandsFit_138 : decode cX3_operandsFit 138 = .ok (.ifCond .ne 7, 3) := by decide +kernel
theorem dX3_operandsFit_141 : decode cX3_operandsFit 141 = .ok (.iconst 1, 1) := by decide +kernel
theorem dX3_operandsFit_142 : decode cX3_operandsFit 142 = .ok (.goto 4, 3) := by decide +kernel
theorem dX3_operandsFit_145 : decode cX3_operandsFit 145 = .ok (.iconst 0, 1) := by decide +kernel
theorem dX3_operandsFit_146 : decode cX3_operandsFit 146 = .ok (.ireturn, 1) := by decide +kernel
theorem dX3_operandsFit_147 : decode cX3_operandsFit 147 = .ok (.iconst 0, 1) := by decide +kernel
theorem dX3_operandsFit_148 : decode cX3_operandsFit 148 = .ok (.ireturn, 1) := by decide +kernel
theorem dX3_isGeneral_0 : decode cX3_isGeneral 0 = .ok (.iload_n 0, 1) := by decide +kernel
theorem dX3_isGeneral_1 : decode cX3_isGeneral 1 = .ok (.ifCond .lt 13, 3) := by decide +kernel
theorem dX3_isGeneral_4 : decode cX3_isGeneral 4 = .ok (.iload_n 0, 1) := by decide +kernel
theorem dX3_isGeneral_5 : decode cX3_isGeneral 5 = .ok (.bipush 7, 2) := by decide +kernel
theorem dX3_isGeneral_7 : decode cX3_isGeneral 7 = .ok (.if_icmp .ge 7, 3) := by decide +kernel
theorem dX3_isGeneral_10 : decode cX3_isGeneral 10 = .ok (.iconst 1, 1) := by decide +kernel
theorem dX3_isGeneral_11 : decode cX3_isGeneral 11 = .ok (.goto 4, 3) := by decide +kernel
theorem dX3_isGeneral_14 : decode cX3_isGeneral 14 = .ok (.iconst 0, 1) := by decide +kernel
theorem dX3_isGeneral_15 : decode cX3_isGeneral 15 = .ok (.ireturn, 1) := by decide +kernel
set_option maxRecDepth 20000 in
theorem ggX3_setJump_X2_has : GoodIn wsX3_setJump wsX2_has := goodIn_r _ [5, 6, 17, 18, 19, 20, 21] (by decide +kernel) (by decide +kernel)
set_option maxRecDepth 20000 in
theorem gX3_setJump_X2_has_n35 : GoodIn wsX3_setJump (wsX2_has) := ggX3_setJump_X2_has
set_option maxRecDepth 20000 in
theorem ggX3_setJump_X0_terminate : GoodIn wsX3_setJump wsX0_terminate := goodIn_r _ [10, 11, 12, 22, 23, 24, 25, 26, 27, 28, 29] (by decide +kernel) (by decide +kernel)
set_option maxRecDepth 20000 in
theorem gX3_setJump_X0_terminate_n56 : GoodIn wsX3_setJump (wsX0_terminate) := ggX3_setJump_X0_terminate
theorem dX3_setJump_0 : decode cX3_setJump 0 = .ok (.aload_n 0, 1) := by decide +kernel
theorem dX3_setJump_1 : decode cX3_setJump 1 = .ok (.getfield 10, 3) := by decide +kernel
theorem dX3_setJump_4 : decode cX3_setJump 4 = .ok (.iload_n 1, 1) := by decide +kernel
theorem dX3_setJump_5 : decode cX3_setJump 5 = .ok (.invokevirtual 35, 3) := by decide +kernel
theorem dX3_setJump_8 : decode cX3_setJump 8 = .ok (.ifCond .eq 14, 3) := by decide +kernel
theorem dX3_setJump_11 : decode cX3_setJump 11 = .ok (.aload_n 0, 1) := by decide +kernel
theorem dX3_setJump_12 : decode cX3_setJump 12 = .ok (.getfield 10, 3) := by decide +kernel
theorem dX3_setJump_15 : decode cX3_setJump 15 = .ok (.iload_n 2, 1) := by decide +kernel
theorem dX3_setJump_16 : decode cX3_setJump 16 = .ok (.invokevirtual 35, 3) := by decide +kernel
theorem dX3_setJump_19 : decode cX3_setJump 19 = .ok (.ifCond .ne 7, 3) := by decide +kernel
theorem dX3_setJump_22 : decode cX3_setJump 22 = .ok (.sipush (-1001), 3) := by decide +kernel
theorem dX3_setJump_25 : decode cX3_setJump 25 = .ok (.ireturn, 1) := by decide +kernel
theorem dX3_setJump_26 : decode cX3_setJump 26 = .ok (.aload_n 0, 1) := by decide +kernel
theorem dX3_setJump_27 : decode cX3_setJump 27 = .ok (.getfield 10, 3) := by decide +kernel
theorem dX3_setJump_30 : decode cX3_setJump 30 = .ok (.getfield 43, 3) := by decide +kernel
theorem dX3_setJump_33 : decode cX3_setJump 33 = .ok (.iload_n 1, 1) := by decide +kernel
theorem dX3_setJump_34 : decode cX3_setJump 34 = .ok (.aaload, 1) := by decide +kernel
theorem dX3_setJump_35 : decode cX3_setJump 35 = .ok (.iconst 0, 1) := by decide +kernel
theorem dX3_setJump_36 : decode cX3_setJump 36 = .ok (.iload_n 2, 1) := by decide +kernel
theorem dX3_setJump_37 : decode cX3_setJump 37 = .ok (.iconst 0, 1) := by decide +kernel
theorem dX3_setJump_38 : decode cX3_setJump 38 = .ok (.iconst 0, 1) := by decide +kernel
theorem dX3_setJump_39 : decode cX3_setJump 39 = .ok (.invokevirtual 56, 3) := by decide +kernel
theorem dX3_setJump_42 : decode cX3_setJump 42 = .ok (.ireturn, 1) := by decide +kernel
set_option maxRecDepth 20000 in
theorem ggX3_setBranch_X2_has : GoodIn wsX3_setBranch wsX2_has := goodIn_r _ [5, 6, 21, 22, 23, 24, 25] (by decide +kernel) (by decide +kernel)
set_option maxRecDepth 20000 in
theorem gX3_setBranch_X2_has_n35 : GoodIn wsX3_setBranch (wsX2_has) := ggX3_setBranch_X2_has
set_option maxRecDepth 20000 in
theorem ggX3_setBranch_X3_isGeneral : GoodIn wsX3_setBranch wsX3_isGeneral := goodIn_r _ [10] (by decide +kernel) (by decide +kernel)
set_option maxRecDepth 20000 in
theorem gX3_setBranch_X3_isGeneral : GoodIn wsX3_setBranch (va_wsS RX3 53 yX3_isGeneral wsX3_isGeneral) := goodIn_app (goodIn_of _ (by decide +kernel)) ggX3_setBranch_X3_isGeneral
set_option maxRecDepth 20000 in
theorem ggX3_setBranch_X0_terminate : GoodIn wsX3_setBranch wsX0_terminate := goodIn_r _ [14, 15, 16, 26, 27, 28, 29, 30, 31, 32, 33] (by decide +kernel) (by decide +kernel)
set_option maxRecDepth 20000 in
theorem gX3_setBranch_X0_terminate_n56 : GoodIn wsX3_setBranch (wsX0_terminate) := ggX3_setBranch_X0_terminate
theorem dX3_setBranch_0 : decode cX3_setBranch 0 = .ok (.aload_n 0, 1) := by decide +kernel
theorem dX3_setBranch_1 : decode cX3_setBranch 1 = .ok (.getfield 10, 3) := by decide +kernel
theorem dX3_setBranch_4 : decode cX3_setBranch 4 = .ok (.iload_n 1, 1) := by decide +kernel
theorem dX3_setBranch_5 : decode cX3_setBranch 5 = .ok (.invokevirtual 35, 3) := by decide +kernel
theorem dX3_setBranch_8 : decode cX3_setBranch 8 = .ok (.ifCond .eq 26, 3) := by decide +kernel
theorem dX3_setBranch_11 : decode cX3_setBranch 11 = .ok (.aload_n 0, 1) := by decide +kernel
theorem dX3_setBranch_12 : decode cX3_setBranch 12 = .ok (.getfield 10, 3) := by decide +kernel
theorem dX3_setBranch_15 : decode cX3_setBranch 15 = .ok (.iload_n 3, 1) := by decide +kernel
theorem dX3_setBranch_16 : decode cX3_setBranch 16 = .ok (.invokevirtual 35, 3) := by decide +kernel
theorem dX3_setBranch_19 : decode cX3_setBranch 19 = .ok (.ifCond .eq 15, 3) := by decide +kernel
theorem dX3_setBranch_22 : decode cX3_setBranch 22 = .ok (.aload_n 0, 1) := by decide +kernel
theorem dX3_setBranch_23 : decode cX3_setBranch 23 = .ok (.getfield 10, 3) := by decide +kernel
theorem dX3_setBranch_26 : decode cX3_setBranch 26 = .ok (.iload 4, 2) := by decide +kernel
theorem dX3_setBranch_28 : decode cX3_setBranch 28 = .ok (.invokevirtual 35, 3) := by decide +kernel
theorem dX3_setBranch_31 : decode cX3_setBranch 31 = .ok (.ifCond .ne 7, 3) := by decide +kernel
theorem dX3_setBranch_34 : decode cX3_setBranch 34 = .ok (.sipush (-1001), 3) := by decide +kernel
theorem dX3_setBranch_37 : decode cX3_setBranch 37 = .ok (.ireturn, 1) := by decide +kernel
theorem dX3_setBranch_38 : decode cX3_setBranch 38 = .ok (.iload_n 2, 1) := by decide +kernel
theorem dX3_setBranch_39 : decode cX3_setBranch 39 = .ok (.invokestatic 53, 3) := by decide +kernel
theorem dX3_setBranch_42 : decode cX3_setBranch 42 = .ok (.ifCond .ne 7, 3) := by decide +kernel
theorem dX3_setBranch_45 : decode cX3_setBranch 45 = .ok (.sipush (-1003), 3) := by decide +kernel
theorem dX3_setBranch_48 : decode cX3_setBranch 48 = .ok (.ireturn, 1) := by decide +kernel
theorem dX3_setBranch_49 : decode cX3_setBranch 49 = .ok (.aload_n 0, 1) := by decide +kernel
theorem dX3_setBranch_50 : decode cX3_setBranch 50 = .ok (.getfield 10, 3) := by decide +kernel
theorem dX3_setBranch_53 : decode cX3_setBranch 53 = .ok (.getfield 43, 3) := by decide +kernel
theorem dX3_setBranch_56 : decode cX3_setBranch 56 = .ok (.iload_n 1, 1) := by decide +kernel
theorem dX3_setBranch_57 : decode cX3_setBranch 57 = .ok (.aaload, 1) := by decide +kernel
theorem dX3_setBranch_58 : decode cX3_setBranch 58 = .ok (.iconst 1, 1) := by decide +kernel
theorem dX3_setBranch_59 : decode cX3_setBranch 59 = .ok (.iload_n 2, 1) := by decide +kernel
theorem dX3_setBranch_60 : decode cX3_setBranch 60 = .ok (.iload_n 3, 1) := by decide +kernel
theorem dX3_setBranch_61 : decode cX3_setBranch 61 = .ok (.iload 4, 2) := by decide +kernel
theorem dX3_setBranch_63 : decode cX3_setBranch 63 = .ok (.invokevirtual 56, 3) := by decide +kernel
theorem dX3_setBranch_66 : decode cX3_setBranch 66 = .ok (.ireturn, 1) := by decide +kernel
set_option maxRecDepth 20000 in
theorem ggX3_setReturn_X2_has : GoodIn wsX3_setReturn wsX2_has := goodIn_r _ [5, 6, 21, 22, 23, 24, 25] (by decide +kernel) (by decide +kernel)
set_option maxRecDepth 20000 in
theorem gX3_setReturn_X2_has_n35 : GoodIn wsX3_setReturn (wsX2_has) := ggX3_setReturn_X2_has
set_option maxRecDepth 20000 in
theorem ggX3_setReturn_X3_isGeneral : GoodIn wsX3_setReturn wsX3_isGeneral := goodIn_r _ [10] (by decide +kernel) (by decide +kernel)
set_option maxRecDepth 20000 in
theorem gX3_setReturn_X3_isGeneral : GoodIn wsX3_setReturn (va_wsS RX3 53 yX3_isGeneral wsX3_isGeneral) := goodIn_app (goodIn_of _ (by decide +kernel)) ggX3_setReturn_X3_isGeneral
set_option maxRecDepth 20000 in
theorem ggX3_setReturn_X0_terminate : GoodIn wsX3_setReturn wsX0_terminate := goodIn_r _ [14, 15, 16, 26, 27, 28, 29, 30, 31, 32, 33] (by decide +kernel) (by decide +kernel)
set_option maxRecDepth 20000 in
theorem gX3_setReturn_X0_terminate_n56 : GoodIn wsX3_setReturn (wsX0_terminate) := ggX3_setReturn_X0_terminate
theorem dX3_setReturn_0 : decode cX3_setReturn 0 = .ok (.aload_n 0, 1) := by decide +kernel
theorem dX3_setReturn_1 : decode cX3_setReturn 1 = .ok (.getfield 10, 3) := by decide +kernel
theorem dX3_setReturn_4 : decode cX3_setReturn 4 = .ok (.iload_n 1, 1) := by decide +kernel
theorem dX3_setReturn_5 : decode cX3_setReturn 5 = .ok (.invokevirtual 35, 3) := by decide +kernel
theorem dX3_setReturn_8 : decode cX3_setReturn 8 = .ok (.ifCond .ne 7, 3) := by decide +kernel
theorem dX3_setReturn_11 : decode cX3_setReturn 11 = .ok (.sipush (-1001), 3) := by decide +kernel
theorem dX3_setReturn_14 : decode cX3_setReturn 14 = .ok (.ireturn, 1) := by decide +kernel
theorem dX3_setReturn_15 : decode cX3_setReturn 15 = .ok (.iload_n 2, 1) := by decide +kernel
theorem dX3_setReturn_16 : decode cX3_setReturn 16 = .ok (.invokestatic 53, 3) := by decide +kernel
theorem dX3_setReturn_19 : decode cX3_setReturn 19 = .ok (.ifCond .ne 7, 3) := by decide +kernel
theorem dX3_setReturn_22 : decode cX3_setReturn 22 = .ok (.sipush (-1003), 3) := by decide +kernel
theorem dX3_setReturn_25 : decode cX3_setReturn 25 = .ok (.ireturn, 1) := by decide +kernel
theorem dX3_setReturn_26 : decode cX3_setReturn 26 = .ok (.aload_n 0, 1) := by decide +kernel
theorem dX3_setReturn_27 : decode cX3_setReturn 27 = .ok (.getfield 10, 3) := by decide +kernel
theorem dX3_setReturn_30 : decode cX3_setReturn 30 = .ok (.getfield 43, 3) := by decide +kernel
theorem dX3_setReturn_33 : decode cX3_setReturn 33 = .ok (.iload_n 1, 1) := by decide +kernel
theorem dX3_setReturn_34 : decode cX3_setReturn 34 = .ok (.aaload, 1) := by decide +kernel
theorem dX3_setReturn_35 : decode cX3_setReturn 35 = .ok (.iconst 2, 1) := by decide +kernel
theorem dX3_setReturn_36 : decode cX3_setReturn 36 = .ok (.iload_n 2, 1) := by decide +kernel
theorem dX3_setReturn_37 : decode cX3_setReturn 37 = .ok (.iconst 0, 1) := by decide +kernel
theorem dX3_setReturn_38 : decode cX3_setReturn 38 = .ok (.iconst 0, 1) := by decide +kernel
theorem dX3_setReturn_39 : decode cX3_setReturn 39 = .ok (.invokevirtual 56, 3) := by decide +kernel
theorem dX3_setReturn_42 : decode cX3_setReturn 42 = .ok (.ireturn, 1) := by decide +kernel
theorem dX3_blockCount_0 : decode cX3_blockCount 0 = .ok (.aload_n 0, 1) := by decide +kernel
theorem dX3_blockCount_1 : decode cX3_blockCount 1 = .ok (.getfield 10, 3) := by decide +kernel
theorem dX3_blockCount_4 : decode cX3_blockCount 4 = .ok (.getfield 60, 3) := by decide +kernel
theorem dX3_blockCount_7 : decode cX3_blockCount 7 = .ok (.ireturn, 1) := by decide +kernel
set_option maxRecDepth 20000 in
theorem ggX3_instructionCount_X2_has : GoodIn wsX3_instructionCount wsX2_has := goodIn_r _ [5, 6, 11, 12, 13, 14, 15] (by decide +kernel) (by decide +kernel)
set_option maxRecDepth 20000 in
theorem gX3_instructionCount_X2_has_n35 : GoodIn wsX3_instructionCount (wsX2_has) := ggX3_instructionCount_X2_has
theorem dX3_instructionCount_0 : decode cX3_instructionCount 0 = .ok (.aload_n 0, 1) := by decide +kernel
theorem dX3_instructionCount_1 : decode cX3_instructionCount 1 = .ok (.getfield 10, 3) := by decide +kernel
theorem dX3_instructionCount_4 : decode cX3_instructionCount 4 = .ok (.iload_n 1, 1) := by decide +kernel
theorem dX3_instructionCount_5 : decode cX3_instructionCount 5 = .ok (.invokevirtual 35, 3) := by decide +kernel
theorem dX3_instructionCount_8 : decode cX3_instructionCount 8 = .ok (.ifCond .eq 18, 3) := by decide +kernel
theorem dX3_instructionCount_11 : decode cX3_instructionCount 11 = .ok (.aload_n 0, 1) := by decide +kernel
theorem dX3_instructionCount_12 : decode cX3_instructionCount 12 = .ok (.getfield 10, 3) := by decide +kernel
theorem dX3_instructionCount_15 : decode cX3_instructionCount 15 = .ok (.getfield 43, 3) := by decide +kernel
theorem dX3_instructionCount_18 : decode cX3_instructionCount 18 = .ok (.iload_n 1, 1) := by decide +kernel
theorem dX3_instructionCount_19 : decode cX3_instructionCount 19 = .ok (.aaload, 1) := by decide +kernel
theorem dX3_instructionCount_20 : decode cX3_instructionCount 20 = .ok (.getfield 64, 3) := by decide +kernel
theorem dX3_instructionCount_23 : decode cX3_instructionCount 23 = .ok (.goto 6, 3) := by decide +kernel
theorem dX3_instructionCount_26 : decode cX3_instructionCount 26 = .ok (.sipush (-1001), 3) := by decide +kernel
theorem dX3_instructionCount_29 : decode cX3_instructionCount 29 = .ok (.ireturn, 1) := by decide +kernel
set_option maxRecDepth 20000 in
theorem ggX3_opcode_X3_instructionError : GoodIn wsX3_opcode wsX3_instructionError := goodIn_r _ [6, 1, 7, 8, 9, 10, 11, 12, 13, 14, 15, 16, 17, 18, 19, 20, 21, 22, 23, 24, 25, 26, 27, 28] (by decide +kernel) (by decide +kernel)
set_option maxRecDepth 20000 in
theorem gX3_opcode_X3_instructionError : GoodIn wsX3_opcode (wsV RX3 65 RX3 yX3_instructionError wsX3_instructionError) := goodIn_app (goodIn_of _ (by decide +kernel)) ggX3_opcode_X3_instructionError
theorem dX3_opcode_0 : decode cX3_opcode 0 = .ok (.aload_n 0, 1) := by decide +kernel
theorem dX3_opcode_1 : decode cX3_opcode 1 = .ok (.iload_n 1, 1) := by decide +kernel
theorem dX3_opcode_2 : decode cX3_opcode 2 = .ok (.iload_n 2, 1) := by decide +kernel
theorem dX3_opcode_3 : decode cX3_opcode 3 = .ok (.invokevirtual 65, 3) := by decide +kernel
theorem dX3_opcode_6 : decode cX3_opcode 6 = .ok (.istore_n 3, 1) := by decide +kernel
theorem dX3_opcode_7 : decode cX3_opcode 7 = .ok (.iload_n 3, 1) := by decide +kernel
theorem dX3_opcode_8 : decode cX3_opcode 8 = .ok (.ifCond .eq 7, 3) := by decide +kernel
theorem dX3_opcode_11 : decode cX3_opcode 11 = .ok (.iload_n 3, 1) := by decide +kernel
theorem dX3_opcode_12 : decode cX3_opcode 12 = .ok (.goto 17, 3) := by decide +kernel
theorem dX3_opcode_15 : decode cX3_opcode 15 = .ok (.aload_n 0, 1) := by decide +kernel
theorem dX3_opcode_16 : decode cX3_opcode 16 = .ok (.getfield 10, 3) := by decide +kernel
theorem dX3_opcode_19 : decode cX3_opcode 19 = .ok (.getfield 43, 3) := by decide +kernel
theorem dX3_opcode_22 : decode cX3_opcode 22 = .ok (.iload_n 1, 1) := by decide +kernel
theorem dX3_opcode_23 : decode cX3_opcode 23 = .ok (.aaload, 1) := by decide +kernel
theorem dX3_opcode_24 : decode cX3_opcode 24 = .ok (.getfield 69, 3) := by decide +kernel
theorem dX3_opcode_27 : decode cX3_opcode 27 = .ok (.iload_n 2, 1) := by decide +kernel
theorem dX3_opcode_28 : decode cX3_opcode 28 = .ok (.iaload, 1) := by decide +kernel
theorem dX3_opcode_29 : decode cX3_opcode 29 = .ok (.ireturn, 1) := by decide +kernel
set_option maxRecDepth 20000 in
theorem ggX3_destination_X3_instructionError : GoodIn wsX3_destination wsX3_instructionError := goodIn_r _ [6, 1, 7, 8, 9, 10, 11, 12, 13, 14, 15, 16, 17, 18, 19, 20, 21, 22, 23, 24, 25, 26, 27, 28] (by decide +kernel) (by decide +kernel)
set_option maxRecDepth 20000 in
theorem gX3_destination_X3_instructionError : GoodIn wsX3_destination (wsV RX3 65 RX3 yX3_instructionError wsX3_instructionError) := goodIn_app (goodIn_of _ (by decide +kernel)) ggX3_destination_X3_instructionError
theorem dX3_destination_0 : decode cX3_destination 0 = .ok (.aload_n 0, 1) := by decide +kernel
theorem dX3_destination_1 : decode cX3_destination 1 = .ok (.iload_n 1, 1) := by decide +kernel
theorem dX3_destination_2 : decode cX3_destination 2 = .ok (.iload_n 2, 1) := by decide +kernel
theorem dX3_destination_3 : decode cX3_destination 3 = .ok (.invokevirtual 65, 3) := by decide +kernel
theorem dX3_destination_6 : decode cX3_destination 6 = .ok (.istore_n 3, 1) := by decide +kernel
theorem dX3_destination_7 : decode cX3_destination 7 = .ok (.iload_n 3, 1) := by decide +kernel
theorem dX3_destination_8 : decode cX3_destination 8 = .ok (.ifCond .eq 7, 3) := by decide +kernel
theorem dX3_destination_11 : decode cX3_destination 11 = .ok (.iload_n 3, 1) := by decide +kernel
theorem dX3_destination_12 : decode cX3_destination 12 = .ok (.goto 17, 3) := by decide +kernel
theorem dX3_destination_15 : decode cX3_destination 15 = .ok (.aload_n 0, 1) := by decide +kernel
theorem dX3_destination_16 : decode cX3_destination 16 = .ok (.getfield 10, 3) := by decide +kernel
theorem dX3_destination_19 : decode cX3_destination 19 = .ok (.getfield 43, 3) := by decide +kernel
theorem dX3_destination_22 : decode cX3_destination 22 = .ok (.iload_n 1, 1) := by decide +kernel
theorem dX3_destination_23 : decode cX3_destination 23 = .ok (.aaload, 1) := by decide +kernel
theorem dX3_destination_24 : decode cX3_destination 24 = .ok (.getfield 73, 3) := by decide +kernel
theorem dX3_destination_27 : decode cX3_destination 27 = .ok (.iload_n 2, 1) := by decide +kernel
theorem dX3_destination_28 : decode cX3_destination 28 = .ok (.iaload, 1) := by decide +kernel
theorem dX3_destination_29 : decode cX3_destination 29 = .ok (.ireturn, 1) := by decide +kernel
set_option maxRecDepth 20000 in
theorem ggX3_operandA_X3_instructionError : GoodIn wsX3_operandA wsX3_instructionError := goodIn_r _ [6, 1, 7, 8, 9, 10, 11, 12, 13, 14, 15, 16, 17, 18, 19, 20, 21, 22, 23, 24, 25, 26, 27, 28] (by decide +kernel) (by decide +kernel)
set_option maxRecDepth 20000 in
theorem gX3_operandA_X3_instructionError : GoodIn wsX3_operandA (wsV RX3 65 RX3 yX3_instructionError wsX3_instructionError) := goodIn_app (goodIn_of _ (by decide +kernel)) ggX3_operandA_X3_instructionError
theorem dX3_operandA_0 : decode cX3_operandA 0 = .ok (.aload_n 0, 1) := by decide +kernel
theorem dX3_operandA_1 : decode cX3_operandA 1 = .ok (.iload_n 1, 1) := by decide +kernel
theorem dX3_operandA_2 : decode cX3_operandA 2 = .ok (.iload_n 2, 1) := by decide +kernel
theorem dX3_operandA_3 : decode cX3_operandA 3 = .ok (.invokevirtual 65, 3) := by decide +kernel
theorem dX3_operandA_6 : decode cX3_operandA 6 = .ok (.istore_n 3, 1) := by decide +kernel
theorem dX3_operandA_7 : decode cX3_operandA 7 = .ok (.iload_n 3, 1) := by decide +kernel
theorem dX3_operandA_8 : decode cX3_operandA 8 = .ok (.ifCond .eq 7, 3) := by decide +kernel
theorem dX3_operandA_11 : decode cX3_operandA 11 = .ok (.iload_n 3, 1) := by decide +kernel
theorem dX3_operandA_12 : decode cX3_operandA 12 = .ok (.goto 17, 3) := by decide +kernel
theorem dX3_operandA_15 : decode cX3_operandA 15 = .ok (.aload_n 0, 1) := by decide +kernel
theorem dX3_operandA_16 : decode cX3_operandA 16 = .ok (.getfield 10, 3) := by decide +kernel
theorem dX3_operandA_19 : decode cX3_operandA 19 = .ok (.getfield 43, 3) := by decide +kernel
theorem dX3_operandA_22 : decode cX3_operandA 22 = .ok (.iload_n 1, 1) := by decide +kernel
theorem dX3_operandA_23 : decode cX3_operandA 23 = .ok (.aaload, 1) := by decide +kernel
theorem dX3_operandA_24 : decode cX3_operandA 24 = .ok (.getfield 76, 3) := by decide +kernel
theorem dX3_operandA_27 : decode cX3_operandA 27 = .ok (.iload_n 2, 1) := by decide +kernel
theorem dX3_operandA_28 : decode cX3_operandA 28 = .ok (.iaload, 1) := by decide +kernel
theorem dX3_operandA_29 : decode cX3_operandA 29 = .ok (.ireturn, 1) := by decide +kernel
set_option maxRecDepth 20000 in
theorem ggX3_operandB_X3_instructionError : GoodIn wsX3_operandB wsX3_instructionError := goodIn_r _ [6, 1, 7, 8, 9, 10, 11, 12, 13, 14, 15, 16, 17, 18, 19, 20, 21, 22, 23, 24, 25, 26, 27, 28] (by decide +kernel) (by decide +kernel)
set_option maxRecDepth 20000 in
theorem gX3_operandB_X3_instructionError : GoodIn wsX3_operandB (wsV RX3 65 RX3 yX3_instructionError wsX3_instructionError) := goodIn_app (goodIn_of _ (by decide +kernel)) ggX3_operandB_X3_instructionError
theorem dX3_operandB_0 : decode cX3_operandB 0 = .ok (.aload_n 0, 1) := by decide +kernel
theorem dX3_operandB_1 : decode cX3_operandB 1 = .ok (.iload_n 1, 1) := by decide +kernel
theorem dX3_operandB_2 : decode cX3_operandB 2 = .ok (.iload_n 2, 1) := by decide +kernel
theorem dX3_operandB_3 : decode cX3_operandB 3 = .ok (.invokevirtual 65, 3) := by decide +kernel
theorem dX3_operandB_6 : decode cX3_operandB 6 = .ok (.istore_n 3, 1) := by decide +kernel
theorem dX3_operandB_7 : decode cX3_operandB 7 = .ok (.iload_n 3, 1) := by decide +kernel
theorem dX3_operandB_8 : decode cX3_operandB 8 = .ok (.ifCond .eq 7, 3) := by decide +kernel
theorem dX3_operandB_11 : decode cX3_operandB 11 = .ok (.iload_n 3, 1) := by decide +kernel
theorem dX3_operandB_12 : decode cX3_operandB 12 = .ok (.goto 17, 3) := by decide +kernel
theorem dX3_operandB_15 : decode cX3_operandB 15 = .ok (.aload_n 0, 1) := by decide +kernel
theorem dX3_operandB_16 : decode cX3_operandB 16 = .ok (.getfield 10, 3) := by decide +kernel
theorem dX3_operandB_19 : decode cX3_operandB 19 = .ok (.getfield 43, 3) := by decide +kernel
theorem dX3_operandB_22 : decode cX3_operandB 22 = .ok (.iload_n 1, 1) := by decide +kernel
theorem dX3_operandB_23 : decode cX3_operandB 23 = .ok (.aaload, 1) := by decide +kernel
theorem dX3_operandB_24 : decode cX3_operandB 24 = .ok (.getfield 79, 3) := by decide +kernel
theorem dX3_operandB_27 : decode cX3_operandB 27 = .ok (.iload_n 2, 1) := by decide +kernel
theorem dX3_operandB_28 : decode cX3_operandB 28 = .ok (.iaload, 1) := by decide +kernel
theorem dX3_operandB_29 : decode cX3_operandB 29 = .ok (.ireturn, 1) := by decide +kernel
set_option maxRecDepth 20000 in
theorem ggX3_lines_X3_instructionError : GoodIn wsX3_lines wsX3_instructionError := goodIn_r _ [6, 1, 7, 8, 9, 10, 11, 12, 13, 14, 15, 16, 17, 18, 19, 20, 21, 22, 23, 24, 25, 26, 27, 28] (by decide +kernel) (by decide +kernel)
set_option maxRecDepth 20000 in
theorem gX3_lines_X3_instructionError : GoodIn wsX3_lines (wsV RX3 65 RX3 yX3_instructionError wsX3_instructionError) := goodIn_app (goodIn_of _ (by decide +kernel)) ggX3_lines_X3_instructionError
theorem dX3_lines_0 : decode cX3_lines 0 = .ok (.aload_n 0, 1) := by decide +kernel
theorem dX3_lines_1 : decode cX3_lines 1 = .ok (.iload_n 1, 1) := by decide +kernel
theorem dX3_lines_2 : decode cX3_lines 2 = .ok (.iload_n 2, 1) := by decide +kernel
theorem dX3_lines_3 : decode cX3_lines 3 = .ok (.invokevirtual 65, 3) := by decide +kernel
theorem dX3_lines_6 : decode cX3_lines 6 = .ok (.istore_n 3, 1) := by decide +kernel
theorem dX3_lines_7 : decode cX3_lines 7 = .ok (.iload_n 3, 1) := by decide +kernel
theorem dX3_lines_8 : decode cX3_lines 8 = .ok (.ifCond .eq 7, 3) := by decide +kernel
theorem dX3_lines_11 : decode cX3_lines 11 = .ok (.iload_n 3, 1) := by decide +kernel
theorem dX3_lines_12 : decode cX3_lines 12 = .ok (.goto 17, 3) := by decide +kernel
theorem dX3_lines_15 : decode cX3_lines 15 = .ok (.aload_n 0, 1) := by decide +kernel
theorem dX3_lines_16 : decode cX3_lines 16 = .ok (.getfield 10, 3) := by decide +kernel
theorem dX3_lines_19 : decode cX3_lines 19 = .ok (.getfield 43, 3) := by decide +kernel
theorem dX3_lines_22 : decode cX3_lines 22 = .ok (.iload_n 1, 1) := by decide +kernel
theorem dX3_lines_23 : decode cX3_lines 23 = .ok (.aaload, 1) := by decide +kernel
theorem dX3_lines_24 : decode cX3_lines 24 = .ok (.getfield 82, 3) := by decide +kernel
theorem dX3_lines_27 : decode cX3_lines 27 = .ok (.iload_n 2, 1) := by decide +kernel
theorem dX3_lines_28 : decode cX3_lines 28 = .ok (.iaload, 1) := by decide +kernel
theorem dX3_lines_29 : decode cX3_lines 29 = .ok (.ireturn, 1) := by decide +kernel
set_option maxRecDepth 20000 in
theorem ggX3_instructionError_X2_has : GoodIn wsX3_instructionError wsX2_has := goodIn_r _ [5, 6, 11, 12, 13, 14, 15] (by decide +kernel) (by decide +kernel)
set_option maxRecDepth 20000 in
theorem gX3_instructionError_X2_has_n35 : GoodIn wsX3_instructionError (wsX2_has) := ggX3_instructionError_X2_has
theorem dX3_instructionError_0 : decode cX3_instructionError 0 = .ok (.aload_n 0, 1) := by decide +kernel
theorem dX3_instructionError_1 : decode cX3_instructionError 1 = .ok (.getfield 10, 3) := by decide +kernel
theorem dX3_instructionError_4 : decode cX3_instructionError 4 = .ok (.iload_n 1, 1) := by decide +kernel
theorem dX3_instructionError_5 : decode cX3_instructionError 5 = .ok (.invokevirtual 35, 3) := by decide +kernel
theorem dX3_instructionError_8 : decode cX3_instructionError 8 = .ok (.ifCond .ne 7, 3) := by decide +kernel
theorem dX3_instructionError_11 : decode cX3_instructionError 11 = .ok (.sipush (-1001), 3) := by decide +kernel
theorem dX3_instructionError_14 : decode cX3_instructionError 14 = .ok (.ireturn, 1) := by decide +kernel
theorem dX3_instructionError_15 : decode cX3_instructionError 15 = .ok (.iload_n 2, 1) := by decide +kernel
theorem dX3_instructionError_16 : decode cX3_instructionError 16 = .ok (.ifCond .lt 19, 3) := by decide +kernel
theorem dX3_instructionError_19 : decode cX3_instructionError 19 = .ok (.iload_n 2, 1) := by decide +kernel
theorem dX3_instructionError_20 : decode cX3_instructionError 20 = .ok (.aload_n 0, 1) := by decide +kernel
theorem dX3_instructionError_21 : decode cX3_instructionError 21 = .ok (.getfield 10, 3) := by decide +kernel
theorem dX3_instructionError_24 : decode cX3_instructionError 24 = .ok (.getfield 43, 3) := by decide +kernel
theorem dX3_instructionError_27 : decode cX3_instructionError 27 = .ok (.iload_n 1, 1) := by decide +kernel
theorem dX3_instructionError_28 : decode cX3_instructionError 28 = .ok (.aaload, 1) := by decide +kernel
theorem dX3_instructionError_29 : decode cX3_instructionError 29 = .ok (.getfield 64, 3) := by decide +kernel
theorem dX3_instructionError_32 : decode cX3_instructionError 32 = .ok (.if_icmp .lt 7, 3) := by decide +kernel
theorem dX3_instructionError_35 : decode cX3_instructionError 35 = .ok (.sipush (-1002), 3) := by decide +kernel
theorem dX3_instructionError_38 : decode cX3_instructionError 38 = .ok (.ireturn, 1) := by decide +kernel
theorem dX3_instructionError_39 : decode cX3_instructionError 39 = .ok (.iconst 0, 1) := by decide +kernel
theorem dX3_instructionError_40 : decode cX3_instructionError 40 = .ok (.ireturn, 1) := by decide +kernel
set_option maxRecDepth 20000 in
theorem ggX3_terminatorKind_X2_has : GoodIn wsX3_terminatorKind wsX2_has := goodIn_r _ [5, 6, 11, 12, 13, 14, 15] (by decide +kernel) (by decide +kernel)
set_option maxRecDepth 20000 in
theorem gX3_terminatorKind_X2_has_n35 : GoodIn wsX3_terminatorKind (wsX2_has) := ggX3_terminatorKind_X2_has
theorem dX3_terminatorKind_0 : decode cX3_terminatorKind 0 = .ok (.aload_n 0, 1) := by decide +kernel
theorem dX3_terminatorKind_1 : decode cX3_terminatorKind 1 = .ok (.getfield 10, 3) := by decide +kernel
theorem dX3_terminatorKind_4 : decode cX3_terminatorKind 4 = .ok (.iload_n 1, 1) := by decide +kernel
theorem dX3_terminatorKind_5 : decode cX3_terminatorKind 5 = .ok (.invokevirtual 35, 3) := by decide +kernel
theorem dX3_terminatorKind_8 : decode cX3_terminatorKind 8 = .ok (.ifCond .eq 18, 3) := by decide +kernel
theorem dX3_terminatorKind_11 : decode cX3_terminatorKind 11 = .ok (.aload_n 0, 1) := by decide +kernel
theorem dX3_terminatorKind_12 : decode cX3_terminatorKind 12 = .ok (.getfield 10, 3) := by decide +kernel
theorem dX3_terminatorKind_15 : decode cX3_terminatorKind 15 = .ok (.getfield 43, 3) := by decide +kernel
theorem dX3_terminatorKind_18 : decode cX3_terminatorKind 18 = .ok (.iload_n 1, 1) := by decide +kernel
theorem dX3_terminatorKind_19 : decode cX3_terminatorKind 19 = .ok (.aaload, 1) := by decide +kernel
theorem dX3_terminatorKind_20 : decode cX3_terminatorKind 20 = .ok (.getfield 85, 3) := by decide +kernel
theorem dX3_terminatorKind_23 : decode cX3_terminatorKind 23 = .ok (.goto 6, 3) := by decide +kernel
theorem dX3_terminatorKind_26 : decode cX3_terminatorKind 26 = .ok (.sipush (-1001), 3) := by decide +kernel
theorem dX3_terminatorKind_29 : decode cX3_terminatorKind 29 = .ok (.ireturn, 1) := by decide +kernel
set_option maxRecDepth 20000 in
theorem ggX3_terminatorOperand_X2_has : GoodIn wsX3_terminatorOperand wsX2_has := goodIn_r _ [5, 6, 11, 12, 13, 14, 15] (by decide +kernel) (by decide +kernel)
set_option maxRecDepth 20000 in
theorem gX3_terminatorOperand_X2_has_n35 : GoodIn wsX3_terminatorOperand (wsX2_has) := ggX3_terminatorOperand_X2_has
theorem dX3_terminatorOperand_0 : decode cX3_terminatorOperand 0 = .ok (.aload_n 0, 1) := by decide +kernel
theorem dX3_terminatorOperand_1 : decode cX3_terminatorOperand 1 = .ok (.getfield 10, 3) := by decide +kernel
theorem dX3_terminatorOperand_4 : decode cX3_terminatorOperand 4 = .ok (.iload_n 1, 1) := by decide +kernel
theorem dX3_terminatorOperand_5 : decode cX3_terminatorOperand 5 = .ok (.invokevirtual 35, 3) := by decide +kernel
theorem dX3_terminatorOperand_8 : decode cX3_terminatorOperand 8 = .ok (.ifCond .ne 7, 3) := by decide +kernel
theorem dX3_terminatorOperand_11 : decode cX3_terminatorOperand 11 = .ok (.sipush (-1001), 3) := by decide +kernel
theorem dX3_terminatorOperand_14 : decode cX3_terminatorOperand 14 = .ok (.ireturn, 1) := by decide +kernel
theorem dX3_terminatorOperand_15 : decode cX3_terminatorOperand 15 = .ok (.aload_n 0, 1) := by decide +kernel
theorem dX3_terminatorOperand_16 : decode cX3_terminatorOperand 16 = .ok (.getfield 10, 3) := by decide +kernel
theorem dX3_terminatorOperand_19 : decode cX3_terminatorOperand 19 = .ok (.getfield 43, 3) := by decide +kernel
theorem dX3_terminatorOperand_22 : decode cX3_terminatorOperand 22 = .ok (.iload_n 1, 1) := by decide +kernel
theorem dX3_terminatorOperand_23 : decode cX3_terminatorOperand 23 = .ok (.aaload, 1) := by decide +kernel
theorem dX3_terminatorOperand_24 : decode cX3_terminatorOperand 24 = .ok (.astore_n 3, 1) := by decide +kernel
theorem dX3_terminatorOperand_25 : decode cX3_terminatorOperand 25 = .ok (.aload_n 3, 1) := by decide +kernel
theorem dX3_terminatorOperand_26 : decode cX3_terminatorOperand 26 = .ok (.getfield 85, 3) := by decide +kernel
theorem dX3_terminatorOperand_29 : decode cX3_terminatorOperand 29 = .ok (.iconst 1, 1) := by decide +kernel
theorem dX3_terminatorOperand_30 : decode cX3_terminatorOperand 30 = .ok (.if_icmp .ne 7, 3) := by decide +kernel
theorem dX3_terminatorOperand_33 : decode cX3_terminatorOperand 33 = .ok (.iconst 3, 1) := by decide +kernel
theorem dX3_terminatorOperand_34 : decode cX3_terminatorOperand 34 = .ok (.goto 4, 3) := by decide +kernel
theorem dX3_terminatorOperand_37 : decode cX3_terminatorOperand 37 = .ok (.iconst 1, 1) := by decide +kernel
theorem dX3_terminatorOperand_38 : decode cX3_terminatorOperand 38 = .ok (.istore 4, 2) := by decide +kernel
theorem dX3_terminatorOperand_40 : decode cX3_terminatorOperand 40 = .ok (.iload_n 2, 1) := by decide +kernel
theorem dX3_terminatorOperand_41 : decode cX3_terminatorOperand 41 = .ok (.ifCond .lt 9, 3) := by decide +kernel
theorem dX3_terminatorOperand_44 : decode cX3_terminatorOperand 44 = .ok (.iload_n 2, 1) := by decide +kernel
theorem dX3_terminatorOperand_45 : decode cX3_terminatorOperand 45 = .ok (.iload 4, 2) := by decide +kernel
theorem dX3_terminatorOperand_47 : decode cX3_terminatorOperand 47 = .ok (.if_icmp .lt 7, 3) := by decide +kernel
theorem dX3_terminatorOperand_50 : decode cX3_terminatorOperand 50 = .ok (.sipush (-1008), 3) := by decide +kernel
theorem dX3_terminatorOperand_53 : decode cX3_terminatorOperand 53 = .ok (.ireturn, 1) := by decide +kernel
theorem dX3_terminatorOperand_54 : decode cX3_terminatorOperand 54 = .ok (.aload_n 3, 1) := by decide +kernel
theorem dX3_terminatorOperand_55 : decode cX3_terminatorOperand 55 = .ok (.getfield 88, 3) := by decide +kernel
