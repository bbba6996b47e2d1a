theorem dX3_terminatorOperand_58 : decode cX3_terminatorOperand 58 = .ok (.iload_n 2, 1) := by decide +kernel
theorem dX3_terminatorOperand_59 : decode cX3_terminatorOperand 59 = .ok (.iaload, 1) := by decide +kernel
theorem dX3_terminatorOperand_60 : decode cX3_terminatorOperand 60 = .ok (.ireturn, 1) := by decide +kernel
set_option maxRecDepth 20000 in
theorem ggX3_tailHash_X2_has : GoodIn wsX3_tailHash wsX2_has := goodIn_r _ [5, 6, 23, 24, 25, 26, 27] (by decide +kernel) (by decide +kernel)
set_option maxRecDepth 20000 in
theorem gX3_tailHash_X2_has_n35 : GoodIn wsX3_tailHash (wsX2_has) := ggX3_tailHash_X2_has
set_option maxRecDepth 20000 in
theorem ggX3_tailHash_X0_hashOfTail : GoodIn wsX3_tailHash wsX0_hashOfTail := goodIn_r _ [10, 11, 12, 13, 14, 15, 16, 17, 18, 28, 29, 30, 31, 32, 33, 34, 35] (by decide +kernel) (by decide +kernel)
set_option maxRecDepth 20000 in
theorem gX3_tailHash_X0_hashOfTail_n91 : GoodIn wsX3_tailHash (wsX0_hashOfTail) := ggX3_tailHash_X0_hashOfTail
theorem dX3_tailHash_0 : decode cX3_tailHash 0 = .ok (.aload_n 0, 1) := by decide +kernel
theorem dX3_tailHash_1 : decode cX3_tailHash 1 = .ok (.getfield 10, 3) := by decide +kernel
theorem dX3_tailHash_4 : decode cX3_tailHash 4 = .ok (.iload_n 1, 1) := by decide +kernel
theorem dX3_tailHash_5 : decode cX3_tailHash 5 = .ok (.invokevirtual 35, 3) := by decide +kernel
theorem dX3_tailHash_8 : decode cX3_tailHash 8 = .ok (.ifCond .ne 7, 3) := by decide +kernel
theorem dX3_tailHash_11 : decode cX3_tailHash 11 = .ok (.sipush (-1001), 3) := by decide +kernel
theorem dX3_tailHash_14 : decode cX3_tailHash 14 = .ok (.ireturn, 1) := by decide +kernel
theorem dX3_tailHash_15 : decode cX3_tailHash 15 = .ok (.aload_n 0, 1) := by decide +kernel
theorem dX3_tailHash_16 : decode cX3_tailHash 16 = .ok (.getfield 10, 3) := by decide +kernel
theorem dX3_tailHash_19 : decode cX3_tailHash 19 = .ok (.getfield 43, 3) := by decide +kernel
theorem dX3_tailHash_22 : decode cX3_tailHash 22 = .ok (.iload_n 1, 1) := by decide +kernel
theorem dX3_tailHash_23 : decode cX3_tailHash 23 = .ok (.aaload, 1) := by decide +kernel
theorem dX3_tailHash_24 : decode cX3_tailHash 24 = .ok (.astore_n 3, 1) := by decide +kernel
theorem dX3_tailHash_25 : decode cX3_tailHash 25 = .ok (.iload_n 2, 1) := by decide +kernel
theorem dX3_tailHash_26 : decode cX3_tailHash 26 = .ok (.ifCond .lt 11, 3) := by decide +kernel
theorem dX3_tailHash_29 : decode cX3_tailHash 29 = .ok (.iload_n 2, 1) := by decide +kernel
theorem dX3_tailHash_30 : decode cX3_tailHash 30 = .ok (.aload_n 3, 1) := by decide +kernel
theorem dX3_tailHash_31 : decode cX3_tailHash 31 = .ok (.getfield 64, 3) := by decide +kernel
theorem dX3_tailHash_34 : decode cX3_tailHash 34 = .ok (.if_icmp .le 7, 3) := by decide +kernel
theorem dX3_tailHash_37 : decode cX3_tailHash 37 = .ok (.sipush (-1003), 3) := by decide +kernel
theorem dX3_tailHash_40 : decode cX3_tailHash 40 = .ok (.ireturn, 1) := by decide +kernel
theorem dX3_tailHash_41 : decode cX3_tailHash 41 = .ok (.aload_n 3, 1) := by decide +kernel
theorem dX3_tailHash_42 : decode cX3_tailHash 42 = .ok (.iload_n 2, 1) := by decide +kernel
theorem dX3_tailHash_43 : decode cX3_tailHash 43 = .ok (.invokevirtual 91, 3) := by decide +kernel
theorem dX3_tailHash_46 : decode cX3_tailHash 46 = .ok (.ireturn, 1) := by decide +kernel
set_option maxRecDepth 20000 in
theorem ggX3_commonTail_X3_pairError : GoodIn wsX3_commonTail wsX3_pairError := goodIn_r _ [6, 1, 7, 8, 9, 10, 11, 35, 36, 37, 38, 39, 40, 41, 42, 43] (by decide +kernel) (by decide +kernel)
set_option maxRecDepth 20000 in
theorem gX3_commonTail_X3_pairError : GoodIn wsX3_commonTail (wsV RX3 95 RX3 yX3_pairError wsX3_pairError) := goodIn_app (goodIn_of _ (by decide +kernel)) ggX3_commonTail_X3_pairError
set_option maxRecDepth 20000 in
theorem ggX3_commonTail_X0_tailSharedWith : GoodIn wsX3_commonTail wsX0_tailSharedWith := goodIn_r _ [15, 16, 17, 18, 19, 20, 21, 22, 23, 13, 24, 25, 26, 27, 28, 29, 30, 31, 32, 33, 34, 44, 45, 46, 47, 48, 49, 50, 51] (by decide +kernel) (by decide +kernel)
set_option maxRecDepth 20000 in
theorem gX3_commonTail_X0_tailSharedWith_n98 : GoodIn wsX3_commonTail (wsX0_tailSharedWith) := ggX3_commonTail_X0_tailSharedWith
theorem dX3_commonTail_0 : decode cX3_commonTail 0 = .ok (.aload_n 0, 1) := by decide +kernel
theorem dX3_commonTail_1 : decode cX3_commonTail 1 = .ok (.iload_n 1, 1) := by decide +kernel
theorem dX3_commonTail_2 : decode cX3_commonTail 2 = .ok (.iload_n 2, 1) := by decide +kernel
theorem dX3_commonTail_3 : decode cX3_commonTail 3 = .ok (.invokevirtual 95, 3) := by decide +kernel
theorem dX3_commonTail_6 : decode cX3_commonTail 6 = .ok (.istore_n 3, 1) := by decide +kernel
theorem dX3_commonTail_7 : decode cX3_commonTail 7 = .ok (.iload_n 3, 1) := by decide +kernel
theorem dX3_commonTail_8 : decode cX3_commonTail 8 = .ok (.ifCond .eq 7, 3) := by decide +kernel
theorem dX3_commonTail_11 : decode cX3_commonTail 11 = .ok (.iload_n 3, 1) := by decide +kernel
theorem dX3_commonTail_12 : decode cX3_commonTail 12 = .ok (.goto 24, 3) := by decide +kernel
theorem dX3_commonTail_15 : decode cX3_commonTail 15 = .ok (.aload_n 0, 1) := by decide +kernel
theorem dX3_commonTail_16 : decode cX3_commonTail 16 = .ok (.getfield 10, 3) := by decide +kernel
theorem dX3_commonTail_19 : decode cX3_commonTail 19 = .ok (.getfield 43, 3) := by decide +kernel
theorem dX3_commonTail_22 : decode cX3_commonTail 22 = .ok (.iload_n 1, 1) := by decide +kernel
theorem dX3_commonTail_23 : decode cX3_commonTail 23 = .ok (.aaload, 1) := by decide +kernel
theorem dX3_commonTail_24 : decode cX3_commonTail 24 = .ok (.aload_n 0, 1) := by decide +kernel
theorem dX3_commonTail_25 : decode cX3_commonTail 25 = .ok (.getfield 10, 3) := by decide +kernel
theorem dX3_commonTail_28 : decode cX3_commonTail 28 = .ok (.getfield 43, 3) := by decide +kernel
theorem dX3_commonTail_31 : decode cX3_commonTail 31 = .ok (.iload_n 2, 1) := by decide +kernel
theorem dX3_commonTail_32 : decode cX3_commonTail 32 = .ok (.aaload, 1) := by decide +kernel
theorem dX3_commonTail_33 : decode cX3_commonTail 33 = .ok (.invokevirtual 98, 3) := by decide +kernel
theorem dX3_commonTail_36 : decode cX3_commonTail 36 = .ok (.ireturn, 1) := by decide +kernel
set_option maxRecDepth 20000 in
theorem ggX3_parameterTail_X3_pairError : GoodIn wsX3_parameterTail wsX3_pairError := goodIn_r _ [6, 1, 7, 8, 9, 10, 11, 47, 48, 49, 50, 51, 52, 53, 54, 55] (by decide +kernel) (by decide +kernel)
set_option maxRecDepth 20000 in
theorem gX3_parameterTail_X3_pairError : GoodIn wsX3_parameterTail (wsV RX3 95 RX3 yX3_pairError wsX3_pairError) := goodIn_app (goodIn_of _ (by decide +kernel)) ggX3_parameterTail_X3_pairError
set_option maxRecDepth 20000 in
theorem ggX3_parameterTail_X0_parameterTailWith : GoodIn wsX3_parameterTail wsX0_parameterTailWith := goodIn_r _ [15, 16, 17, 18, 19, 20, 21, 22, 23, 24, 13, 25, 26, 27, 28, 29, 30, 31, 32, 33, 34, 35, 36, 37, 38, 39, 40, 41, 42, 43, 44, 45, 46, 56, 57, 58, 59, 60, 61, 62, 63] (by decide +kernel) (by decide +kernel)
set_option maxRecDepth 20000 in
theorem gX3_parameterTail_X0_parameterTailWith_n102 : GoodIn wsX3_parameterTail (wsX0_parameterTailWith) := ggX3_parameterTail_X0_parameterTailWith
theorem dX3_parameterTail_0 : decode cX3_parameterTail 0 = .ok (.aload_n 0, 1) := by decide +kernel
theorem dX3_parameterTail_1 : decode cX3_parameterTail 1 = .ok (.iload_n 1, 1) := by decide +kernel
theorem dX3_parameterTail_2 : decode cX3_parameterTail 2 = .ok (.iload_n 2, 1) := by decide +kernel
theorem dX3_parameterTail_3 : decode cX3_parameterTail 3 = .ok (.invokevirtual 95, 3) := by decide +kernel
theorem dX3_parameterTail_6 : decode cX3_parameterTail 6 = .ok (.istore_n 3, 1) := by decide +kernel
theorem dX3_parameterTail_7 : decode cX3_parameterTail 7 = .ok (.iload_n 3, 1) := by decide +kernel
theorem dX3_parameterTail_8 : decode cX3_parameterTail 8 = .ok (.ifCond .eq 7, 3) := by decide +kernel
theorem dX3_parameterTail_11 : decode cX3_parameterTail 11 = .ok (.iload_n 3, 1) := by decide +kernel
theorem dX3_parameterTail_12 : decode cX3_parameterTail 12 = .ok (.goto 24, 3) := by decide +kernel
theorem dX3_parameterTail_15 : decode cX3_parameterTail 15 = .ok (.aload_n 0, 1) := by decide +kernel
theorem dX3_parameterTail_16 : decode cX3_parameterTail 16 = .ok (.getfield 10, 3) := by decide +kernel
theorem dX3_parameterTail_19 : decode cX3_parameterTail 19 = .ok (.getfield 43, 3) := by decide +kernel
theorem dX3_parameterTail_22 : decode cX3_parameterTail 22 = .ok (.iload_n 1, 1) := by decide +kernel
theorem dX3_parameterTail_23 : decode cX3_parameterTail 23 = .ok (.aaload, 1) := by decide +kernel
theorem dX3_parameterTail_24 : decode cX3_parameterTail 24 = .ok (.aload_n 0, 1) := by decide +kernel
theorem dX3_parameterTail_25 : decode cX3_parameterTail 25 = .ok (.getfield 10, 3) := by decide +kernel
theorem dX3_parameterTail_28 : decode cX3_parameterTail 28 = .ok (.getfield 43, 3) := by decide +kernel
theorem dX3_parameterTail_31 : decode cX3_parameterTail 31 = .ok (.iload_n 2, 1) := by decide +kernel
theorem dX3_parameterTail_32 : decode cX3_parameterTail 32 = .ok (.aaload, 1) := by decide +kernel
theorem dX3_parameterTail_33 : decode cX3_parameterTail 33 = .ok (.invokevirtual 102, 3) := by decide +kernel
theorem dX3_parameterTail_36 : decode cX3_parameterTail 36 = .ok (.ireturn, 1) := by decide +kernel
set_option maxRecDepth 20000 in
theorem ggX3_pairError_X2_has : GoodIn wsX3_pairError wsX2_has := goodIn_r _ [5, 6, 11, 12, 13, 14, 15] (by decide +kernel) (by decide +kernel)
set_option maxRecDepth 20000 in
theorem gX3_pairError_X2_has_n35 : GoodIn wsX3_pairError (wsX2_has) := ggX3_pairError_X2_has
theorem dX3_pairError_0 : decode cX3_pairError 0 = .ok (.aload_n 0, 1) := by decide +kernel
theorem dX3_pairError_1 : decode cX3_pairError 1 = .ok (.getfield 10, 3) := by decide +kernel
theorem dX3_pairError_4 : decode cX3_pairError 4 = .ok (.iload_n 1, 1) := by decide +kernel
theorem dX3_pairError_5 : decode cX3_pairError 5 = .ok (.invokevirtual 35, 3) := by decide +kernel
theorem dX3_pairError_8 : decode cX3_pairError 8 = .ok (.ifCond .eq 14, 3) := by decide +kernel
theorem dX3_pairError_11 : decode cX3_pairError 11 = .ok (.aload_n 0, 1) := by decide +kernel
theorem dX3_pairError_12 : decode cX3_pairError 12 = .ok (.getfield 10, 3) := by decide +kernel
theorem dX3_pairError_15 : decode cX3_pairError 15 = .ok (.iload_n 2, 1) := by decide +kernel
theorem dX3_pairError_16 : decode cX3_pairError 16 = .ok (.invokevirtual 35, 3) := by decide +kernel
theorem dX3_pairError_19 : decode cX3_pairError 19 = .ok (.ifCond .ne 7, 3) := by decide +kernel
theorem dX3_pairError_22 : decode cX3_pairError 22 = .ok (.sipush (-1001), 3) := by decide +kernel
theorem dX3_pairError_25 : decode cX3_pairError 25 = .ok (.ireturn, 1) := by decide +kernel
theorem dX3_pairError_26 : decode cX3_pairError 26 = .ok (.iload_n 1, 1) := by decide +kernel
theorem dX3_pairError_27 : decode cX3_pairError 27 = .ok (.iload_n 2, 1) := by decide +kernel
theorem dX3_pairError_28 : decode cX3_pairError 28 = .ok (.if_icmp .ne 9, 3) := by decide +kernel
theorem dX3_pairError_31 : decode cX3_pairError 31 = .ok (.sipush (-1003), 3) := by decide +kernel
theorem dX3_pairError_34 : decode cX3_pairError 34 = .ok (.goto 4, 3) := by decide +kernel
theorem dX3_pairError_37 : decode cX3_pairError 37 = .ok (.iconst 0, 1) := by decide +kernel
theorem dX3_pairError_38 : decode cX3_pairError 38 = .ok (.ireturn, 1) := by decide +kernel
theorem dX3_setJumpCost_0 : decode cX3_setJumpCost 0 = .ok (.iload_n 1, 1) := by decide +kernel
theorem dX3_setJumpCost_1 : decode cX3_setJumpCost 1 = .ok (.ifCond .lt 8, 3) := by decide +kernel
theorem dX3_setJumpCost_4 : decode cX3_setJumpCost 4 = .ok (.iload_n 1, 1) := by decide +kernel
theorem dX3_setJumpCost_5 : decode cX3_setJumpCost 5 = .ok (.iconst 5, 1) := by decide +kernel
theorem dX3_setJumpCost_6 : decode cX3_setJumpCost 6 = .ok (.if_icmp .le 7, 3) := by decide +kernel
theorem dX3_setJumpCost_9 : decode cX3_setJumpCost 9 = .ok (.sipush (-1003), 3) := by decide +kernel
theorem dX3_setJumpCost_12 : decode cX3_setJumpCost 12 = .ok (.ireturn, 1) := by decide +kernel
theorem dX3_setJumpCost_13 : decode cX3_setJumpCost 13 = .ok (.aload_n 0, 1) := by decide +kernel
theorem dX3_setJumpCost_14 : decode cX3_setJumpCost 14 = .ok (.getfield 10, 3) := by decide +kernel
theorem dX3_setJumpCost_17 : decode cX3_setJumpCost 17 = .ok (.getfield 105, 3) := by decide +kernel
theorem dX3_setJumpCost_20 : decode cX3_setJumpCost 20 = .ok (.istore_n 2, 1) := by decide +kernel
theorem dX3_setJumpCost_21 : decode cX3_setJumpCost 21 = .ok (.aload_n 0, 1) := by decide +kernel
theorem dX3_setJumpCost_22 : decode cX3_setJumpCost 22 = .ok (.getfield 10, 3) := by decide +kernel
theorem dX3_setJumpCost_25 : decode cX3_setJumpCost 25 = .ok (.iload_n 1, 1) := by decide +kernel
theorem dX3_setJumpCost_26 : decode cX3_setJumpCost 26 = .ok (.putfield 105, 3) := by decide +kernel
theorem dX3_setJumpCost_29 : decode cX3_setJumpCost 29 = .ok (.iload_n 2, 1) := by decide +kernel
theorem dX3_setJumpCost_30 : decode cX3_setJumpCost 30 = .ok (.ireturn, 1) := by decide +kernel
set_option maxRecDepth 20000 in
theorem ggX3_codeSize_X2_size : GoodIn wsX3_codeSize wsX2_size := goodIn_r _ [5, 6, 7, 8, 9, 10, 3, 11, 12, 17, 18, 19, 20, 21, 22, 23, 24, 25, 26, 27, 28, 29] (by decide +kernel) (by decide +kernel)
set_option maxRecDepth 20000 in
theorem gX3_codeSize_X2_size_n108 : GoodIn wsX3_codeSize (wsX2_size) := ggX3_codeSize_X2_size
theorem dX3_codeSize_0 : decode cX3_codeSize 0 = .ok (.aload_n 0, 1) := by decide +kernel
theorem dX3_codeSize_1 : decode cX3_codeSize 1 = .ok (.getfield 10, 3) := by decide +kernel
theorem dX3_codeSize_4 : decode cX3_codeSize 4 = .ok (.invokevirtual 108, 3) := by decide +kernel
theorem dX3_codeSize_7 : decode cX3_codeSize 7 = .ok (.ireturn, 1) := by decide +kernel
set_option maxRecDepth 20000 in
theorem ggX3_tailSaving_X3_tailOrError : GoodIn wsX3_tailSaving wsX3_tailOrError := goodIn_r _ [6, 1, 7, 8, 9, 10, 11, 12, 13, 14, 15, 16, 17, 18, 19, 20, 21, 22, 23, 24, 25, 26, 27, 28, 29, 30, 31, 32, 33, 34, 35, 36, 37, 38, 39, 40, 41, 42, 43, 44, 45, 46, 60, 61, 62, 63, 64, 65, 66, 67, 68, 69, 70, 71, 72, 73, 74, 75, 76] (by decide +kernel) (by decide +kernel)
set_option maxRecDepth 20000 in
theorem gX3_tailSaving_X3_tailOrError : GoodIn wsX3_tailSaving (wsV RX3 111 RX3 yX3_tailOrError wsX3_tailOrError) := goodIn_app (goodIn_of _ (by decide +kernel)) ggX3_tailSaving_X3_tailOrError
set_option maxRecDepth 20000 in
theorem ggX3_tailSaving_X2_savingOfSet : GoodIn wsX3_tailSaving wsX2_savingOfSet := goodIn_r _ [49, 18, 24, 25, 15, 26, 50, 8, 9, 10, 11, 12, 13, 51, 52, 53, 54, 19, 55, 56, 57, 58, 59, 64, 65, 66, 67, 68, 69, 70, 71, 72, 73, 74, 75, 76] (by decide +kernel) (by decide +kernel)
set_option maxRecDepth 20000 in
theorem gX3_tailSaving_X2_savingOfSet_n114 : GoodIn wsX3_tailSaving (wsX2_savingOfSet) := ggX3_tailSaving_X2_savingOfSet
theorem dX3_tailSaving_0 : decode cX3_tailSaving 0 = .ok (.aload_n 0, 1) := by decide +kernel
theorem dX3_tailSaving_1 : decode cX3_tailSaving 1 = .ok (.iload_n 1, 1) := by decide +kernel
theorem dX3_tailSaving_2 : decode cX3_tailSaving 2 = .ok (.invokevirtual 111, 3) := by decide +kernel
theorem dX3_tailSaving_5 : decode cX3_tailSaving 5 = .ok (.istore_n 2, 1) := by decide +kernel
theorem dX3_tailSaving_6 : decode cX3_tailSaving 6 = .ok (.iload_n 2, 1) := by decide +kernel
theorem dX3_tailSaving_7 : decode cX3_tailSaving 7 = .ok (.ifCond .ge 7, 3) := by decide +kernel
theorem dX3_tailSaving_10 : decode cX3_tailSaving 10 = .ok (.iload_n 2, 1) := by decide +kernel
theorem dX3_tailSaving_11 : decode cX3_tailSaving 11 = .ok (.goto 12, 3) := by decide +kernel
theorem dX3_tailSaving_14 : decode cX3_tailSaving 14 = .ok (.aload_n 0, 1) := by decide +kernel
theorem dX3_tailSaving_15 : decode cX3_tailSaving 15 = .ok (.getfield 10, 3) := by decide +kernel
theorem dX3_tailSaving_18 : decode cX3_tailSaving 18 = .ok (.iload_n 1, 1) := by decide +kernel
theorem dX3_tailSaving_19 : decode cX3_tailSaving 19 = .ok (.iload_n 2, 1) := by decide +kernel
theorem dX3_tailSaving_20 : decode cX3_tailSaving 20 = .ok (.invokevirtual 114, 3) := by decide +kernel
theorem dX3_tailSaving_23 : decode cX3_tailSaving 23 = .ok (.ireturn, 1) := by decide +kernel
set_option maxRecDepth 20000 in
theorem ggX3_tailOrError_J6_bitCount_0f7a4 : GoodIn wsX3_tailOrError wsJ6_bitCount_0f7a4 := goodIn_r _ [5, 6, 7, 8] (by decide +kernel) (by decide +kernel)
set_option maxRecDepth 20000 in
theorem gX3_tailOrError_J6_bitCount_0f7a4 : GoodIn wsX3_tailOrError (va_wsS RX3 117 yJ6_bitCount_0f7a4 wsJ6_bitCount_0f7a4) := goodIn_app (goodIn_of _ (by decide +kernel)) ggX3_tailOrError_J6_bitCount_0f7a4
set_option maxRecDepth 20000 in
theorem ggX3_tailOrError_X2_tailOfSet : GoodIn wsX3_tailOrError wsX2_tailOfSet := goodIn_r _ [12, 13, 14, 15, 16, 17, 18, 19, 20, 10, 21, 22, 23, 24, 25, 26, 27, 28, 29, 30, 31, 32, 33, 34, 35, 36, 37, 38, 39, 40, 41, 46, 47, 48, 49, 50, 51, 52, 53, 54, 55, 56, 57, 58] (by decide +kernel) (by decide +kernel)
set_option maxRecDepth 20000 in
theorem gX3_tailOrError_X2_tailOfSet_n122 : GoodIn wsX3_tailOrError (wsX2_tailOfSet) := ggX3_tailOrError_X2_tailOfSet
theorem dX3_tailOrError_0 : decode cX3_tailOrError 0 = .ok (.iload_n 1, 1) := by decide +kernel
theorem dX3_tailOrError_1 : decode cX3_tailOrError 1 = .ok (.aload_n 0, 1) := by decide +kernel
theorem dX3_tailOrError_2 : decode cX3_tailOrError 2 = .ok (.getfield 10, 3) := by decide +kernel
theorem dX3_tailOrError_5 : decode cX3_tailOrError 5 = .ok (.getfield 60, 3) := by decide +kernel
theorem dX3_tailOrError_8 : decode cX3_tailOrError 8 = .ok (.ishr, 1) := by decide +kernel
theorem dX3_tailOrError_9 : decode cX3_tailOrError 9 = .ok (.ifCond .eq 7, 3) := by decide +kernel
theorem dX3_tailOrError_12 : decode cX3_tailOrError 12 = .ok (.sipush (-1001), 3) := by decide +kernel
theorem dX3_tailOrError_15 : decode cX3_tailOrError 15 = .ok (.ireturn, 1) := by decide +kernel
theorem dX3_tailOrError_16 : decode cX3_tailOrError 16 = .ok (.iload_n 1, 1) := by decide +kernel
theorem dX3_tailOrError_17 : decode cX3_tailOrError 17 = .ok (.invokestatic 117, 3) := by decide +kernel
theorem dX3_tailOrError_20 : decode cX3_tailOrError 20 = .ok (.iconst 2, 1) := by decide +kernel
theorem dX3_tailOrError_21 : decode cX3_tailOrError 21 = .ok (.if_icmp .ge 7, 3) := by decide +kernel
theorem dX3_tailOrError_24 : decode cX3_tailOrError 24 = .ok (.sipush (-1003), 3) := by decide +kernel
theorem dX3_tailOrError_27 : decode cX3_tailOrError 27 = .ok (.ireturn, 1) := by decide +kernel
theorem dX3_tailOrError_28 : decode cX3_tailOrError 28 = .ok (.aload_n 0, 1) := by decide +kernel
theorem dX3_tailOrError_29 : decode cX3_tailOrError 29 = .ok (.getfield 10, 3) := by decide +kernel
theorem dX3_tailOrError_32 : decode cX3_tailOrError 32 = .ok (.iload_n 1, 1) := by decide +kernel
theorem dX3_tailOrError_33 : decode cX3_tailOrError 33 = .ok (.invokevirtual 122, 3) := by decide +kernel
theorem dX3_tailOrError_36 : decode cX3_tailOrError 36 = .ok (.ireturn, 1) := by decide +kernel
set_option maxRecDepth 20000 in
theorem ggX3_bestTail_X2_bestSet : GoodIn wsX3_bestTail wsX2_bestSet := goodIn_r _ [5, 6, 7, 8, 9, 10, 3, 11, 12, 13, 14, 15, 16, 17, 18, 19, 20, 21, 22, 23, 24, 25, 26, 27, 28, 29, 30, 31, 32, 33, 34, 35, 36, 37, 38, 39, 40, 41, 42, 43, 44, 45, 46, 47, 48, 49, 50, 51, 52, 53, 54, 55, 60, 61, 62, 63, 64, 65, 66, 67, 68, 69, 70, 71, 72] (by decide +kernel) (by decide +kernel)
set_option maxRecDepth 20000 in
theorem gX3_bestTail_X2_bestSet_n125 : GoodIn wsX3_bestTail (wsX2_bestSet) := ggX3_bestTail_X2_bestSet
theorem dX3_bestTail_0 : decode cX3_bestTail 0 = .ok (.aload_n 0, 1) := by decide +kernel
theorem dX3_bestTail_1 : decode cX3_bestTail 1 = .ok (.getfield 10, 3) := by decide +kernel
theorem dX3_bestTail_4 : decode cX3_bestTail 4 = .ok (.invokevirtual 125, 3) := by decide +kernel
theorem dX3_bestTail_7 : decode cX3_bestTail 7 = .ok (.ireturn, 1) := by decide +kernel
set_option maxRecDepth 20000 in
theorem ggX3_mergeTail_X3_tailOrError : GoodIn wsX3_mergeTail wsX3_tailOrError := goodIn_r _ [6, 1, 7, 8, 9, 10, 11, 12, 13, 14, 15, 16, 17, 18, 19, 20, 21, 22, 23, 24, 25, 26, 27, 28, 29, 30, 31, 32, 33, 34, 35, 36, 37, 38, 39, 40, 41, 42, 43, 44, 45, 46, 88, 89, 90, 91, 92, 93, 94, 95, 96, 97, 98, 99, 100, 101, 102, 103, 104] (by decide +kernel) (by decide +kernel)
set_option maxRecDepth 20000 in
theorem gX3_mergeTail_X3_tailOrError : GoodIn wsX3_mergeTail (wsV RX3 111 RX3 yX3_tailOrError wsX3_tailOrError) := goodIn_app (goodIn_of _ (by decide +kernel)) ggX3_mergeTail_X3_tailOrError
set_option maxRecDepth 20000 in
theorem ggX3_mergeTail_X2_savingOfSet : GoodIn wsX3_mergeTail wsX2_savingOfSet := goodIn_r _ [49, 18, 24, 25, 15, 26, 50, 8, 9, 10, 11, 12, 13, 51, 52, 53, 54, 19, 55, 56, 57, 58, 59, 92, 93, 94, 95, 96, 97, 98, 99, 100, 101, 102, 103, 104] (by decide +kernel) (by decide +kernel)
set_option maxRecDepth 20000 in
theorem gX3_mergeTail_X2_savingOfSet_n114 : GoodIn wsX3_mergeTail (wsX2_savingOfSet) := ggX3_mergeTail_X2_savingOfSet
set_option maxRecDepth 20000 in
theorem ggX3_mergeTail_X2_mergeSet : GoodIn wsX3_mergeTail wsX2_mergeSet := goodIn_r _ [62, 19, 63, 64, 65, 15, 66, 18, 67, 28, 68, 69, 31, 70, 71, 72, 73, 37, 38, 24, 25, 26, 74, 75, 76, 77, 78, 79, 80, 43, 44, 45, 46, 81, 82, 83, 84, 85, 86, 87, 92, 93, 94, 95, 96, 97, 98, 99, 100, 101, 102, 103, 104] (by decide +kernel) (by decide +kernel)
set_option maxRecDepth 20000 in
theorem gX3_mergeTail_X2_mergeSet_n128 : GoodIn wsX3_mergeTail (wsX2_mergeSet) := ggX3_mergeTail_X2_mergeSet
theorem dX3_mergeTail_0 : decode cX3_mergeTail 0 = .ok (.aload_n 0, 1) := by decide +kernel
theorem dX3_mergeTail_1 : decode cX3_mergeTail 1 = .ok (.iload_n 1, 1) := by decide +kernel
theorem dX3_mergeTail_2 : decode cX3_mergeTail 2 = .ok (.invokevirtual 111, 3) := by decide +kernel
theorem dX3_mergeTail_5 : decode cX3_mergeTail 5 = .ok (.istore_n 2, 1) := by decide +kernel
theorem dX3_mergeTail_6 : decode cX3_mergeTail 6 = .ok (.iload_n 2, 1) := by decide +kernel
theorem dX3_mergeTail_7 : decode cX3_mergeTail 7 = .ok (.ifCond .ge 5, 3) := by decide +kernel
theorem dX3_mergeTail_10 : decode cX3_mergeTail 10 = .ok (.iload_n 2, 1) := by decide +kernel
theorem dX3_mergeTail_11 : decode cX3_mergeTail 11 = .ok (.ireturn, 1) := by decide +kernel
theorem dX3_mergeTail_12 : decode cX3_mergeTail 12 = .ok (.aload_n 0, 1) := by decide +kernel
theorem dX3_mergeTail_13 : decode cX3_mergeTail 13 = .ok (.getfield 10, 3) := by decide +kernel
theorem dX3_mergeTail_16 : decode cX3_mergeTail 16 = .ok (.iload_n 1, 1) := by decide +kernel
theorem dX3_mergeTail_17 : decode cX3_mergeTail 17 = .ok (.iload_n 2, 1) := by decide +kernel
theorem dX3_mergeTail_18 : decode cX3_mergeTail 18 = .ok (.invokevirtual 114, 3) := by decide +kernel
theorem dX3_mergeTail_21 : decode cX3_mergeTail 21 = .ok (.ifCond .gt 7, 3) := by decide +kernel
theorem dX3_mergeTail_24 : decode cX3_mergeTail 24 = .ok (.sipush (-1006), 3) := by decide +kernel
theorem dX3_mergeTail_27 : decode cX3_mergeTail 27 = .ok (.ireturn, 1) := by decide +kernel
theorem dX3_mergeTail_28 : decode cX3_mergeTail 28 = .ok (.aload_n 0, 1) := by decide +kernel
theorem dX3_mergeTail_29 : decode cX3_mergeTail 29 = .ok (.getfield 10, 3) := by decide +kernel
theorem dX3_mergeTail_32 : decode cX3_mergeTail 32 = .ok (.iload_n 1, 1) := by decide +kernel
theorem dX3_mergeTail_33 : decode cX3_mergeTail 33 = .ok (.iload_n 2, 1) := by decide +kernel
theorem dX3_mergeTail_34 : decode cX3_mergeTail 34 = .ok (.invokevirtual 128, 3) := by decide +kernel
theorem dX3_mergeTail_37 : decode cX3_mergeTail 37 = .ok (.ireturn, 1) := by decide +kernel
set_option maxRecDepth 20000 in
theorem ggX3_parameterSaving_X3_parameterTail : GoodIn wsX3_parameterSaving wsX3_parameterTail := goodIn_r _ [6, 1, 7, 8, 9, 5, 10, 11, 12, 13, 14, 15, 16, 17, 18, 19, 20, 21, 22, 23, 24, 25, 26, 27, 28, 29, 30, 31, 32, 33, 34, 35, 36, 37, 38, 39, 40, 41, 42, 43, 44, 45, 46, 47, 48, 49, 50, 60, 61, 62, 63, 64, 65, 66, 67, 68, 69, 70, 71, 72, 73, 74, 75, 76] (by decide +kernel) (by decide +kernel)
set_option maxRecDepth 20000 in
theorem gX3_parameterSaving_X3_parameterTail : GoodIn wsX3_parameterSaving (wsV RX3 131 RX3 yX3_parameterTail wsX3_parameterTail) := goodIn_app (goodIn_of _ (by decide +kernel)) ggX3_parameterSaving_X3_parameterTail
set_option maxRecDepth 20000 in
theorem ggX3_parameterSaving_X2_savingWithParameter : GoodIn wsX3_parameterSaving wsX2_savingWithParameter := goodIn_r _ [53, 54, 55, 56, 57, 12, 58, 59, 64, 65, 66, 67, 68, 69, 70, 71, 72, 73, 74, 75, 76] (by decide +kernel) (by decide +kernel)
set_option maxRecDepth 20000 in
theorem gX3_parameterSaving_X2_savingWithParameter_n134 : GoodIn wsX3_parameterSaving (wsX2_savingWithParameter) := ggX3_parameterSaving_X2_savingWithParameter
theorem dX3_parameterSaving_0 : decode cX3_parameterSaving 0 = .ok (.aload_n 0, 1) := by decide +kernel
theorem dX3_parameterSaving_1 : decode cX3_parameterSaving 1 = .ok (.iload_n 1, 1) := by decide +kernel
theorem dX3_parameterSaving_2 : decode cX3_parameterSaving 2 = .ok (.iload_n 2, 1) := by decide +kernel
theorem dX3_parameterSaving_3 : decode cX3_parameterSaving 3 = .ok (.invokevirtual 131, 3) := by decide +kernel
theorem dX3_parameterSaving_6 : decode cX3_parameterSaving 6 = .ok (.istore_n 3, 1) := by decide +kernel
theorem dX3_parameterSaving_7 : decode cX3_parameterSaving 7 = .ok (.iload_n 3, 1) := by decide +kernel
theorem dX3_parameterSaving_8 : decode cX3_parameterSaving 8 = .ok (.ifCond .ge 7, 3) := by decide +kernel
theorem dX3_parameterSaving_11 : decode cX3_parameterSaving 11 = .ok (.iload_n 3, 1) := by decide +kernel
theorem dX3_parameterSaving_12 : decode cX3_parameterSaving 12 = .ok (.goto 12, 3) := by decide +kernel
theorem dX3_parameterSaving_15 : decode cX3_parameterSaving 15 = .ok (.aload_n 0, 1) := by decide +kernel
theorem dX3_parameterSaving_16 : decode cX3_parameterSaving 16 = .ok (.getfield 10, 3) := by decide +kernel
theorem dX3_parameterSaving_19 : decode cX3_parameterSaving 19 = .ok (.iload_n 1, 1) := by decide +kernel
theorem dX3_parameterSaving_20 : decode cX3_parameterSaving 20 = .ok (.iload_n 3, 1) := by decide +kernel
theorem dX3_parameterSaving_21 : decode cX3_parameterSaving 21 = .ok (.invokevirtual 134, 3) := by decide +kernel
theorem dX3_parameterSaving_24 : decode cX3_parameterSaving 24 = .ok (.ireturn, 1) := by decide +kernel
set_option maxRecDepth 20000 in
theorem ggX3_mergeWithParameter_X3_parameterTail : GoodIn wsX3_mergeWithParameter wsX3_parameterTail := goodIn_r _ [6, 1, 7, 8, 9, 5, 10, 11, 12, 13, 14, 15, 16, 17, 18, 19, 20, 21, 22, 23, 24, 25, 26, 27, 28, 29, 30, 31, 32, 33, 34, 35, 36, 37, 38, 39, 40, 41, 42, 43, 44, 45, 46, 47, 48, 49, 50, 87, 88, 89, 90, 91, 92, 93, 94, 95, 96, 97, 98, 99, 100, 101, 102, 103] (by decide +kernel) (by decide +kernel)
set_option maxRecDepth 20000 in
theorem gX3_mergeWithParameter_X3_parameterTail : GoodIn wsX3_mergeWithParameter (wsV RX3 131 RX3 yX3_parameterTail wsX3_parameterTail) := goodIn_app (goodIn_of _ (by decide +kernel)) ggX3_mergeWithParameter_X3_parameterTail
set_option maxRecDepth 20000 in
theorem ggX3_mergeWithParameter_X2_mergePair : GoodIn wsX3_mergeWithParameter wsX2_mergePair := goodIn_r _ [53, 54, 55, 56, 57, 12, 58, 15, 59, 17, 60, 61, 21, 62, 63, 64, 65, 20, 30, 44, 45, 46, 42, 39, 41, 40, 66, 67, 68, 69, 70, 71, 72, 73, 74, 75, 76, 77, 78, 79, 80, 81, 82, 83, 84, 85, 86, 91, 92, 93, 94, 95, 96, 97, 98, 99, 100, 101, 102, 103] (by decide +kernel) (by decide +kernel)
set_option maxRecDepth 20000 in
theorem gX3_mergeWithParameter_X2_mergePair_n137 : GoodIn wsX3_mergeWithParameter (wsX2_mergePair) := ggX3_mergeWithParameter_X2_mergePair
theorem dX3_mergeWithParameter_0 : decode cX3_mergeWithParameter 0 = .ok (.aload_n 0, 1) := by decide +kernel
theorem dX3_mergeWithParameter_1 : decode cX3_mergeWithParameter 1 = .ok (.iload_n 1, 1) := by decide +kernel
theorem dX3_mergeWithParameter_2 : decode cX3_mergeWithParameter 2 = .ok (.iload_n 2, 1) := by decide +kernel
theorem dX3_mergeWithParameter_3 : decode cX3_mergeWithParameter 3 = .ok (.invokevirtual 131, 3) := by decide +kernel
theorem dX3_mergeWithParameter_6 : decode cX3_mergeWithParameter 6 = .ok (.istore_n 3, 1) := by decide +kernel
theorem dX3_mergeWithParameter_7 : decode cX3_mergeWithParameter 7 = .ok (.iload_n 3, 1) := by decide +kernel
theorem dX3_mergeWithParameter_8 : decode cX3_mergeWithParameter 8 = .ok (.ifCond .ge 7, 3) := by decide +kernel
theorem dX3_mergeWithParameter_11 : decode cX3_mergeWithParameter 11 = .ok (.iload_n 3, 1) := by decide +kernel
theorem dX3_mergeWithParameter_12 : decode cX3_mergeWithParameter 12 = .ok (.goto 13, 3) := by decide +kernel
theorem dX3_mergeWithParameter_15 : decode cX3_mergeWithParameter 15 = .ok (.aload_n 0, 1) := by decide +kernel
theorem dX3_mergeWithParameter_16 : decode cX3_mergeWithParameter 16 = .ok (.getfield 10, 3) := by decide +kernel
theorem dX3_mergeWithParameter_19 : decode cX3_mergeWithParameter 19 = .ok (.iload_n 1, 1) := by decide +kernel
theorem dX3_mergeWithParameter_20 : decode cX3_mergeWithParameter 20 = .ok (.iload_n 2, 1) := by decide +kernel
theorem dX3_mergeWithParameter_21 : decode cX3_mergeWithParameter 21 = .ok (.iload_n 3, 1) := by decide +kernel
theorem dX3_mergeWithParameter_22 : decode cX3_mergeWithParameter 22 = .ok (.invokevirtual 137, 3) := by decide +kernel
theorem dX3_mergeWithParameter_25 : decode cX3_mergeWithParameter 25 = .ok (.ireturn, 1) := by decide +kernel
set_option maxRecDepth 20000 in
theorem ggX3_mergeAll_X2_bestSet : GoodIn wsX3_mergeAll wsX2_bestSet := goodIn_r _ [5, 6, 7, 8, 9, 10, 3, 11, 12, 13, 14, 15, 16, 17, 18, 19, 20, 21, 22, 23, 24, 25, 26, 27, 28, 29, 30, 31, 32, 33, 34, 35, 36, 37, 38, 39, 40, 41, 42, 43, 44, 45, 46, 47, 48, 49, 50, 51, 52, 53, 54, 55, 95, 96, 97, 98, 99, 100, 101, 102, 103, 104, 105, 106, 107] (by decide +kernel) (by decide +kernel)
set_option maxRecDepth 20000 in
theorem gX3_mergeAll_X2_bestSet_n125 : GoodIn wsX3_mergeAll (wsX2_bestSet) := ggX3_mergeAll_X2_bestSet
set_option maxRecDepth 20000 in
theorem ggX3_mergeAll_X2_tailOfSet : GoodIn wsX3_mergeAll wsX2_tailOfSet := goodIn_r _ [58, 6, 7, 59, 19, 20, 21, 60, 61, 3, 62, 13, 14, 15, 16, 17, 18, 22, 23, 24, 25, 26, 27, 28, 29, 30, 31, 32, 33, 34, 35, 95, 96, 97, 98, 99, 100, 101, 102, 103, 104, 105, 106, 107] (by decide +kernel) (by decide +kernel)
set_option maxRecDepth 20000 in
theorem gX3_mergeAll_X2_tailOfSet_n122 : GoodIn wsX3_mergeAll (wsX2_tailOfSet) := ggX3_mergeAll_X2_tailOfSet
set_option maxRecDepth 20000 in
theorem ggX3_mergeAll_X2_mergeSet : GoodIn wsX3_mergeAll wsX2_mergeSet := goodIn_r _ [65, 7, 66, 67, 68, 3, 69, 6, 70, 14, 71, 72, 17, 73, 74, 75, 76, 26, 27, 60, 61, 62, 77, 78, 79, 80, 81, 82, 83, 32, 33, 34, 35, 84, 85, 86, 87, 88, 89, 90, 95, 96, 97, 98, 99, 100, 101, 102, 103, 104, 105, 106, 107] (by decide +kernel) (by decide +kernel)
set_option maxRecDepth 20000 in
theorem gX3_mergeAll_X2_mergeSet_n128 : GoodIn wsX3_mergeAll (wsX2_mergeSet) := ggX3_mergeAll_X2_mergeSet
theorem dX3_mergeAll_0 : decode cX3_mergeAll 0 = .ok (.bipush 12, 2) := by decide +kernel
theorem dX3_mergeAll_2 : decode cX3_mergeAll 2 = .ok (.aload_n 0, 1) := by decide +kernel
theorem dX3_mergeAll_3 : decode cX3_mergeAll 3 = .ok (.getfield 10, 3) := by decide +kernel
theorem dX3_mergeAll_6 : decode cX3_mergeAll 6 = .ok (.getfield 60, 3) := by decide +kernel
theorem dX3_mergeAll_9 : decode cX3_mergeAll 9 = .ok (.isub, 1) := by decide +kernel
theorem dX3_mergeAll_10 : decode cX3_mergeAll 10 = .ok (.istore_n 1, 1) := by decide +kernel
theorem dX3_mergeAll_11 : decode cX3_mergeAll 11 = .ok (.iconst 0, 1) := by decide +kernel
theorem dX3_mergeAll_12 : decode cX3_mergeAll 12 = .ok (.istore_n 2, 1) := by decide +kernel
theorem dX3_mergeAll_13 : decode cX3_mergeAll 13 = .ok (.iload_n 2, 1) := by decide +kernel
theorem dX3_mergeAll_14 : decode cX3_mergeAll 14 = .ok (.iload_n 1, 1) := by decide +kernel
theorem dX3_mergeAll_15 : decode cX3_mergeAll 15 = .ok (.if_icmp .ge 44, 3) := by decide +kernel
theorem dX3_mergeAll_18 : decode cX3_mergeAll 18 = .ok (.aload_n 0, 1) := by decide +kernel
theorem dX3_mergeAll_19 : decode cX3_mergeAll 19 = .ok (.getfield 10, 3) := by decide +kernel
theorem dX3_mergeAll_22 : decode cX3_mergeAll 22 = .ok (.invokevirtual 125, 3) := by decide +kernel
theorem dX3_mergeAll_25 : decode cX3_mergeAll 25 = .ok (.istore_n 3, 1) := by decide +kernel
theorem dX3_mergeAll_26 : decode cX3_mergeAll 26 = .ok (.iload_n 3, 1) := by decide +kernel
theorem dX3_mergeAll_27 : decode cX3_mergeAll 27 = .ok (.sipush (-1008), 3) := by decide +kernel
theorem dX3_mergeAll_30 : decode cX3_mergeAll 30 = .ok (.if_icmp .ne 6, 3) := by decide +kernel
theorem dX3_mergeAll_33 : decode cX3_mergeAll 33 = .ok (.goto 26, 3) := by decide +kernel
theorem dX3_mergeAll_36 : decode cX3_mergeAll 36 = .ok (.aload_n 0, 1) := by decide +kernel
theorem dX3_mergeAll_37 : decode cX3_mergeAll 37 = .ok (.getfield 10, 3) := by decide +kernel
theorem dX3_mergeAll_40 : decode cX3_mergeAll 40 = .ok (.iload_n 3, 1) := by decide +kernel
theorem dX3_mergeAll_41 : decode cX3_mergeAll 41 = .ok (.aload_n 0, 1) := by decide +kernel
theorem dX3_mergeAll_42 : decode cX3_mergeAll 42 = .ok (.getfield 10, 3) := by decide +kernel
theorem dX3_mergeAll_45 : decode cX3_mergeAll 45 = .ok (.iload_n 3, 1) := by decide +kernel
theorem dX3_mergeAll_46 : decode cX3_mergeAll 46 = .ok (.invokevirtual 122, 3) := by decide +kernel
theorem dX3_mergeAll_49 : decode cX3_mergeAll 49 = .ok (.invokevirtual 128, 3) := by decide +kernel
theorem dX3_mergeAll_52 : decode cX3_mergeAll 52 = .ok (.pop, 1) := by decide +kernel
theorem dX3_mergeAll_53 : decode cX3_mergeAll 53 = .ok (.iinc 2 1, 3) := by decide +kernel
theorem dX3_mergeAll_56 : decode cX3_mergeAll 56 = .ok (.goto (-43), 3) := by decide +kernel
theorem dX3_mergeAll_59 : decode cX3_mergeAll 59 = .ok (.iload_n 2, 1) := by decide +kernel
theorem dX3_mergeAll_60 : decode cX3_mergeAll 60 = .ok (.ireturn, 1) := by decide +kernel
set_option maxRecDepth 20000 in
theorem ggX3_setRegister_X3_isGeneral : GoodIn wsX3_setRegister wsX3_isGeneral := goodIn_r _ [5] (by decide +kernel) (by decide +kernel)
set_option maxRecDepth 20000 in
theorem gX3_setRegister_X3_isGeneral : GoodIn wsX3_setRegister (va_wsS RX3 53 yX3_isGeneral wsX3_isGeneral) := goodIn_app (goodIn_of _ (by decide +kernel)) ggX3_setRegister_X3_isGeneral
theorem dX3_setRegister_0 : decode cX3_setRegister 0 = .ok (.iload_n 1, 1) := by decide +kernel
theorem dX3_setRegister_1 : decode cX3_setRegister 1 = .ok (.invokestatic 53, 3) := by decide +kernel
theorem dX3_setRegister_4 : decode cX3_setRegister 4 = .ok (.ifCond .ne 7, 3) := by decide +kernel
theorem dX3_setRegister_7 : decode cX3_setRegister 7 = .ok (.sipush (-1003), 3) := by decide +kernel
theorem dX3_setRegister_10 : decode cX3_setRegister 10 = .ok (.ireturn, 1) := by decide +kernel
theorem dX3_setRegister_11 : decode cX3_setRegister 11 = .ok (.aload_n 0, 1) := by decide +kernel
theorem dX3_setRegister_12 : decode cX3_setRegister 12 = .ok (.getfield 10, 3) := by decide +kernel
theorem dX3_setRegister_15 : decode cX3_setRegister 15 = .ok (.getfield 141, 3) := by decide +kernel
theorem dX3_setRegister_18 : decode cX3_setRegister 18 = .ok (.iload_n 1, 1) := by decide +kernel
theorem dX3_setRegister_19 : decode cX3_setRegister 19 = .ok (.iload_n 2, 1) := by decide +kernel
theorem dX3_setRegister_20 : decode cX3_setRegister 20 = .ok (.iastore, 1) := by decide +kernel
theorem dX3_setRegister_21 : decode cX3_setRegister 21 = .ok (.iconst 1, 1) := by decide +kernel
theorem dX3_setRegister_22 : decode cX3_setRegister 22 = .ok (.ireturn, 1) := by decide +kernel
set_option maxRecDepth 20000 in
theorem ggX3_run_X1_execute : GoodIn wsX3_run wsX1_execute := goodIn_r _ [6, 7, 8, 9, 10, 11, 12, 13, 14, 15, 4, 16, 17, 18, 19, 20, 21, 22, 23, 24, 25, 30, 31, 32, 33, 34, 35, 36, 37, 38, 39, 40, 41, 42, 43, 44, 45] (by decide +kernel) (by decide +kernel)
set_option maxRecDepth 20000 in
theorem gX3_run_X1_execute_n144 : GoodIn wsX3_run (wsX1_execute) := ggX3_run_X1_execute
theorem dX3_run_0 : decode cX3_run 0 = .ok (.iload_n 1, 1) := by decide +kernel
theorem dX3_run_1 : decode cX3_run 1 = .ok (.iconst 1, 1) := by decide +kernel
theorem dX3_run_2 : decode cX3_run 2 = .ok (.if_icmp .lt 10, 3) := by decide +kernel
theorem dX3_run_5 : decode cX3_run 5 = .ok (.iload_n 1, 1) := by decide +kernel
theorem dX3_run_6 : decode cX3_run 6 = .ok (.sipush 1000, 3) := by decide +kernel
theorem dX3_run_9 : decode cX3_run 9 = .ok (.if_icmp .le 7, 3) := by decide +kernel
theorem dX3_run_12 : decode cX3_run 12 = .ok (.sipush (-1003), 3) := by decide +kernel
theorem dX3_run_15 : decode cX3_run 15 = .ok (.ireturn, 1) := by decide +kernel
theorem dX3_run_16 : decode cX3_run 16 = .ok (.aload_n 0, 1) := by decide +kernel
theorem dX3_run_17 : decode cX3_run 17 = .ok (.getfield 10, 3) := by decide +kernel
theorem dX3_run_20 : decode cX3_run 20 = .ok (.getfield 60, 3) := by decide +kernel
theorem dX3_run_23 : decode cX3_run 23 = .ok (.ifCond .ne 7, 3) := by decide +kernel
theorem dX3_run_26 : decode cX3_run 26 = .ok (.sipush (-1001), 3) := by decide +kernel
theorem dX3_run_29 : decode cX3_run 29 = .ok (.ireturn, 1) := by decide +kernel
theorem dX3_run_30 : decode cX3_run 30 = .ok (.aload_n 0, 1) := by decide +kernel
theorem dX3_run_31 : decode cX3_run 31 = .ok (.getfield 27, 3) := by decide +kernel
theorem dX3_run_34 : decode cX3_run 34 = .ok (.aload_n 0, 1) := by decide +kernel
theorem dX3_run_35 : decode cX3_run 35 = .ok (.getfield 10, 3) := by decide +kernel
theorem dX3_run_38 : decode cX3_run 38 = .ok (.iload_n 1, 1) := by decide +kernel
theorem dX3_run_39 : decode cX3_run 39 = .ok (.invokevirtual 144, 3) := by decide +kernel
theorem dX3_run_42 : decode cX3_run 42 = .ok (.ireturn, 1) := by decide +kernel
theorem dX3_traceLength_0 : decode cX3_traceLength 0 = .ok (.aload_n 0, 1) := by decide +kernel
theorem dX3_traceLength_1 : decode cX3_traceLength 1 = .ok (.getfield 27, 3) := by decide +kernel
theorem dX3_traceLength_4 : decode cX3_traceLength 4 = .ok (.getfield 148, 3) := by decide +kernel
theorem dX3_traceLength_7 : decode cX3_traceLength 7 = .ok (.ireturn, 1) := by decide +kernel
theorem dX3_trace_0 : decode cX3_trace 0 = .ok (.iload_n 1, 1) := by decide +kernel
theorem dX3_trace_1 : decode cX3_trace 1 = .ok (.ifCond .lt 26, 3) := by decide +kernel
theorem dX3_trace_4 : decode cX3_trace 4 = .ok (.iload_n 1, 1) := by decide +kernel
theorem dX3_trace_5 : decode cX3_trace 5 = .ok (.aload_n 0, 1) := by decide +kernel
theorem dX3_trace_6 : decode cX3_trace 6 = .ok (.getfield 27, 3) := by decide +kernel
theorem dX3_trace_9 : decode cX3_trace 9 = .ok (.getfield 148, 3) := by decide +kernel
theorem dX3_trace_12 : decode cX3_trace 12 = .ok (.if_icmp .ge 15, 3) := by decide +kernel
theorem dX3_trace_15 : decode cX3_trace 15 = .ok (.aload_n 0, 1) := by decide +kernel
theorem dX3_trace_16 : decode cX3_trace 16 = .ok (.getfield 27, 3) := by decide +kernel
theorem dX3_trace_19 : decode cX3_trace 19 = .ok (.getfield 151, 3) := by decide +kernel
theorem dX3_trace_22 : decode cX3_trace 22 = .ok (.iload_n 1, 1) := by decide +kernel
theorem dX3_trace_23 : decode cX3_trace 23 = .ok (.iaload, 1) := by decide +kernel
theorem dX3_trace_24 : decode cX3_trace 24 = .ok (.goto 4, 3) := by decide +kernel
theorem dX3_trace_27 : decode cX3_trace 27 = .ok (.iconst 0, 1) := by decide +kernel
theorem dX3_trace_28 : decode cX3_trace 28 = .ok (.ireturn, 1) := by decide +kernel
theorem dX3_register_0 : decode cX3_register 0 = .ok (.iload_n 1, 1) := by decide +kernel
theorem dX3_register_1 : decode cX3_register 1 = .ok (.ifCond .lt 21, 3) := by decide +kernel
theorem dX3_register_4 : decode cX3_register 4 = .ok (.iload_n 1, 1) := by decide +kernel
theorem dX3_register_5 : decode cX3_register 5 = .ok (.bipush 8, 2) := by decide +kernel
theorem dX3_register_7 : decode cX3_register 7 = .ok (.if_icmp .ge 15, 3) := by decide +kernel
theorem dX3_register_10 : decode cX3_register 10 = .ok (.aload_n 0, 1) := by decide +kernel
theorem dX3_register_11 : decode cX3_register 11 = .ok (.getfield 27, 3) := by decide +kernel
theorem dX3_register_14 : decode cX3_register 14 = .ok (.getfield 154, 3) := by decide +kernel
theorem dX3_register_17 : decode cX3_register 17 = .ok (.iload_n 1, 1) := by decide +kernel
theorem dX3_register_18 : decode cX3_register 18 = .ok (.iaload, 1) := by decide +kernel
theorem dX3_register_19 : decode cX3_register 19 = .ok (.goto 4, 3) := by decide +kernel
theorem dX3_register_22 : decode cX3_register 22 = .ok (.iconst 0, 1) := by decide +kernel
theorem dX3_register_23 : decode cX3_register 23 = .ok (.ireturn, 1) := by decide +kernel
set_option maxRecDepth 20000 in
theorem ggX3_save_X2_copyFrom : GoodIn wsX3_save wsX2_copyFrom := goodIn_r _ [7, 8, 9, 10, 11, 12, 13, 14, 15, 16, 17, 18, 19, 20, 21, 22, 23, 24, 25, 26, 27, 28, 29, 30, 31, 32, 33, 34, 35, 36, 37, 38, 39, 44, 45, 46, 47, 48, 49, 50, 51, 52, 53, 54, 55, 56] (by decide +kernel) (by decide +kernel)
set_option maxRecDepth 20000 in
theorem gX3_save_X2_copyFrom_n157 : GoodIn wsX3_save (wsX2_copyFrom) := ggX3_save_X2_copyFrom
theorem dX3_save_0 : decode cX3_save 0 = .ok (.iload_n 1, 1) := by decide +kernel
theorem dX3_save_1 : decode cX3_save 1 = .ok (.ifCond .lt 8, 3) := by decide +kernel
theorem dX3_save_4 : decode cX3_save 4 = .ok (.iload_n 1, 1) := by decide +kernel
theorem dX3_save_5 : decode cX3_save 5 = .ok (.iconst 2, 1) := by decide +kernel
theorem dX3_save_6 : decode cX3_save 6 = .ok (.if_icmp .lt 7, 3) := by decide +kernel
theorem dX3_save_9 : decode cX3_save 9 = .ok (.sipush (-1003), 3) := by decide +kernel
theorem dX3_save_12 : decode cX3_save 12 = .ok (.ireturn, 1) := by decide +kernel
theorem dX3_save_13 : decode cX3_save 13 = .ok (.aload_n 0, 1) := by decide +kernel
theorem dX3_save_14 : decode cX3_save 14 = .ok (.getfield 16, 3) := by decide +kernel
theorem dX3_save_17 : decode cX3_save 17 = .ok (.iload_n 1, 1) := by decide +kernel
theorem dX3_save_18 : decode cX3_save 18 = .ok (.aaload, 1) := by decide +kernel
theorem dX3_save_19 : decode cX3_save 19 = .ok (.aload_n 0, 1) := by decide +kernel
theorem dX3_save_20 : decode cX3_save 20 = .ok (.getfield 10, 3) := by decide +kernel
theorem dX3_save_23 : decode cX3_save 23 = .ok (.invokevirtual 157, 3) := by decide +kernel
theorem dX3_save_26 : decode cX3_save 26 = .ok (.aload_n 0, 1) := by decide +kernel
theorem dX3_save_27 : decode cX3_save 27 = .ok (.getfield 20, 3) := by decide +kernel
theorem dX3_save_30 : decode cX3_save 30 = .ok (.iload_n 1, 1) := by decide +kernel
theorem dX3_save_31 : decode cX3_save 31 = .ok (.iconst 1, 1) := by decide +kernel
theorem dX3_save_32 : decode cX3_save 32 = .ok (.bastore, 1) := by decide +kernel
theorem dX3_save_33 : decode cX3_save 33 = .ok (.iconst 1, 1) := by decide +kernel
theorem dX3_save_34 : decode cX3_save 34 = .ok (.ireturn, 1) := by decide +kernel
set_option maxRecDepth 20000 in
theorem ggX3_restore_X2_copyFrom : GoodIn wsX3_restore wsX2_copyFrom := goodIn_r _ [7, 8, 9, 10, 11, 12, 13, 14, 15, 16, 17, 18, 19, 20, 21, 22, 23, 24, 25, 26, 27, 28, 29, 30, 31, 32, 33, 34, 35, 36, 37, 38, 39, 44, 45, 46, 47, 48, 49, 50, 51, 52, 53, 54, 55, 56] (by decide +kernel) (by decide +kernel)
set_option maxRecDepth 20000 in
theorem gX3_restore_X2_copyFrom_n157 : GoodIn wsX3_restore (wsX2_copyFrom) := ggX3_restore_X2_copyFrom
theorem dX3_restore_0 : decode cX3_restore 0 = .ok (.iload_n 1, 1) := by decide +kernel
theorem dX3_restore_1 : decode cX3_restore 1 = .ok (.ifCond .lt 8, 3) := by decide +kernel
theorem dX3_restore_4 : decode cX3_restore 4 = .ok (.iload_n 1, 1) := by decide +kernel
theorem dX3_restore_5 : decode cX3_restore 5 = .ok (.iconst 2, 1) := by decide +kernel
theorem dX3_restore_6 : decode cX3_restore 6 = .ok (.if_icmp .lt 7, 3) := by decide +kernel
theorem dX3_restore_9 : decode cX3_restore 9 = .ok (.sipush (-1003), 3) := by decide +kernel
theorem dX3_restore_12 : decode cX3_restore 12 = .ok (.ireturn, 1) := by decide +kernel
theorem dX3_restore_13 : decode cX3_restore 13 = .ok (.aload_n 0, 1) := by decide +kernel
theorem dX3_restore_14 : decode cX3_restore 14 = .ok (.getfield 20, 3) := by decide +kernel
theorem dX3_restore_17 : decode cX3_restore 17 = .ok (.iload_n 1, 1) := by decide +kernel
theorem dX3_restore_18 : decode cX3_restore 18 = .ok (.baload, 1) := by decide +kernel
theorem dX3_restore_19 : decode cX3_restore 19 = .ok (.ifCond .ne 7, 3) := by decide +kernel
theorem dX3_restore_22 : decode cX3_restore 22 = .ok (.sipush (-1009), 3) := by decide +kernel
theorem dX3_restore_25 : decode cX3_restore 25 = .ok (.ireturn, 1) := by decide +kernel
theorem dX3_restore_26 : decode cX3_restore 26 = .ok (.aload_n 0, 1) := by decide +kernel
theorem dX3_restore_27 : decode cX3_restore 27 = .ok (.getfield 10, 3) := by decide +kernel
theorem dX3_restore_30 : decode cX3_restore 30 = .ok (.aload_n 0, 1) := by decide +kernel
theorem dX3_restore_31 : decode cX3_restore 31 = .ok (.getfield 16, 3) := by decide +kernel
theorem dX3_restore_34 : decode cX3_restore 34 = .ok (.iload_n 1, 1) := by decide +kernel
theorem dX3_restore_35 : decode cX3_restore 35 = .ok (.aaload, 1) := by decide +kernel
theorem dX3_restore_36 : decode cX3_restore 36 = .ok (.invokevirtual 157, 3) := by decide +kernel
theorem dX3_restore_39 : decode cX3_restore 39 = .ok (.iconst 1, 1) := by decide +kernel
theorem dX3_restore_40 : decode cX3_restore 40 = .ok (.ireturn, 1) := by decide +kernel
theorem dX4_init_0 : decode cX4_init 0 = .ok (.aload_n 0, 1) := by decide +kernel
theorem dX4_init_1 : decode cX4_init 1 = .ok (.invokespecial 1, 3) := by decide +kernel
theorem dX4_init_4 : decode cX4_init 4 = .ok (.aload_n 0, 1) := by decide +kernel
theorem dX4_init_5 : decode cX4_init 5 = .ok (.sipush 670, 3) := by decide +kernel
theorem dX4_init_8 : decode cX4_init 8 = .ok (.newarray .int, 2) := by decide +kernel
theorem dX4_init_10 : decode cX4_init 10 = .ok (.putfield 7, 3) := by decide +kernel
theorem dX4_init_13 : decode cX4_init 13 = .ok (.aload_n 0, 1) := by decide +kernel
theorem dX4_init_14 : decode cX4_init 14 = .ok (.sipush 1340, 3) := by decide +kernel
theorem dX4_init_17 : decode cX4_init 17 = .ok (.newarray .int, 2) := by decide +kernel
theorem dX4_init_19 : decode cX4_init 19 = .ok (.putfield 13, 3) := by decide +kernel
theorem dX4_init_22 : decode cX4_init 22 = .ok (.aload_n 0, 1) := by decide +kernel
theorem dX4_init_23 : decode cX4_init 23 = .ok (.iconst 2, 1) := by decide +kernel
theorem dX4_init_24 : decode cX4_init 24 = .ok (.newarray .boolean, 2) := by decide +kernel
theorem dX4_init_26 : decode cX4_init 26 = .ok (.putfield 16, 3) := by decide +kernel
theorem dX4_init_29 : decode cX4_init 29 = .ok (.aload_n 0, 1) := by decide +kernel
theorem dX4_init_30 : decode cX4_init 30 = .ok (.bipush 8, 2) := by decide +kernel
theorem dX4_init_32 : decode cX4_init 32 = .ok (.newarray .int, 2) := by decide +kernel
theorem dX4_init_34 : decode cX4_init 34 = .ok (.putfield 20, 3) := by decide +kernel
theorem dX4_init_37 : decode cX4_init 37 = .ok (.aload_n 0, 1) := by decide +kernel
theorem dX4_init_38 : decode cX4_init 38 = .ok (.sipush 1000, 3) := by decide +kernel
theorem dX4_init_41 : decode cX4_init 41 = .ok (.newarray .int, 2) := by decide +kernel
theorem dX4_init_43 : decode cX4_init 43 = .ok (.putfield 23, 3) := by decide +kernel
theorem dX4_init_46 : decode cX4_init 46 = .ok (.aload_n 0, 1) := by decide +kernel
theorem dX4_init_47 : decode cX4_init 47 = .ok (.getfield 7, 3) := by decide +kernel
theorem dX4_init_50 : decode cX4_init 50 = .ok (.iconst 1, 1) := by decide +kernel
theorem dX4_init_51 : decode cX4_init 51 = .ok (.iconst 1, 1) := by decide +kernel
theorem dX4_init_52 : decode cX4_init 52 = .ok (.iastore, 1) := by decide +kernel
theorem dX4_init_53 : decode cX4_init 53 = .ok (.return_, 1) := by decide +kernel
theorem dX4_in_0 : decode cX4_in 0 = .ok (.iload_n 0, 1) := by decide +kernel
theorem dX4_in_1 : decode cX4_in 1 = .ok (.iload_n 1, 1) := by decide +kernel
theorem dX4_in_2 : decode cX4_in 2 = .ok (.if_icmp .lt 12, 3) := by decide +kernel
theorem dX4_in_5 : decode cX4_in 5 = .ok (.iload_n 0, 1) := by decide +kernel
theorem dX4_in_6 : decode cX4_in 6 = .ok (.iload_n 2, 1) := by decide +kernel
theorem dX4_in_7 : decode cX4_in 7 = .ok (.if_icmp .gt 7, 3) := by decide +kernel
theorem dX4_in_10 : decode cX4_in 10 = .ok (.iconst 1, 1) := by decide +kernel
theorem dX4_in_11 : decode cX4_in 11 = .ok (.goto 4, 3) := by decide +kernel
theorem dX4_in_14 : decode cX4_in 14 = .ok (.iconst 0, 1) := by decide +kernel
theorem dX4_in_15 : decode cX4_in 15 = .ok (.ireturn, 1) := by decide +kernel
set_option maxRecDepth 20000 in
theorem ggX4_isBlock_X4_in : GoodIn wsX4_isBlock wsX4_in := goodIn_r _ [5] (by decide +kernel) (by decide +kernel)
set_option maxRecDepth 20000 in
theorem gX4_isBlock_X4_in : GoodIn wsX4_isBlock (va_wsS RX4 26 yX4_in wsX4_in) := goodIn_app (goodIn_of _ (by decide +kernel)) ggX4_isBlock_X4_in
theorem dX4_isBlock_0 : decode cX4_isBlock 0 = .ok (.iload_n 1, 1) := by decide +kernel
theorem dX4_isBlock_1 : decode cX4_isBlock 1 = .ok (.iconst 0, 1) := by decide +kernel
theorem dX4_isBlock_2 : decode cX4_isBlock 2 = .ok (.aload_n 0, 1) := by decide +kernel
theorem dX4_isBlock_3 : decode cX4_isBlock 3 = .ok (.getfield 7, 3) := by decide +kernel
theorem dX4_isBlock_6 : decode cX4_isBlock 6 = .ok (.iconst 0, 1) := by decide +kernel
theorem dX4_isBlock_7 : decode cX4_isBlock 7 = .ok (.iaload, 1) := by decide +kernel
theorem dX4_isBlock_8 : decode cX4_isBlock 8 = .ok (.iconst 1, 1) := by decide +kernel
theorem dX4_isBlock_9 : decode cX4_isBlock 9 = .ok (.isub, 1) := by decide +kernel
theorem dX4_isBlock_10 : decode cX4_isBlock 10 = .ok (.invokestatic 26, 3) := by decide +kernel
theorem dX4_isBlock_13 : decode cX4_isBlock 13 = .ok (.ireturn, 1) := by decide +kernel
theorem dX4_base_0 : decode cX4_base 0 = .ok (.bipush 10, 2) := by decide +kernel
theorem dX4_base_2 : decode cX4_base 2 = .ok (.bipush 55, 2) := by decide +kernel
theorem dX4_base_4 : decode cX4_base 4 = .ok (.iload_n 0, 1) := by decide +kernel
theorem dX4_base_5 : decode cX4_base 5 = .ok (.imul, 1) := by decide +kernel
theorem dX4_base_6 : decode cX4_base 6 = .ok (.iadd, 1) := by decide +kernel
theorem dX4_base_7 : decode cX4_base 7 = .ok (.ireturn, 1) := by decide +kernel
set_option maxRecDepth 20000 in
theorem ggX4_many_X4_base : GoodIn wsX4_many wsX4_base := goodIn_r _ [5] (by decide +kernel) (by decide +kernel)
set_option maxRecDepth 20000 in
theorem gX4_many_X4_base : GoodIn wsX4_many (va_wsS RX4 30 yX4_base wsX4_base) := goodIn_app (goodIn_of _ (by decide +kernel)) ggX4_many_X4_base
theorem dX4_many_0 : decode cX4_many 0 = .ok (.aload_n 0, 1) := by decide +kernel
theorem dX4_many_1 : decode cX4_many 1 = .ok (.getfield 7, 3) := by decide +kernel
theorem dX4_many_4 : decode cX4_many 4 = .ok (.iload_n 1, 1) := by decide +kernel
theorem dX4_many_5 : decode cX4_many 5 = .ok (.invokestatic 30, 3) := by decide +kernel
theorem dX4_many_8 : decode cX4_many 8 = .ok (.iaload, 1) := by decide +kernel
theorem dX4_many_9 : decode cX4_many 9 = .ok (.ireturn, 1) := by decide +kernel
set_option maxRecDepth 20000 in
theorem ggX4_at_X4_base : GoodIn wsX4_at wsX4_base := goodIn_r _ [4] (by decide +kernel) (by decide +kernel)
set_option maxRecDepth 20000 in
theorem gX4_at_X4_base : GoodIn wsX4_at (va_wsS RX4 30 yX4_base wsX4_base) := goodIn_app (goodIn_of _ (by decide +kernel)) ggX4_at_X4_base
theorem dX4_at_0 : decode cX4_at 0 = .ok (.iload_n 0, 1) := by decide +kernel
theorem dX4_at_1 : decode cX4_at 1 = .ok (.invokestatic 30, 3) := by decide +kernel
theorem dX4_at_4 : decode cX4_at 4 = .ok (.iconst 1, 1) := by decide +kernel
theorem dX4_at_5 : decode cX4_at 5 = .ok (.iadd, 1) := by decide +kernel
theorem dX4_at_6 : decode cX4_at 6 = .ok (.iconst 5, 1) := by decide +kernel
theorem dX4_at_7 : decode cX4_at 7 = .ok (.iload_n 1, 1) := by decide +kernel
theorem dX4_at_8 : decode cX4_at 8 = .ok (.imul, 1) := by decide +kernel
theorem dX4_at_9 : decode cX4_at 9 = .ok (.iadd, 1) := by decide +kernel
theorem dX4_at_10 : decode cX4_at 10 = .ok (.ireturn, 1) := by decide +kernel
set_option maxRecDepth 20000 in
theorem ggX4_end_X4_base : GoodIn wsX4_end wsX4_base := goodIn_r _ [4] (by decide +kernel) (by decide +kernel)
set_option maxRecDepth 20000 in
theorem gX4_end_X4_base : GoodIn wsX4_end (va_wsS RX4 30 yX4_base wsX4_base) := goodIn_app (goodIn_of _ (by decide +kernel)) ggX4_end_X4_base
theorem dX4_end_0 : decode cX4_end 0 = .ok (.iload_n 0, 1) := by decide +kernel
theorem dX4_end_1 : decode cX4_end 1 = .ok (.invokestatic 30, 3) := by decide +kernel
theorem dX4_end_4 : decode cX4_end 4 = .ok (.bipush 51, 2) := by decide +kernel
theorem dX4_end_6 : decode cX4_end 6 = .ok (.iadd, 1) := by decide +kernel
theorem dX4_end_7 : decode cX4_end 7 = .ok (.ireturn, 1) := by decide +kernel
set_option maxRecDepth 20000 in
theorem ggX4_terminate_X4_end : GoodIn wsX4_terminate wsX4_end := goodIn_r _ [5, 6, 7, 4, 8] (by decide +kernel) (by decide +kernel)
set_option maxRecDepth 20000 in
theorem gX4_terminate_X4_end : GoodIn wsX4_terminate (va_wsS RX4 34 yX4_end wsX4_end) := goodIn_app (goodIn_of _ (by decide +kernel)) ggX4_terminate_X4_end
theorem dX4_terminate_0 : decode cX4_terminate 0 = .ok (.aload_n 0, 1) := by decide +kernel
theorem dX4_terminate_1 : decode cX4_terminate 1 = .ok (.getfield 7, 3) := by decide +kernel
theorem dX4_terminate_4 : decode cX4_terminate 4 = .ok (.iload_n 1, 1) := by decide +kernel
theorem dX4_terminate_5 : decode cX4_terminate 5 = .ok (.invokestatic 34, 3) := by decide +kernel
theorem dX4_terminate_8 : decode cX4_terminate 8 = .ok (.iload_n 2, 1) := by decide +kernel
theorem dX4_terminate_9 : decode cX4_terminate 9 = .ok (.iastore, 1) := by decide +kernel
theorem dX4_terminate_10 : decode cX4_terminate 10 = .ok (.aload_n 0, 1) := by decide +kernel
theorem dX4_terminate_11 : decode cX4_terminate 11 = .ok (.getfield 7, 3) := by decide +kernel
theorem dX4_terminate_14 : decode cX4_terminate 14 = .ok (.iload_n 1, 1) := by decide +kernel
theorem dX4_terminate_15 : decode cX4_terminate 15 = .ok (.invokestatic 34, 3) := by decide +kernel
theorem dX4_terminate_18 : decode cX4_terminate 18 = .ok (.iconst 1, 1) := by decide +kernel
theorem dX4_terminate_19 : decode cX4_terminate 19 = .ok (.iadd, 1) := by decide +kernel
theorem dX4_terminate_20 : decode cX4_terminate 20 = .ok (.iload_n 3, 1) := by decide +kernel
theorem dX4_terminate_21 : decode cX4_terminate 21 = .ok (.iastore, 1) := by decide +kernel
theorem dX4_terminate_22 : decode cX4_terminate 22 = .ok (.aload_n 0, 1) := by decide +kernel
theorem dX4_terminate_23 : decode cX4_terminate 23 = .ok (.getfield 7, 3) := by decide +kernel
theorem dX4_terminate_26 : decode cX4_terminate 26 = .ok (.iload_n 1, 1) := by decide +kernel
theorem dX4_terminate_27 : decode cX4_terminate 27 = .ok (.invokestatic 34, 3) := by decide +kernel
theorem dX4_terminate_30 : decode cX4_terminate 30 = .ok (.iconst 2, 1) := by decide +kernel
theorem dX4_terminate_31 : decode cX4_terminate 31 = .ok (.iadd, 1) := by decide +kernel
theorem dX4_terminate_32 : decode cX4_terminate 32 = .ok (.iload 4, 2) := by decide +kernel
theorem dX4_terminate_34 : decode cX4_terminate 34 = .ok (.iastore, 1) := by decide +kernel
theorem dX4_terminate_35 : decode cX4_terminate 35 = .ok (.aload_n 0, 1) := by decide +kernel
theorem dX4_terminate_36 : decode cX4_terminate 36 = .ok (.getfield 7, 3) := by decide +kernel
theorem dX4_terminate_39 : decode cX4_terminate 39 = .ok (.iload_n 1, 1) := by decide +kernel
theorem dX4_terminate_40 : decode cX4_terminate 40 = .ok (.invokestatic 34, 3) := by decide +kernel
theorem dX4_terminate_43 : decode cX4_terminate 43 = .ok (.iconst 3, 1) := by decide +kernel
theorem dX4_terminate_44 : decode cX4_terminate 44 = .ok (.iadd, 1) := by decide +kernel
theorem dX4_terminate_45 : decode cX4_terminate 45 = .ok (.iload 5, 2) := by decide +kernel
theorem dX4_terminate_47 : decode cX4_terminate 47 = .ok (.iastore, 1) := by decide +kernel
theorem dX4_terminate_48 : decode cX4_terminate 48 = .ok (.return_, 1) := by decide +kernel
set_option maxRecDepth 20000 in
theorem ggX4_newBlock_X4_base : GoodIn wsX4_newBlock wsX4_base := goodIn_r _ [5] (by decide +kernel) (by decide +kernel)
set_option maxRecDepth 20000 in
theorem gX4_newBlock_X4_base : GoodIn wsX4_newBlock (va_wsS RX4 30 yX4_base wsX4_base) := goodIn_app (goodIn_of _ (by decide +kernel)) ggX4_newBlock_X4_base
set_option maxRecDepth 20000 in
theorem ggX4_newBlock_X4_terminate : GoodIn wsX4_newBlock wsX4_terminate := goodIn_r _ [9, 1, 10, 11, 4, 12, 2, 3, 5, 13, 14, 15, 16, 17, 18, 19] (by decide +kernel) (by decide +kernel)
set_option maxRecDepth 20000 in
theorem gX4_newBlock_X4_terminate : GoodIn wsX4_newBlock (wsV RX4 37 RX4 yX4_terminate wsX4_terminate) := goodIn_app (goodIn_of _ (by decide +kernel)) ggX4_newBlock_X4_terminate
theorem dX4_newBlock_0 : decode cX4_newBlock 0 = .ok (.aload_n 0, 1) := by decide +kernel
theorem dX4_newBlock_1 : decode cX4_newBlock 1 = .ok (.getfield 7, 3) := by decide +kernel
theorem dX4_newBlock_4 : decode cX4_newBlock 4 = .ok (.iconst 0, 1) := by decide +kernel
theorem dX4_newBlock_5 : decode cX4_newBlock 5 = .ok (.iaload, 1) := by decide +kernel
theorem dX4_newBlock_6 : decode cX4_newBlock 6 = .ok (.istore_n 1, 1) := by decide +kernel
theorem dX4_newBlock_7 : decode cX4_newBlock 7 = .ok (.iconst 0, 1) := by decide +kernel
theorem dX4_newBlock_8 : decode cX4_newBlock 8 = .ok (.istore_n 2, 1) := by decide +kernel
theorem dX4_newBlock_9 : decode cX4_newBlock 9 = .ok (.iload_n 2, 1) := by decide +kernel
theorem dX4_newBlock_10 : decode cX4_newBlock 10 = .ok (.bipush 55, 2) := by decide +kernel
theorem dX4_newBlock_12 : decode cX4_newBlock 12 = .ok (.if_icmp .ge 21, 3) := by decide +kernel
theorem dX4_newBlock_15 : decode cX4_newBlock 15 = .ok (.aload_n 0, 1) := by decide +kernel
theorem dX4_newBlock_16 : decode cX4_newBlock 16 = .ok (.getfield 7, 3) := by decide +kernel
theorem dX4_newBlock_19 : decode cX4_newBlock 19 = .ok (.iload_n 1, 1) := by decide +kernel
theorem dX4_newBlock_20 : decode cX4_newBlock 20 = .ok (.invokestatic 30, 3) := by decide +kernel
theorem dX4_newBlock_23 : decode cX4_newBlock 23 = .ok (.iload_n 2, 1) := by decide +kernel
theorem dX4_newBlock_24 : decode cX4_newBlock 24 = .ok (.iadd, 1) := by decide +kernel
theorem dX4_newBlock_25 : decode cX4_newBlock 25 = .ok (.iconst 0, 1) := by decide +kernel
theorem dX4_newBlock_26 : decode cX4_newBlock 26 = .ok (.iastore, 1) := by decide +kernel
theorem dX4_newBlock_27 : decode cX4_newBlock 27 = .ok (.iinc 2 1, 3) := by decide +kernel
theorem dX4_newBlock_30 : decode cX4_newBlock 30 = .ok (.goto (-21), 3) := by decide +kernel
theorem dX4_newBlock_33 : decode cX4_newBlock 33 = .ok (.aload_n 0, 1) := by decide +kernel
theorem dX4_newBlock_34 : decode cX4_newBlock 34 = .ok (.iload_n 1, 1) := by decide +kernel
theorem dX4_newBlock_35 : decode cX4_newBlock 35 = .ok (.iconst 2, 1) := by decide +kernel
theorem dX4_newBlock_36 : decode cX4_newBlock 36 = .ok (.iconst 0, 1) := by decide +kernel
theorem dX4_newBlock_37 : decode cX4_newBlock 37 = .ok (.iconst 0, 1) := by decide +kernel
theorem dX4_newBlock_38 : decode cX4_newBlock 38 = .ok (.iconst 0, 1) := by decide +kernel
theorem dX4_newBlock_39 : decode cX4_newBlock 39 = .ok (.invokevirtual 37, 3) := by decide +kernel
theorem dX4_newBlock_42 : decode cX4_newBlock 42 = .ok (.aload_n 0, 1) := by decide +kernel
theorem dX4_newBlock_43 : decode cX4_newBlock 43 = .ok (.getfield 7, 3) := by decide +kernel
theorem dX4_newBlock_46 : decode cX4_newBlock 46 = .ok (.iconst 0, 1) := by decide +kernel
theorem dX4_newBlock_47 : decode cX4_newBlock 47 = .ok (.dup2, 1) := by decide +kernel
theorem dX4_newBlock_48 : decode cX4_newBlock 48 = .ok (.iaload, 1) := by decide +kernel
theorem dX4_newBlock_49 : decode cX4_newBlock 49 = .ok (.iconst 1, 1) := by decide +kernel
theorem dX4_newBlock_50 : decode cX4_newBlock 50 = .ok (.iadd, 1) := by decide +kernel
theorem dX4_newBlock_51 : decode cX4_newBlock 51 = .ok (.iastore, 1) := by decide +kernel
theorem dX4_newBlock_52 : decode cX4_newBlock 52 = .ok (.iload_n 1, 1) := by decide +kernel
theorem dX4_newBlock_53 : decode cX4_newBlock 53 = .ok (.ireturn, 1) := by decide +kernel
set_option maxRecDepth 20000 in
theorem ggX4_addBlock_X4_newBlock : GoodIn wsX4_addBlock wsX4_newBlock := goodIn_r _ [6, 1, 7, 8, 5, 9, 10, 11, 12, 13, 14, 15, 16, 17, 18, 19, 20, 21, 22, 23] (by decide +kernel) (by decide +kernel)
set_option maxRecDepth 20000 in
theorem gX4_addBlock_X4_newBlock : GoodIn wsX4_addBlock (wsV RX4 41 RX4 yX4_newBlock wsX4_newBlock) := goodIn_app (goodIn_of _ (by decide +kernel)) ggX4_addBlock_X4_newBlock
theorem dX4_addBlock_0 : decode cX4_addBlock 0 = .ok (.aload_n 0, 1) := by decide +kernel
theorem dX4_addBlock_1 : decode cX4_addBlock 1 = .ok (.getfield 7, 3) := by decide +kernel
theorem dX4_addBlock_4 : decode cX4_addBlock 4 = .ok (.iconst 0, 1) := by decide +kernel
theorem dX4_addBlock_5 : decode cX4_addBlock 5 = .ok (.iaload, 1) := by decide +kernel
theorem dX4_addBlock_6 : decode cX4_addBlock 6 = .ok (.bipush 12, 2) := by decide +kernel
theorem dX4_addBlock_8 : decode cX4_addBlock 8 = .ok (.if_icmp .ne 9, 3) := by decide +kernel
theorem dX4_addBlock_11 : decode cX4_addBlock 11 = .ok (.sipush (-1004), 3) := by decide +kernel
theorem dX4_addBlock_14 : decode cX4_addBlock 14 = .ok (.goto 7, 3) := by decide +kernel
theorem dX4_addBlock_17 : decode cX4_addBlock 17 = .ok (.aload_n 0, 1) := by decide +kernel
theorem dX4_addBlock_18 : decode cX4_addBlock 18 = .ok (.invokevirtual 41, 3) := by decide +kernel
theorem dX4_addBlock_21 : decode cX4_addBlock 21 = .ok (.ireturn, 1) := by decide +kernel
set_option maxRecDepth 20000 in
theorem ggX4_isRegister_X4_in : GoodIn wsX4_isRegister wsX4_in := goodIn_r _ [4] (by decide +kernel) (by decide +kernel)
set_option maxRecDepth 20000 in
theorem gX4_isRegister_X4_in : GoodIn wsX4_isRegister (va_wsS RX4 26 yX4_in wsX4_in) := goodIn_app (goodIn_of _ (by decide +kernel)) ggX4_isRegister_X4_in
theorem dX4_isRegister_0 : decode cX4_isRegister 0 = .ok (.iload_n 0, 1) := by decide +kernel
theorem dX4_isRegister_1 : decode cX4_isRegister 1 = .ok (.iconst 0, 1) := by decide +kernel
theorem dX4_isRegister_2 : decode cX4_isRegister 2 = .ok (.bipush 6, 2) := by decide +kernel
theorem dX4_isRegister_4 : decode cX4_isRegister 4 = .ok (.invokestatic 26, 3) := by decide +kernel
theorem dX4_isRegister_7 : decode cX4_isRegister 7 = .ok (.ireturn, 1) := by decide +kernel
set_option maxRecDepth 20000 in
theorem ggX4_fits_X4_isRegister : GoodIn wsX4_fits wsX4_isRegister := goodIn_r _ [4, 5, 6, 3, 7] (by decide +kernel) (by decide +kernel)
set_option maxRecDepth 20000 in
theorem gX4_fits_X4_isRegister : GoodIn wsX4_fits (va_wsS RX4 45 yX4_isRegister wsX4_isRegister) := goodIn_app (goodIn_of _ (by decide +kernel)) ggX4_fits_X4_isRegister
set_option maxRecDepth 20000 in
theorem ggX4_fits_X4_in : GoodIn wsX4_fits wsX4_in := goodIn_r _ [7] (by decide +kernel) (by decide +kernel)
set_option maxRecDepth 20000 in
theorem gX4_fits_X4_in : GoodIn wsX4_fits (va_wsS RX4 26 yX4_in wsX4_in) := goodIn_app (goodIn_of _ (by decide +kernel)) ggX4_fits_X4_in
theorem dX4_fits_0 : decode cX4_fits 0 = .ok (.iload_n 0, 1) := by decide +kernel
theorem dX4_fits_1 : decode cX4_fits 1 = .ok (.tableswitch 145 0 6 #[43, 73, 97, 97, 97, 97, 124], 43) := by decide +kernel
theorem dX4_fits_44 : decode cX4_fits 44 = .ok (.iload_n 1, 1) := by decide +kernel
theorem dX4_fits_45 : decode cX4_fits 45 = .ok (.invokestatic 45, 3) := by decide +kernel
theorem dX4_fits_48 : decode cX4_fits 48 = .ok (.ifCond .eq 24, 3) := by decide +kernel
theorem dX4_fits_51 : decode cX4_fits 51 = .ok (.iload_n 2, 1) := by decide +kernel
theorem dX4_fits_52 : decode cX4_fits 52 = .ok (.sipush (-999), 3) := by decide +kernel
theorem dX4_fits_55 : decode cX4_fits 55 = .ok (.sipush 999, 3) := by decide +kernel
theorem dX4_fits_58 : decode cX4_fits 58 = .ok (.invokestatic 26, 3) := by decide +kernel
theorem dX4_fits_61 : decode cX4_fits 61 = .ok (.ifCond .eq 11, 3) := by decide +kernel
theorem dX4_fits_64 : decode cX4_fits 64 = .ok (.iload_n 3, 1) := by decide +kernel
theorem dX4_fits_65 : decode cX4_fits 65 = .ok (.ifCond .ne 7, 3) := by decide +kernel
theorem dX4_fits_68 : decode cX4_fits 68 = .ok (.iconst 1, 1) := by decide +kernel
theorem dX4_fits_69 : decode cX4_fits 69 = .ok (.goto 4, 3) := by decide +kernel
theorem dX4_fits_72 : decode cX4_fits 72 = .ok (.iconst 0, 1) := by decide +kernel
theorem dX4_fits_73 : decode cX4_fits 73 = .ok (.ireturn, 1) := by decide +kernel
theorem dX4_fits_74 : decode cX4_fits 74 = .ok (.iload_n 1, 1) := by decide +kernel
theorem dX4_fits_75 : decode cX4_fits 75 = .ok (.invokestatic 45, 3) := by decide +kernel
theorem dX4_fits_78 : decode cX4_fits 78 = .ok (.ifCond .eq 18, 3) := by decide +kernel
theorem dX4_fits_81 : decode cX4_fits 81 = .ok (.iload_n 2, 1) := by decide +kernel
theorem dX4_fits_82 : decode cX4_fits 82 = .ok (.invokestatic 45, 3) := by decide +kernel
theorem dX4_fits_85 : decode cX4_fits 85 = .ok (.ifCond .eq 11, 3) := by decide +kernel
theorem dX4_fits_88 : decode cX4_fits 88 = .ok (.iload_n 3, 1) := by decide +kernel
theorem dX4_fits_89 : decode cX4_fits 89 = .ok (.ifCond .ne 7, 3) := by decide +kernel
theorem dX4_fits_92 : decode cX4_fits 92 = .ok (.iconst 1, 1) := by decide +kernel
theorem dX4_fits_93 : decode cX4_fits 93 = .ok (.goto 4, 3) := by decide +kernel
theorem dX4_fits_96 : decode cX4_fits 96 = .ok (.iconst 0, 1) := by decide +kernel
theorem dX4_fits_97 : decode cX4_fits 97 = .ok (.ireturn, 1) := by decide +kernel
theorem dX4_fits_98 : decode cX4_fits 98 = .ok (.iload_n 1, 1) := by decide +kernel
theorem dX4_fits_99 : decode cX4_fits 99 = .ok (.invokestatic 45, 3) := by decide +kernel
theorem dX4_fits_102 : decode cX4_fits 102 = .ok (.ifCond .eq 21, 3) := by decide +kernel
theorem dX4_fits_105 : decode cX4_fits 105 = .ok (.iload_n 2, 1) := by decide +kernel
theorem dX4_fits_106 : decode cX4_fits 106 = .ok (.invokestatic 45, 3) := by decide +kernel
theorem dX4_fits_109 : decode cX4_fits 109 = .ok (.ifCond .eq 14, 3) := by decide +kernel
theorem dX4_fits_112 : decode cX4_fits 112 = .ok (.iload_n 3, 1) := by decide +kernel
theorem dX4_fits_113 : decode cX4_fits 113 = .ok (.invokestatic 45, 3) := by decide +kernel
theorem dX4_fits_116 : decode cX4_fits 116 = .ok (.ifCond .eq 7, 3) := by decide +kernel
theorem dX4_fits_119 : decode cX4_fits 119 = .ok (.iconst 1, 1) := by decide +kernel
theorem dX4_fits_120 : decode cX4_fits 120 = .ok (.goto 4, 3) := by decide +kernel
theorem dX4_fits_123 : decode cX4_fits 123 = .ok (.iconst 0, 1) := by decide +kernel
theorem dX4_fits_124 : decode cX4_fits 124 = .ok (.ireturn, 1) := by decide +kernel
theorem dX4_fits_125 : decode cX4_fits 125 = .ok (.iload_n 1, 1) := by decide +kernel
theorem dX4_fits_126 : decode cX4_fits 126 = .ok (.ifCond .ne 18, 3) := by decide +kernel
theorem dX4_fits_129 : decode cX4_fits 129 = .ok (.iload_n 2, 1) := by decide +kernel
theorem dX4_fits_130 : decode cX4_fits 130 = .ok (.invokestatic 45, 3) := by decide +kernel
theorem dX4_fits_133 : decode cX4_fits 133 = .ok (.ifCond .eq 11, 3) := by decide +kernel
theorem dX4_fits_136 : decode cX4_fits 136 = .ok (.iload_n 3, 1) := by decide +kernel
theorem dX4_fits_137 : decode cX4_fits 137 = .ok (.ifCond .ne 7, 3) := by decide +kernel
theorem dX4_fits_140 : decode cX4_fits 140 = .ok (.iconst 1, 1) := by decide +kernel
theorem dX4_fits_141 : decode cX4_fits 141 = .ok (.goto 4, 3) := by decide +kernel
theorem dX4_fits_144 : decode cX4_fits 144 = .ok (.iconst 0, 1) := by decide +kernel
theorem dX4_fits_145 : decode cX4_fits 145 = .ok (.ireturn, 1) := by decide +kernel
theorem dX4_fits_146 : decode cX4_fits 146 = .ok (.iconst 0, 1) := by decide +kernel
theorem dX4_fits_147 : decode cX4_fits 147 = .ok (.ireturn, 1) := by decide +kernel
set_option maxRecDepth 20000 in
theorem ggX4_append_X4_many : GoodIn wsX4_append wsX4_many := goodIn_r _ [6, 1, 7, 8, 5, 9, 13, 14, 15, 16, 17, 18, 19] (by decide +kernel) (by decide +kernel)
set_option maxRecDepth 20000 in
theorem gX4_append_X4_many : GoodIn wsX4_append (wsV RX4 49 RX4 yX4_many wsX4_many) := goodIn_app (goodIn_of _ (by decide +kernel)) ggX4_append_X4_many
set_option maxRecDepth 20000 in
theorem ggX4_append_X4_at : GoodIn wsX4_append wsX4_at := goodIn_r _ [12, 7, 8, 5, 9] (by decide +kernel) (by decide +kernel)
set_option maxRecDepth 20000 in
theorem gX4_append_X4_at : GoodIn wsX4_append (va_wsS RX4 52 yX4_at wsX4_at) := goodIn_app (goodIn_of _ (by decide +kernel)) ggX4_append_X4_at
set_option maxRecDepth 20000 in
theorem ggX4_append_X4_base : GoodIn wsX4_append wsX4_base := goodIn_r _ [9] (by decide +kernel) (by decide +kernel)
set_option maxRecDepth 20000 in
theorem gX4_append_X4_base : GoodIn wsX4_append (va_wsS RX4 30 yX4_base wsX4_base) := goodIn_app (goodIn_of _ (by decide +kernel)) ggX4_append_X4_base
theorem dX4_append_0 : decode cX4_append 0 = .ok (.iload_n 1, 1) := by decide +kernel
theorem dX4_append_1 : decode cX4_append 1 = .ok (.aload_n 0, 1) := by decide +kernel
theorem dX4_append_2 : decode cX4_append 2 = .ok (.iload_n 1, 1) := by decide +kernel
theorem dX4_append_3 : decode cX4_append 3 = .ok (.invokevirtual 49, 3) := by decide +kernel
theorem dX4_append_6 : decode cX4_append 6 = .ok (.invokestatic 52, 3) := by decide +kernel
theorem dX4_append_9 : decode cX4_append 9 = .ok (.istore 7, 2) := by decide +kernel
theorem dX4_append_11 : decode cX4_append 11 = .ok (.aload_n 0, 1) := by decide +kernel
theorem dX4_append_12 : decode cX4_append 12 = .ok (.getfield 7, 3) := by decide +kernel
theorem dX4_append_15 : decode cX4_append 15 = .ok (.iload 7, 2) := by decide +kernel
theorem dX4_append_17 : decode cX4_append 17 = .ok (.iload_n 2, 1) := by decide +kernel
theorem dX4_append_18 : decode cX4_append 18 = .ok (.iastore, 1) := by decide +kernel
theorem dX4_append_19 : decode cX4_append 19 = .ok (.aload_n 0, 1) := by decide +kernel
theorem dX4_append_20 : decode cX4_append 20 = .ok (.getfield 7, 3) := by decide +kernel
theorem dX4_append_23 : decode cX4_append 23 = .ok (.iload 7, 2) := by decide +kernel
theorem dX4_append_25 : decode cX4_append 25 = .ok (.iconst 1, 1) := by decide +kernel
theorem dX4_append_26 : decode cX4_append 26 = .ok (.iadd, 1) := by decide +kernel
theorem dX4_append_27 : decode cX4_append 27 = .ok (.iload_n 3, 1) := by decide +kernel
theorem dX4_append_28 : decode cX4_append 28 = .ok (.iastore, 1) := by decide +kernel
theorem dX4_append_29 : decode cX4_append 29 = .ok (.aload_n 0, 1) := by decide +kernel
theorem dX4_append_30 : decode cX4_append 30 = .ok (.getfield 7, 3) := by decide +kernel
theorem dX4_append_33 : decode cX4_append 33 = .ok (.iload 7, 2) := by decide +kernel
theorem dX4_append_35 : decode cX4_append 35 = .ok (.iconst 2, 1) := by decide +kernel
theorem dX4_append_36 : decode cX4_append 36 = .ok (.iadd, 1) := by decide +kernel
theorem dX4_append_37 : decode cX4_append 37 = .ok (.iload 4, 2) := by decide +kernel
theorem dX4_append_39 : decode cX4_append 39 = .ok (.iastore, 1) := by decide +kernel
theorem dX4_append_40 : decode cX4_append 40 = .ok (.aload_n 0, 1) := by decide +kernel
theorem dX4_append_41 : decode cX4_append 41 = .ok (.getfield 7, 3) := by decide +kernel
theorem dX4_append_44 : decode cX4_append 44 = .ok (.iload 7, 2) := by decide +kernel
theorem dX4_append_46 : decode cX4_append 46 = .ok (.iconst 3, 1) := by decide +kernel
theorem dX4_append_47 : decode cX4_append 47 = .ok (.iadd, 1) := by decide +kernel
theorem dX4_append_48 : decode cX4_append 48 = .ok (.iload 5, 2) := by decide +kernel
theorem dX4_append_50 : decode cX4_append 50 = .ok (.iastore, 1) := by decide +kernel
theorem dX4_append_51 : decode cX4_append 51 = .ok (.aload_n 0, 1) := by decide +kernel
theorem dX4_append_52 : decode cX4_append 52 = .ok (.getfield 7, 3) := by decide +kernel
theorem dX4_append_55 : decode cX4_append 55 = .ok (.iload 7, 2) := by decide +kernel
theorem dX4_append_57 : decode cX4_append 57 = .ok (.iconst 4, 1) := by decide +kernel
theorem dX4_append_58 : decode cX4_append 58 = .ok (.iadd, 1) := by decide +kernel
theorem dX4_append_59 : decode cX4_append 59 = .ok (.iload 6, 2) := by decide +kernel
theorem dX4_append_61 : decode cX4_append 61 = .ok (.iastore, 1) := by decide +kernel
theorem dX4_append_62 : decode cX4_append 62 = .ok (.aload_n 0, 1) := by decide +kernel
theorem dX4_append_63 : decode cX4_append 63 = .ok (.getfield 7, 3) := by decide +kernel
theorem dX4_append_66 : decode cX4_append 66 = .ok (.iload_n 1, 1) := by decide +kernel
theorem dX4_append_67 : decode cX4_append 67 = .ok (.invokestatic 30, 3) := by decide +kernel
theorem dX4_append_70 : decode cX4_append 70 = .ok (.dup2, 1) := by decide +kernel
theorem dX4_append_71 : decode cX4_append 71 = .ok (.iaload, 1) := by decide +kernel
theorem dX4_append_72 : decode cX4_append 72 = .ok (.iconst 1, 1) := by decide +kernel
theorem dX4_append_73 : decode cX4_append 73 = .ok (.iadd, 1) := by decide +kernel
theorem dX4_append_74 : decode cX4_append 74 = .ok (.iastore, 1) := by decide +kernel
theorem dX4_append_75 : decode cX4_append 75 = .ok (.return_, 1) := by decide +kernel
set_option maxRecDepth 20000 in
theorem ggX4_addInstruction_X4_isBlock : GoodIn wsX4_addInstruction wsX4_isBlock := goodIn_r _ [5, 6, 7, 8, 4, 9, 30, 31, 32, 33, 34, 35, 36] (by decide +kernel) (by decide +kernel)
set_option maxRecDepth 20000 in
theorem gX4_addInstruction_X4_isBlock : GoodIn wsX4_addInstruction (wsV RX4 56 RX4 yX4_isBlock wsX4_isBlock) := goodIn_app (goodIn_of _ (by decide +kernel)) ggX4_addInstruction_X4_isBlock
set_option maxRecDepth 20000 in
theorem ggX4_addInstruction_X4_fits : GoodIn wsX4_addInstruction wsX4_fits := goodIn_r _ [12, 13, 14, 4, 15, 7, 8, 9] (by decide +kernel) (by decide +kernel)
set_option maxRecDepth 20000 in
theorem gX4_addInstruction_X4_fits : GoodIn wsX4_addInstruction (va_wsS RX4 59 yX4_fits wsX4_fits) := goodIn_app (goodIn_of _ (by decide +kernel)) ggX4_addInstruction_X4_fits
set_option maxRecDepth 20000 in
theorem ggX4_addInstruction_X4_in : GoodIn wsX4_addInstruction wsX4_in := goodIn_r _ [9] (by decide +kernel) (by decide +kernel)
set_option maxRecDepth 20000 in
theorem gX4_addInstruction_X4_in : GoodIn wsX4_addInstruction (va_wsS RX4 26 yX4_in wsX4_in) := goodIn_app (goodIn_of _ (by decide +kernel)) ggX4_addInstruction_X4_in
set_option maxRecDepth 20000 in
theorem ggX4_addInstruction_X4_many : GoodIn wsX4_addInstruction wsX4_many := goodIn_r _ [19, 6, 20, 21, 4, 22, 30, 31, 32, 33, 34, 35, 36] (by decide +kernel) (by decide +kernel)
set_option maxRecDepth 20000 in
theorem gX4_addInstruction_X4_many : GoodIn wsX4_addInstruction (wsV RX4 49 RX4 yX4_many wsX4_many) := goodIn_app (goodIn_of _ (by decide +kernel)) ggX4_addInstruction_X4_many
set_option maxRecDepth 20000 in
theorem ggX4_addInstruction_X4_append : GoodIn wsX4_addInstruction wsX4_append := goodIn_r _ [26, 6, 16, 17, 18, 4, 19, 20, 21, 22, 27, 28, 29, 30, 31, 32, 33, 34, 35, 36] (by decide +kernel) (by decide +kernel)
set_option maxRecDepth 20000 in
theorem gX4_addInstruction_X4_append : GoodIn wsX4_addInstruction (wsV RX4 63 RX4 yX4_append wsX4_append) := goodIn_app (goodIn_of _ (by decide +kernel)) ggX4_addInstruction_X4_append
theorem dX4_addInstruction_0 : decode cX4_addInstruction 0 = .ok (.aload_n 0, 1) := by decide +kernel
theorem dX4_addInstruction_1 : decode cX4_addInstruction 1 = .ok (.iload_n 1, 1) := by decide +kernel
theorem dX4_addInstruction_2 : decode cX4_addInstruction 2 = .ok (.invokevirtual 56, 3) := by decide +kernel
theorem dX4_addInstruction_5 : decode cX4_addInstruction 5 = .ok (.ifCond .ne 7, 3) := by decide +kernel
theorem dX4_addInstruction_8 : decode cX4_addInstruction 8 = .ok (.sipush (-1001), 3) := by decide +kernel
theorem dX4_addInstruction_11 : decode cX4_addInstruction 11 = .ok (.ireturn, 1) := by decide +kernel
theorem dX4_addInstruction_12 : decode cX4_addInstruction 12 = .ok (.iload_n 2, 1) := by decide +kernel
theorem dX4_addInstruction_13 : decode cX4_addInstruction 13 = .ok (.iload_n 3, 1) := by decide +kernel
theorem dX4_addInstruction_14 : decode cX4_addInstruction 14 = .ok (.iload 4, 2) := by decide +kernel
theorem dX4_addInstruction_16 : decode cX4_addInstruction 16 = .ok (.iload 5, 2) := by decide +kernel
theorem dX4_addInstruction_18 : decode cX4_addInstruction 18 = .ok (.invokestatic 59, 3) := by decide +kernel
theorem dX4_addInstruction_21 : decode cX4_addInstruction 21 = .ok (.ifCond .eq 14, 3) := by decide +kernel
theorem dX4_addInstruction_24 : decode cX4_addInstruction 24 = .ok (.iload 6, 2) := by decide +kernel
theorem dX4_addInstruction_26 : decode cX4_addInstruction 26 = .ok (.iconst 0, 1) := by decide +kernel
theorem dX4_addInstruction_27 : decode cX4_addInstruction 27 = .ok (.bipush 30, 2) := by decide +kernel
theorem dX4_addInstruction_29 : decode cX4_addInstruction 29 = .ok (.invokestatic 26, 3) := by decide +kernel
theorem dX4_addInstruction_32 : decode cX4_addInstruction 32 = .ok (.ifCond .ne 7, 3) := by decide +kernel
theorem dX4_addInstruction_35 : decode cX4_addInstruction 35 = .ok (.sipush (-1003), 3) := by decide +kernel
theorem dX4_addInstruction_38 : decode cX4_addInstruction 38 = .ok (.ireturn, 1) := by decide +kernel
theorem dX4_addInstruction_39 : decode cX4_addInstruction 39 = .ok (.aload_n 0, 1) := by decide +kernel
theorem dX4_addInstruction_40 : decode cX4_addInstruction 40 = .ok (.iload_n 1, 1) := by decide +kernel
theorem dX4_addInstruction_41 : decode cX4_addInstruction 41 = .ok (.invokevirtual 49, 3) := by decide +kernel
theorem dX4_addInstruction_44 : decode cX4_addInstruction 44 = .ok (.bipush 10, 2) := by decide +kernel
theorem dX4_addInstruction_46 : decode cX4_addInstruction 46 = .ok (.if_icmp .ne 7, 3) := by decide +kernel
theorem dX4_addInstruction_49 : decode cX4_addInstruction 49 = .ok (.sipush (-1004), 3) := by decide +kernel
theorem dX4_addInstruction_52 : decode cX4_addInstruction 52 = .ok (.ireturn, 1) := by decide +kernel
theorem dX4_addInstruction_53 : decode cX4_addInstruction 53 = .ok (.aload_n 0, 1) := by decide +kernel
theorem dX4_addInstruction_54 : decode cX4_addInstruction 54 = .ok (.iload_n 1, 1) := by decide +kernel
theorem dX4_addInstruction_55 : decode cX4_addInstruction 55 = .ok (.iload_n 2, 1) := by decide +kernel
theorem dX4_addInstruction_56 : decode cX4_addInstruction 56 = .ok (.iload_n 3, 1) := by decide +kernel
theorem dX4_addInstruction_57 : decode cX4_addInstruction 57 = .ok (.iload 4, 2) := by decide +kernel
theorem dX4_addInstruction_59 : decode cX4_addInstruction 59 = .ok (.iload 5, 2) := by decide +kernel
theorem dX4_addInstruction_61 : decode cX4_addInstruction 61 = .ok (.iconst 1, 1) := by decide +kernel
theorem dX4_addInstruction_62 : decode cX4_addInstruction 62 = .ok (.iload 6, 2) := by decide +kernel
theorem dX4_addInstruction_64 : decode cX4_addInstruction 64 = .ok (.ishl, 1) := by decide +kernel
theorem dX4_addInstruction_65 : decode cX4_addInstruction 65 = .ok (.invokevirtual 63, 3) := by decide +kernel
theorem dX4_addInstruction_68 : decode cX4_addInstruction 68 = .ok (.aload_n 0, 1) := by decide +kernel
theorem dX4_addInstruction_69 : decode cX4_addInstruction 69 = .ok (.iload_n 1, 1) := by decide +kernel
theorem dX4_addInstruction_70 : decode cX4_addInstruction 70 = .ok (.invokevirtual 49, 3) := by decide +kernel
theorem dX4_addInstruction_73 : decode cX4_addInstruction 73 = .ok (.iconst 1, 1) := by decide +kernel
theorem dX4_addInstruction_74 : decode cX4_addInstruction 74 = .ok (.isub, 1) := by decide +kernel
theorem dX4_addInstruction_75 : decode cX4_addInstruction 75 = .ok (.ireturn, 1) := by decide +kernel
set_option maxRecDepth 20000 in
theorem ggX4_setJump_X4_isBlock : GoodIn wsX4_setJump wsX4_isBlock := goodIn_r _ [6, 1, 7, 8, 5, 9, 20, 21, 22, 23, 24, 25, 26] (by decide +kernel) (by decide +kernel)
set_option maxRecDepth 20000 in
theorem gX4_setJump_X4_isBlock : GoodIn wsX4_setJump (wsV RX4 56 RX4 yX4_isBlock wsX4_isBlock) := goodIn_app (goodIn_of _ (by decide +kernel)) ggX4_setJump_X4_isBlock
set_option maxRecDepth 20000 in
theorem ggX4_setJump_X4_end : GoodIn wsX4_setJump wsX4_end := goodIn_r _ [12, 13, 14, 5, 15] (by decide +kernel) (by decide +kernel)
set_option maxRecDepth 20000 in
theorem gX4_setJump_X4_end : GoodIn wsX4_setJump (va_wsS RX4 34 yX4_end wsX4_end) := goodIn_app (goodIn_of _ (by decide +kernel)) ggX4_setJump_X4_end
set_option maxRecDepth 20000 in
theorem ggX4_setJump_X4_terminate : GoodIn wsX4_setJump wsX4_terminate := goodIn_r _ [19, 1, 10, 11, 5, 12, 13, 14, 15, 20, 21, 22, 23, 24, 25, 26] (by decide +kernel) (by decide +kernel)
set_option maxRecDepth 20000 in
theorem gX4_setJump_X4_terminate : GoodIn wsX4_setJump (wsV RX4 37 RX4 yX4_terminate wsX4_terminate) := goodIn_app (goodIn_of _ (by decide +kernel)) ggX4_setJump_X4_terminate
theorem dX4_setJump_0 : decode cX4_setJump 0 = .ok (.aload_n 0, 1) := by decide +kernel
theorem dX4_setJump_1 : decode cX4_setJump 1 = .ok (.iload_n 1, 1) := by decide +kernel
theorem dX4_setJump_2 : decode cX4_setJump 2 = .ok (.invokevirtual 56, 3) := by decide +kernel
theorem dX4_setJump_5 : decode cX4_setJump 5 = .ok (.ifCond .eq 11, 3) := by decide +kernel
theorem dX4_setJump_8 : decode cX4_setJump 8 = .ok (.aload_n 0, 1) := by decide +kernel
theorem dX4_setJump_9 : decode cX4_setJump 9 = .ok (.iload_n 2, 1) := by decide +kernel
theorem dX4_setJump_10 : decode cX4_setJump 10 = .ok (.invokevirtual 56, 3) := by decide +kernel
theorem dX4_setJump_13 : decode cX4_setJump 13 = .ok (.ifCond .ne 7, 3) := by decide +kernel
theorem dX4_setJump_16 : decode cX4_setJump 16 = .ok (.sipush (-1001), 3) := by decide +kernel
theorem dX4_setJump_19 : decode cX4_setJump 19 = .ok (.ireturn, 1) := by decide +kernel
theorem dX4_setJump_20 : decode cX4_setJump 20 = .ok (.aload_n 0, 1) := by decide +kernel
theorem dX4_setJump_21 : decode cX4_setJump 21 = .ok (.getfield 7, 3) := by decide +kernel
theorem dX4_setJump_24 : decode cX4_setJump 24 = .ok (.iload_n 1, 1) := by decide +kernel
theorem dX4_setJump_25 : decode cX4_setJump 25 = .ok (.invokestatic 34, 3) := by decide +kernel
theorem dX4_setJump_28 : decode cX4_setJump 28 = .ok (.iaload, 1) := by decide +kernel
theorem dX4_setJump_29 : decode cX4_setJump 29 = .ok (.istore_n 3, 1) := by decide +kernel
theorem dX4_setJump_30 : decode cX4_setJump 30 = .ok (.aload_n 0, 1) := by decide +kernel
theorem dX4_setJump_31 : decode cX4_setJump 31 = .ok (.iload_n 1, 1) := by decide +kernel
theorem dX4_setJump_32 : decode cX4_setJump 32 = .ok (.iconst 0, 1) := by decide +kernel
theorem dX4_setJump_33 : decode cX4_setJump 33 = .ok (.iload_n 2, 1) := by decide +kernel
theorem dX4_setJump_34 : decode cX4_setJump 34 = .ok (.iconst 0, 1) := by decide +kernel
theorem dX4_setJump_35 : decode cX4_setJump 35 = .ok (.iconst 0, 1) := by decide +kernel
theorem dX4_setJump_36 : decode cX4_setJump 36 = .ok (.invokevirtual 37, 3) := by decide +kernel
theorem dX4_setJump_39 : decode cX4_setJump 39 = .ok (.iload_n 3, 1) := by decide +kernel
theorem dX4_setJump_40 : decode cX4_setJump 40 = .ok (.ireturn, 1) := by decide +kernel
set_option maxRecDepth 20000 in
theorem ggX4_setBranch_X4_isBlock : GoodIn wsX4_setBranch wsX4_isBlock := goodIn_r _ [6, 1, 7, 8, 5, 9, 23, 24, 25, 26, 27, 28, 29] (by decide +kernel) (by decide +kernel)
set_option maxRecDepth 20000 in
theorem gX4_setBranch_X4_isBlock : GoodIn wsX4_setBranch (wsV RX4 56 RX4 yX4_isBlock wsX4_isBlock) := goodIn_app (goodIn_of _ (by decide +kernel)) ggX4_setBranch_X4_isBlock
set_option maxRecDepth 20000 in
theorem ggX4_setBranch_X4_isRegister : GoodIn wsX4_setBranch wsX4_isRegister := goodIn_r _ [12, 7, 8, 5, 9] (by decide +kernel) (by decide +kernel)
set_option maxRecDepth 20000 in
theorem gX4_setBranch_X4_isRegister : GoodIn wsX4_setBranch (va_wsS RX4 45 yX4_isRegister wsX4_isRegister) := goodIn_app (goodIn_of _ (by decide +kernel)) ggX4_setBranch_X4_isRegister
set_option maxRecDepth 20000 in
theorem ggX4_setBranch_X4_end : GoodIn wsX4_setBranch wsX4_end := goodIn_r _ [15, 16, 17, 5, 18] (by decide +kernel) (by decide +kernel)
set_option maxRecDepth 20000 in
theorem gX4_setBranch_X4_end : GoodIn wsX4_setBranch (va_wsS RX4 34 yX4_end wsX4_end) := goodIn_app (goodIn_of _ (by decide +kernel)) ggX4_setBranch_X4_end
set_option maxRecDepth 20000 in
theorem ggX4_setBranch_X4_terminate : GoodIn wsX4_setBranch wsX4_terminate := goodIn_r _ [22, 1, 13, 14, 5, 15, 16, 17, 18, 23, 24, 25, 26, 27, 28, 29] (by decide +kernel) (by decide +kernel)
set_option maxRecDepth 20000 in
theorem gX4_setBranch_X4_terminate : GoodIn wsX4_setBranch (wsV RX4 37 RX4 yX4_terminate wsX4_terminate) := goodIn_app (goodIn_of _ (by decide +kernel)) ggX4_setBranch_X4_terminate
theorem dX4_setBranch_0 : decode cX4_setBranch 0 = .ok (.aload_n 0, 1) := by decide +kernel
theorem dX4_setBranch_1 : decode cX4_setBranch 1 = .ok (.iload_n 1, 1) := by decide +kernel
theorem dX4_setBranch_2 : decode cX4_setBranch 2 = .ok (.invokevirtual 56, 3) := by decide +kernel
theorem dX4_setBranch_5 : decode cX4_setBranch 5 = .ok (.ifCond .eq 20, 3) := by decide +kernel
theorem dX4_setBranch_8 : decode cX4_setBranch 8 = .ok (.aload_n 0, 1) := by decide +kernel
theorem dX4_setBranch_9 : decode cX4_setBranch 9 = .ok (.iload_n 3, 1) := by decide +kernel
theorem dX4_setBranch_10 : decode cX4_setBranch 10 = .ok (.invokevirtual 56, 3) := by decide +kernel
theorem dX4_setBranch_13 : decode cX4_setBranch 13 = .ok (.ifCond .eq 12, 3) := by decide +kernel
theorem dX4_setBranch_16 : decode cX4_setBranch 16 = .ok (.aload_n 0, 1) := by decide +kernel
theorem dX4_setBranch_17 : decode cX4_setBranch 17 = .ok (.iload 4, 2) := by decide +kernel
theorem dX4_setBranch_19 : decode cX4_setBranch 19 = .ok (.invokevirtual 56, 3) := by decide +kernel
theorem dX4_setBranch_22 : decode cX4_setBranch 22 = .ok (.ifCond .ne 7, 3) := by decide +kernel
theorem dX4_setBranch_25 : decode cX4_setBranch 25 = .ok (.sipush (-1001), 3) := by decide +kernel
theorem dX4_setBranch_28 : decode cX4_setBranch 28 = .ok (.ireturn, 1) := by decide +kernel
theorem dX4_setBranch_29 : decode cX4_setBranch 29 = .ok (.iload_n 2, 1) := by decide +kernel
theorem dX4_setBranch_30 : decode cX4_setBranch 30 = .ok (.invokestatic 45, 3) := by decide +kernel
theorem dX4_setBranch_33 : decode cX4_setBranch 33 = .ok (.ifCond .ne 7, 3) := by decide +kernel
theorem dX4_setBranch_36 : decode cX4_setBranch 36 = .ok (.sipush (-1003), 3) := by decide +kernel
theorem dX4_setBranch_39 : decode cX4_setBranch 39 = .ok (.ireturn, 1) := by decide +kernel
theorem dX4_setBranch_40 : decode cX4_setBranch 40 = .ok (.aload_n 0, 1) := by decide +kernel
theorem dX4_setBranch_41 : decode cX4_setBranch 41 = .ok (.getfield 7, 3) := by decide +kernel
theorem dX4_setBranch_44 : decode cX4_setBranch 44 = .ok (.iload_n 1, 1) := by decide +kernel
theorem dX4_setBranch_45 : decode cX4_setBranch 45 = .ok (.invokestatic 34, 3) := by decide +kernel
theorem dX4_setBranch_48 : decode cX4_setBranch 48 = .ok (.iaload, 1) := by decide +kernel
theorem dX4_setBranch_49 : decode cX4_setBranch 49 = .ok (.istore 5, 2) := by decide +kernel
theorem dX4_setBranch_51 : decode cX4_setBranch 51 = .ok (.aload_n 0, 1) := by decide +kernel
theorem dX4_setBranch_52 : decode cX4_setBranch 52 = .ok (.iload_n 1, 1) := by decide +kernel
theorem dX4_setBranch_53 : decode cX4_setBranch 53 = .ok (.iconst 1, 1) := by decide +kernel
theorem dX4_setBranch_54 : decode cX4_setBranch 54 = .ok (.iload_n 2, 1) := by decide +kernel
theorem dX4_setBranch_55 : decode cX4_setBranch 55 = .ok (.iload_n 3, 1) := by decide +kernel
theorem dX4_setBranch_56 : decode cX4_setBranch 56 = .ok (.iload 4, 2) := by decide +kernel
theorem dX4_setBranch_58 : decode cX4_setBranch 58 = .ok (.invokevirtual 37, 3) := by decide +kernel
theorem dX4_setBranch_61 : decode cX4_setBranch 61 = .ok (.iload 5, 2) := by decide +kernel
theorem dX4_setBranch_63 : decode cX4_setBranch 63 = .ok (.ireturn, 1) := by decide +kernel
set_option maxRecDepth 20000 in
theorem ggX4_setReturn_X4_isBlock : GoodIn wsX4_setReturn wsX4_isBlock := goodIn_r _ [6, 1, 7, 8, 5, 9, 23, 24, 25, 26, 27, 28, 29] (by decide +kernel) (by decide +kernel)
set_option maxRecDepth 20000 in
theorem gX4_setReturn_X4_isBlock : GoodIn wsX4_setReturn (wsV RX4 56 RX4 yX4_isBlock wsX4_isBlock) := goodIn_app (goodIn_of _ (by decide +kernel)) ggX4_setReturn_X4_isBlock
set_option maxRecDepth 20000 in
theorem ggX4_setReturn_X4_isRegister : GoodIn wsX4_setReturn wsX4_isRegister := goodIn_r _ [12, 7, 8, 5, 9] (by decide +kernel) (by decide +kernel)
set_option maxRecDepth 20000 in
theorem gX4_setReturn_X4_isRegister : GoodIn wsX4_setReturn (va_wsS RX4 45 yX4_isRegister wsX4_isRegister) := goodIn_app (goodIn_of _ (by decide +kernel)) ggX4_setReturn_X4_isRegister
set_option maxRecDepth 20000 in
theorem ggX4_setReturn_X4_end : GoodIn wsX4_setReturn wsX4_end := goodIn_r _ [15, 16, 17, 5, 18] (by decide +kernel) (by decide +kernel)
set_option maxRecDepth 20000 in
theorem gX4_setReturn_X4_end : GoodIn wsX4_setReturn (va_wsS RX4 34 yX4_end wsX4_end) := goodIn_app (goodIn_of _ (by decide +kernel)) ggX4_setReturn_X4_end
set_option maxRecDepth 20000 in
theorem ggX4_setReturn_X4_terminate : GoodIn wsX4_setReturn wsX4_terminate := goodIn_r _ [22, 1, 13, 14, 5, 15, 16, 17, 18, 23, 24, 25, 26, 27, 28, 29] (by decide +kernel) (by decide +kernel)
set_option maxRecDepth 20000 in
theorem gX4_setReturn_X4_terminate : GoodIn wsX4_setReturn (wsV RX4 37 RX4 yX4_terminate wsX4_terminate) := goodIn_app (goodIn_of _ (by decide +kernel)) ggX4_setReturn_X4_terminate
theorem dX4_setReturn_0 : decode cX4_setReturn 0 = .ok (.aload_n 0, 1) := by decide +kernel
theorem dX4_setReturn_1 : decode cX4_setReturn 1 = .ok (.iload_n 1, 1) := by decide +kernel
theorem dX4_setReturn_2 : decode cX4_setReturn 2 = .ok (.invokevirtual 56, 3) := by decide +kernel
theorem dX4_setReturn_5 : decode cX4_setReturn 5 = .ok (.ifCond .ne 7, 3) := by decide +kernel
theorem dX4_setReturn_8 : decode cX4_setReturn 8 = .ok (.sipush (-1001), 3) := by decide +kernel
theorem dX4_setReturn_11 : decode cX4_setReturn 11 = .ok (.ireturn, 1) := by decide +kernel
theorem dX4_setReturn_12 : decode cX4_setReturn 12 = .ok (.iload_n 2, 1) := by decide +kernel
theorem dX4_setReturn_13 : decode cX4_setReturn 13 = .ok (.invokestatic 45, 3) := by decide +kernel
theorem dX4_setReturn_16 : decode cX4_setReturn 16 = .ok (.ifCond .ne 7, 3) := by decide +kernel
theorem dX4_setReturn_19 : decode cX4_setReturn 19 = .ok (.sipush (-1003), 3) := by decide +kernel
theorem dX4_setReturn_22 : decode cX4_setReturn 22 = .ok (.ireturn, 1) := by decide +kernel
theorem dX4_setReturn_23 : decode cX4_setReturn 23 = .ok (.aload_n 0, 1) := by decide +kernel
theorem dX4_setReturn_24 : decode cX4_setReturn 24 = .ok (.getfield 7, 3) := by decide +kernel
theorem dX4_setReturn_27 : decode cX4_setReturn 27 = .ok (.iload_n 1, 1) := by decide +kernel
theorem dX4_setReturn_28 : decode cX4_setReturn 28 = .ok (.invokestatic 34, 3) := by decide +kernel
theorem dX4_setReturn_31 : decode cX4_setReturn 31 = .ok (.iaload, 1) := by decide +kernel
theorem dX4_setReturn_32 : decode cX4_setReturn 32 = .ok (.istore_n 3, 1) := by decide +kernel
theorem dX4_setReturn_33 : decode cX4_setReturn 33 = .ok (.aload_n 0, 1) := by decide +kernel
theorem dX4_setReturn_34 : decode cX4_setReturn 34 = .ok (.iload_n 1, 1) := by decide +kernel
theorem dX4_setReturn_35 : decode cX4_setReturn 35 = .ok (.iconst 2, 1) := by decide +kernel
theorem dX4_setReturn_36 : decode cX4_setReturn 36 = .ok (.iload_n 2, 1) := by decide +kernel
theorem dX4_setReturn_37 : decode cX4_setReturn 37 = .ok (.iconst 0, 1) := by decide +kernel
theorem dX4_setReturn_38 : decode cX4_setReturn 38 = .ok (.iconst 0, 1) := by decide +kernel
theorem dX4_setReturn_39 : decode cX4_setReturn 39 = .ok (.invokevirtual 37, 3) := by decide +kernel
theorem dX4_setReturn_42 : decode cX4_setReturn 42 = .ok (.iload_n 3, 1) := by decide +kernel
theorem dX4_setReturn_43 : decode cX4_setReturn 43 = .ok (.ireturn, 1) := by decide +kernel
theorem dX4_blockCount_0 : decode cX4_blockCount 0 = .ok (.aload_n 0, 1) := by decide +kernel
theorem dX4_blockCount_1 : decode cX4_blockCount 1 = .ok (.getfield 7, 3) := by decide +kernel
theorem dX4_blockCount_4 : decode cX4_blockCount 4 = .ok (.iconst 0, 1) := by decide +kernel
theorem dX4_blockCount_5 : decode cX4_blockCount 5 = .ok (.iaload, 1) := by decide +kernel
theorem dX4_blockCount_6 : decode cX4_blockCount 6 = .ok (.ireturn, 1) := by decide +kernel
set_option maxRecDepth 20000 in
theorem ggX4_instructionCount_X4_isBlock : GoodIn wsX4_instructionCount wsX4_isBlock := goodIn_r _ [5, 6, 7, 8, 4, 9, 17, 18, 19, 20, 21, 22, 23] (by decide +kernel) (by decide +kernel)
set_option maxRecDepth 20000 in
theorem gX4_instructionCount_X4_isBlock : GoodIn wsX4_instructionCount (wsV RX4 56 RX4 yX4_isBlock wsX4_isBlock) := goodIn_app (goodIn_of _ (by decide +kernel)) ggX4_instructionCount_X4_isBlock
set_option maxRecDepth 20000 in
theorem ggX4_instructionCount_X4_many : GoodIn wsX4_instructionCount wsX4_many := goodIn_r _ [13, 6, 14, 15, 4, 16, 17, 18, 19, 20, 21, 22, 23] (by decide +kernel) (by decide +kernel)
set_option maxRecDepth 20000 in
theorem gX4_instructionCount_X4_many : GoodIn wsX4_instructionCount (wsV RX4 49 RX4 yX4_many wsX4_many) := goodIn_app (goodIn_of _ (by decide +kernel)) ggX4_instructionCount_X4_many
theorem dX4_instructionCount_0 : decode cX4_instructionCount 0 = .ok (.aload_n 0, 1) := by decide +kernel
theorem dX4_instructionCount_1 : decode cX4_instructionCount 1 = .ok (.iload_n 1, 1) := by decide +kernel
theorem dX4_instructionCount_2 : decode cX4_instructionCount 2 = .ok (.invokevirtual 56, 3) := by decide +kernel
theorem dX4_instructionCount_5 : decode cX4_instructionCount 5 = .ok (.ifCond .eq 11, 3) := by decide +kernel
theorem dX4_instructionCount_8 : decode cX4_instructionCount 8 = .ok (.aload_n 0, 1) := by decide +kernel
theorem dX4_instructionCount_9 : decode cX4_instructionCount 9 = .ok (.iload_n 1, 1) := by decide +kernel
theorem dX4_instructionCount_10 : decode cX4_instructionCount 10 = .ok (.invokevirtual 49, 3) := by decide +kernel
theorem dX4_instructionCount_13 : decode cX4_instructionCount 13 = .ok (.goto 6, 3) := by decide +kernel
theorem dX4_instructionCount_16 : decode cX4_instructionCount 16 = .ok (.sipush (-1001), 3) := by decide +kernel
theorem dX4_instructionCount_19 : decode cX4_instructionCount 19 = .ok (.ireturn, 1) := by decide +kernel
set_option maxRecDepth 20000 in
theorem ggX4_field_X4_isBlock : GoodIn wsX4_field wsX4_isBlock := goodIn_r _ [6, 1, 7, 8, 5, 9, 20, 21, 22, 23, 24, 25, 26] (by decide +kernel) (by decide +kernel)
set_option maxRecDepth 20000 in
theorem gX4_field_X4_isBlock : GoodIn wsX4_field (wsV RX4 56 RX4 yX4_isBlock wsX4_isBlock) := goodIn_app (goodIn_of _ (by decide +kernel)) ggX4_field_X4_isBlock
set_option maxRecDepth 20000 in
theorem ggX4_field_X4_many : GoodIn wsX4_field wsX4_many := goodIn_r _ [13, 1, 14, 15, 5, 16, 20, 21, 22, 23, 24, 25, 26] (by decide +kernel) (by decide +kernel)
set_option maxRecDepth 20000 in
theorem gX4_field_X4_many : GoodIn wsX4_field (wsV RX4 49 RX4 yX4_many wsX4_many) := goodIn_app (goodIn_of _ (by decide +kernel)) ggX4_field_X4_many
set_option maxRecDepth 20000 in
theorem ggX4_field_X4_in : GoodIn wsX4_field wsX4_in := goodIn_r _ [9] (by decide +kernel) (by decide +kernel)
set_option maxRecDepth 20000 in
theorem gX4_field_X4_in : GoodIn wsX4_field (va_wsS RX4 26 yX4_in wsX4_in) := goodIn_app (goodIn_of _ (by decide +kernel)) ggX4_field_X4_in
set_option maxRecDepth 20000 in
theorem ggX4_field_X4_at : GoodIn wsX4_field wsX4_at := goodIn_r _ [19, 14, 15, 5, 16] (by decide +kernel) (by decide +kernel)
set_option maxRecDepth 20000 in
theorem gX4_field_X4_at : GoodIn wsX4_field (va_wsS RX4 52 yX4_at wsX4_at) := goodIn_app (goodIn_of _ (by decide +kernel)) ggX4_field_X4_at
theorem dX4_field_0 : decode cX4_field 0 = .ok (.aload_n 0, 1) := by decide +kernel
theorem dX4_field_1 : decode cX4_field 1 = .ok (.iload_n 1, 1) := by decide +kernel
theorem dX4_field_2 : decode cX4_field 2 = .ok (.invokevirtual 56, 3) := by decide +kernel
theorem dX4_field_5 : decode cX4_field 5 = .ok (.ifCond .ne 7, 3) := by decide +kernel
theorem dX4_field_8 : decode cX4_field 8 = .ok (.sipush (-1001), 3) := by decide +kernel
theorem dX4_field_11 : decode cX4_field 11 = .ok (.ireturn, 1) := by decide +kernel
theorem dX4_field_12 : decode cX4_field 12 = .ok (.iload_n 2, 1) := by decide +kernel
theorem dX4_field_13 : decode cX4_field 13 = .ok (.iconst 0, 1) := by decide +kernel
theorem dX4_field_14 : decode cX4_field 14 = .ok (.aload_n 0, 1) := by decide +kernel
theorem dX4_field_15 : decode cX4_field 15 = .ok (.iload_n 1, 1) := by decide +kernel
theorem dX4_field_16 : decode cX4_field 16 = .ok (.invokevirtual 49, 3) := by decide +kernel
theorem dX4_field_19 : decode cX4_field 19 = .ok (.iconst 1, 1) := by decide +kernel
theorem dX4_field_20 : decode cX4_field 20 = .ok (.isub, 1) := by decide +kernel
theorem dX4_field_21 : decode cX4_field 21 = .ok (.invokestatic 26, 3) := by decide +kernel
theorem dX4_field_24 : decode cX4_field 24 = .ok (.ifCond .eq 18, 3) := by decide +kernel
theorem dX4_field_27 : decode cX4_field 27 = .ok (.aload_n 0, 1) := by decide +kernel
theorem dX4_field_28 : decode cX4_field 28 = .ok (.getfield 7, 3) := by decide +kernel
theorem dX4_field_31 : decode cX4_field 31 = .ok (.iload_n 1, 1) := by decide +kernel
theorem dX4_field_32 : decode cX4_field 32 = .ok (.iload_n 2, 1) := by decide +kernel
theorem dX4_field_33 : decode cX4_field 33 = .ok (.invokestatic 52, 3) := by decide +kernel
theorem dX4_field_36 : decode cX4_field 36 = .ok (.iload_n 3, 1) := by decide +kernel
theorem dX4_field_37 : decode cX4_field 37 = .ok (.iadd, 1) := by decide +kernel
theorem dX4_field_38 : decode cX4_field 38 = .ok (.iaload, 1) := by decide +kernel
theorem dX4_field_39 : decode cX4_field 39 = .ok (.goto 6, 3) := by decide +kernel
theorem dX4_field_42 : decode cX4_field 42 = .ok (.sipush (-1002), 3) := by decide +kernel
theorem dX4_field_45 : decode cX4_field 45 = .ok (.ireturn, 1) := by decide +kernel
set_option maxRecDepth 20000 in
theorem ggX4_opcode_X4_field : GoodIn wsX4_opcode wsX4_field := goodIn_r _ [5, 6, 7, 8, 9, 4, 10, 11, 12, 13, 14, 15, 16, 17, 18, 19, 20, 21, 22, 23, 24, 25, 26, 27, 28, 29, 30] (by decide +kernel) (by decide +kernel)
set_option maxRecDepth 20000 in
theorem gX4_opcode_X4_field : GoodIn wsX4_opcode (wsV RX4 67 RX4 yX4_field wsX4_field) := goodIn_app (goodIn_of _ (by decide +kernel)) ggX4_opcode_X4_field
theorem dX4_opcode_0 : decode cX4_opcode 0 = .ok (.aload_n 0, 1) := by decide +kernel
