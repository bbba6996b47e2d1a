theorem dX4_opcode_1 : decode cX4_opcode 1 = .ok (.iload_n 1, 1) := by decide +kernel
theorem dX4_opcode_2 : decode cX4_opcode 2 = .ok (.iload_n 2, 1) := by decide +kernel
theorem dX4_opcode_3 : decode cX4_opcode 3 = .ok (.iconst 0, 1) := by decide +kernel
theorem dX4_opcode_4 : decode cX4_opcode 4 = .ok (.invokevirtual 67, 3) := by decide +kernel
theorem dX4_opcode_7 : decode cX4_opcode 7 = .ok (.ireturn, 1) := by decide +kernel
set_option maxRecDepth 20000 in
theorem ggX4_destination_X4_field : GoodIn wsX4_destination wsX4_field := goodIn_r _ [5, 6, 7, 8, 9, 4, 10, 11, 12, 13, 14, 15, 16, 17, 18, 19, 20, 21, 22, 23, 24, 25, 26, 27, 28, 29, 30] (by decide +kernel) (by decide +kernel)
set_option maxRecDepth 20000 in
theorem gX4_destination_X4_field : GoodIn wsX4_destination (wsV RX4 67 RX4 yX4_field wsX4_field) := goodIn_app (goodIn_of _ (by decide +kernel)) ggX4_destination_X4_field
theorem dX4_destination_0 : decode cX4_destination 0 = .ok (.aload_n 0, 1) := by decide +kernel
theorem dX4_destination_1 : decode cX4_destination 1 = .ok (.iload_n 1, 1) := by decide +kernel
theorem dX4_destination_2 : decode cX4_destination 2 = .ok (.iload_n 2, 1) := by decide +kernel
theorem dX4_destination_3 : decode cX4_destination 3 = .ok (.iconst 1, 1) := by decide +kernel
theorem dX4_destination_4 : decode cX4_destination 4 = .ok (.invokevirtual 67, 3) := by decide +kernel
theorem dX4_destination_7 : decode cX4_destination 7 = .ok (.ireturn, 1) := by decide +kernel
set_option maxRecDepth 20000 in
theorem ggX4_operandA_X4_field : GoodIn wsX4_operandA wsX4_field := goodIn_r _ [5, 6, 7, 8, 9, 4, 10, 11, 12, 13, 14, 15, 16, 17, 18, 19, 20, 21, 22, 23, 24, 25, 26, 27, 28, 29, 30] (by decide +kernel) (by decide +kernel)
set_option maxRecDepth 20000 in
theorem gX4_operandA_X4_field : GoodIn wsX4_operandA (wsV RX4 67 RX4 yX4_field wsX4_field) := goodIn_app (goodIn_of _ (by decide +kernel)) ggX4_operandA_X4_field
theorem dX4_operandA_0 : decode cX4_operandA 0 = .ok (.aload_n 0, 1) := by decide +kernel
theorem dX4_operandA_1 : decode cX4_operandA 1 = .ok (.iload_n 1, 1) := by decide +kernel
theorem dX4_operandA_2 : decode cX4_operandA 2 = .ok (.iload_n 2, 1) := by decide +kernel
theorem dX4_operandA_3 : decode cX4_operandA 3 = .ok (.iconst 2, 1) := by decide +kernel
theorem dX4_operandA_4 : decode cX4_operandA 4 = .ok (.invokevirtual 67, 3) := by decide +kernel
theorem dX4_operandA_7 : decode cX4_operandA 7 = .ok (.ireturn, 1) := by decide +kernel
set_option maxRecDepth 20000 in
theorem ggX4_operandB_X4_field : GoodIn wsX4_operandB wsX4_field := goodIn_r _ [5, 6, 7, 8, 9, 4, 10, 11, 12, 13, 14, 15, 16, 17, 18, 19, 20, 21, 22, 23, 24, 25, 26, 27, 28, 29, 30] (by decide +kernel) (by decide +kernel)
set_option maxRecDepth 20000 in
theorem gX4_operandB_X4_field : GoodIn wsX4_operandB (wsV RX4 67 RX4 yX4_field wsX4_field) := goodIn_app (goodIn_of _ (by decide +kernel)) ggX4_operandB_X4_field
theorem dX4_operandB_0 : decode cX4_operandB 0 = .ok (.aload_n 0, 1) := by decide +kernel
theorem dX4_operandB_1 : decode cX4_operandB 1 = .ok (.iload_n 1, 1) := by decide +kernel
theorem dX4_operandB_2 : decode cX4_operandB 2 = .ok (.iload_n 2, 1) := by decide +kernel
theorem dX4_operandB_3 : decode cX4_operandB 3 = .ok (.iconst 3, 1) := by decide +kernel
theorem dX4_operandB_4 : decode cX4_operandB 4 = .ok (.invokevirtual 67, 3) := by decide +kernel
theorem dX4_operandB_7 : decode cX4_operandB 7 = .ok (.ireturn, 1) := by decide +kernel
set_option maxRecDepth 20000 in
theorem ggX4_lines_X4_field : GoodIn wsX4_lines wsX4_field := goodIn_r _ [5, 6, 7, 8, 9, 4, 10, 11, 12, 13, 14, 15, 16, 17, 18, 19, 20, 21, 22, 23, 24, 25, 26, 27, 28, 29, 30] (by decide +kernel) (by decide +kernel)
set_option maxRecDepth 20000 in
theorem gX4_lines_X4_field : GoodIn wsX4_lines (wsV RX4 67 RX4 yX4_field wsX4_field) := goodIn_app (goodIn_of _ (by decide +kernel)) ggX4_lines_X4_field
theorem dX4_lines_0 : decode cX4_lines 0 = .ok (.aload_n 0, 1) := by decide +kernel
theorem dX4_lines_1 : decode cX4_lines 1 = .ok (.iload_n 1, 1) := by decide +kernel
theorem dX4_lines_2 : decode cX4_lines 2 = .ok (.iload_n 2, 1) := by decide +kernel
theorem dX4_lines_3 : decode cX4_lines 3 = .ok (.iconst 4, 1) := by decide +kernel
theorem dX4_lines_4 : decode cX4_lines 4 = .ok (.invokevirtual 67, 3) := by decide +kernel
theorem dX4_lines_7 : decode cX4_lines 7 = .ok (.ireturn, 1) := by decide +kernel
set_option maxRecDepth 20000 in
theorem ggX4_terminatorKind_X4_isBlock : GoodIn wsX4_terminatorKind wsX4_isBlock := goodIn_r _ [6, 1, 7, 8, 5, 9, 16, 17, 18, 19, 20, 21, 22] (by decide +kernel) (by decide +kernel)
set_option maxRecDepth 20000 in
theorem gX4_terminatorKind_X4_isBlock : GoodIn wsX4_terminatorKind (wsV RX4 56 RX4 yX4_isBlock wsX4_isBlock) := goodIn_app (goodIn_of _ (by decide +kernel)) ggX4_terminatorKind_X4_isBlock
set_option maxRecDepth 20000 in
theorem ggX4_terminatorKind_X4_end : GoodIn wsX4_terminatorKind wsX4_end := goodIn_r _ [12, 13, 14, 5, 15] (by decide +kernel) (by decide +kernel)
set_option maxRecDepth 20000 in
theorem gX4_terminatorKind_X4_end : GoodIn wsX4_terminatorKind (va_wsS RX4 34 yX4_end wsX4_end) := goodIn_app (goodIn_of _ (by decide +kernel)) ggX4_terminatorKind_X4_end
theorem dX4_terminatorKind_0 : decode cX4_terminatorKind 0 = .ok (.aload_n 0, 1) := by decide +kernel
theorem dX4_terminatorKind_1 : decode cX4_terminatorKind 1 = .ok (.iload_n 1, 1) := by decide +kernel
theorem dX4_terminatorKind_2 : decode cX4_terminatorKind 2 = .ok (.invokevirtual 56, 3) := by decide +kernel
theorem dX4_terminatorKind_5 : decode cX4_terminatorKind 5 = .ok (.ifCond .eq 15, 3) := by decide +kernel
theorem dX4_terminatorKind_8 : decode cX4_terminatorKind 8 = .ok (.aload_n 0, 1) := by decide +kernel
theorem dX4_terminatorKind_9 : decode cX4_terminatorKind 9 = .ok (.getfield 7, 3) := by decide +kernel
theorem dX4_terminatorKind_12 : decode cX4_terminatorKind 12 = .ok (.iload_n 1, 1) := by decide +kernel
theorem dX4_terminatorKind_13 : decode cX4_terminatorKind 13 = .ok (.invokestatic 34, 3) := by decide +kernel
theorem dX4_terminatorKind_16 : decode cX4_terminatorKind 16 = .ok (.iaload, 1) := by decide +kernel
theorem dX4_terminatorKind_17 : decode cX4_terminatorKind 17 = .ok (.goto 6, 3) := by decide +kernel
theorem dX4_terminatorKind_20 : decode cX4_terminatorKind 20 = .ok (.sipush (-1001), 3) := by decide +kernel
theorem dX4_terminatorKind_23 : decode cX4_terminatorKind 23 = .ok (.ireturn, 1) := by decide +kernel
set_option maxRecDepth 20000 in
theorem ggX4_terminatorOperand_X4_isBlock : GoodIn wsX4_terminatorOperand wsX4_isBlock := goodIn_r _ [6, 1, 7, 8, 5, 9, 16, 17, 18, 19, 20, 21, 22] (by decide +kernel) (by decide +kernel)
set_option maxRecDepth 20000 in
theorem gX4_terminatorOperand_X4_isBlock : GoodIn wsX4_terminatorOperand (wsV RX4 56 RX4 yX4_isBlock wsX4_isBlock) := goodIn_app (goodIn_of _ (by decide +kernel)) ggX4_terminatorOperand_X4_isBlock
set_option maxRecDepth 20000 in
theorem ggX4_terminatorOperand_X4_end : GoodIn wsX4_terminatorOperand wsX4_end := goodIn_r _ [12, 13, 14, 5, 15] (by decide +kernel) (by decide +kernel)
set_option maxRecDepth 20000 in
theorem gX4_terminatorOperand_X4_end : GoodIn wsX4_terminatorOperand (va_wsS RX4 34 yX4_end wsX4_end) := goodIn_app (goodIn_of _ (by decide +kernel)) ggX4_terminatorOperand_X4_end
set_option maxRecDepth 20000 in
theorem ggX4_terminatorOperand_X4_in : GoodIn wsX4_terminatorOperand wsX4_in := goodIn_r _ [9] (by decide +kernel) (by decide +kernel)
set_option maxRecDepth 20000 in
theorem gX4_terminatorOperand_X4_in : GoodIn wsX4_terminatorOperand (va_wsS RX4 26 yX4_in wsX4_in) := goodIn_app (goodIn_of _ (by decide +kernel)) ggX4_terminatorOperand_X4_in
theorem dX4_terminatorOperand_0 : decode cX4_terminatorOperand 0 = .ok (.aload_n 0, 1) := by decide +kernel
theorem dX4_terminatorOperand_1 : decode cX4_terminatorOperand 1 = .ok (.iload_n 1, 1) := by decide +kernel
theorem dX4_terminatorOperand_2 : decode cX4_terminatorOperand 2 = .ok (.invokevirtual 56, 3) := by decide +kernel
theorem dX4_terminatorOperand_5 : decode cX4_terminatorOperand 5 = .ok (.ifCond .ne 7, 3) := by decide +kernel
theorem dX4_terminatorOperand_8 : decode cX4_terminatorOperand 8 = .ok (.sipush (-1001), 3) := by decide +kernel
theorem dX4_terminatorOperand_11 : decode cX4_terminatorOperand 11 = .ok (.ireturn, 1) := by decide +kernel
theorem dX4_terminatorOperand_12 : decode cX4_terminatorOperand 12 = .ok (.aload_n 0, 1) := by decide +kernel
theorem dX4_terminatorOperand_13 : decode cX4_terminatorOperand 13 = .ok (.getfield 7, 3) := by decide +kernel
theorem dX4_terminatorOperand_16 : decode cX4_terminatorOperand 16 = .ok (.iload_n 1, 1) := by decide +kernel
theorem dX4_terminatorOperand_17 : decode cX4_terminatorOperand 17 = .ok (.invokestatic 34, 3) := by decide +kernel
theorem dX4_terminatorOperand_20 : decode cX4_terminatorOperand 20 = .ok (.iaload, 1) := by decide +kernel
theorem dX4_terminatorOperand_21 : decode cX4_terminatorOperand 21 = .ok (.iconst 1, 1) := by decide +kernel
theorem dX4_terminatorOperand_22 : decode cX4_terminatorOperand 22 = .ok (.if_icmp .ne 7, 3) := by decide +kernel
theorem dX4_terminatorOperand_25 : decode cX4_terminatorOperand 25 = .ok (.iconst 2, 1) := by decide +kernel
theorem dX4_terminatorOperand_26 : decode cX4_terminatorOperand 26 = .ok (.goto 4, 3) := by decide +kernel
theorem dX4_terminatorOperand_29 : decode cX4_terminatorOperand 29 = .ok (.iconst 0, 1) := by decide +kernel
theorem dX4_terminatorOperand_30 : decode cX4_terminatorOperand 30 = .ok (.istore_n 3, 1) := by decide +kernel
theorem dX4_terminatorOperand_31 : decode cX4_terminatorOperand 31 = .ok (.iload_n 2, 1) := by decide +kernel
theorem dX4_terminatorOperand_32 : decode cX4_terminatorOperand 32 = .ok (.iconst 0, 1) := by decide +kernel
theorem dX4_terminatorOperand_33 : decode cX4_terminatorOperand 33 = .ok (.iload_n 3, 1) := by decide +kernel
theorem dX4_terminatorOperand_34 : decode cX4_terminatorOperand 34 = .ok (.invokestatic 26, 3) := by decide +kernel
theorem dX4_terminatorOperand_37 : decode cX4_terminatorOperand 37 = .ok (.ifCond .eq 19, 3) := by decide +kernel
theorem dX4_terminatorOperand_40 : decode cX4_terminatorOperand 40 = .ok (.aload_n 0, 1) := by decide +kernel
theorem dX4_terminatorOperand_41 : decode cX4_terminatorOperand 41 = .ok (.getfield 7, 3) := by decide +kernel
theorem dX4_terminatorOperand_44 : decode cX4_terminatorOperand 44 = .ok (.iload_n 1, 1) := by decide +kernel
theorem dX4_terminatorOperand_45 : decode cX4_terminatorOperand 45 = .ok (.invokestatic 34, 3) := by decide +kernel
theorem dX4_terminatorOperand_48 : decode cX4_terminatorOperand 48 = .ok (.iconst 1, 1) := by decide +kernel
theorem dX4_terminatorOperand_49 : decode cX4_terminatorOperand 49 = .ok (.iadd, 1) := by decide +kernel
theorem dX4_terminatorOperand_50 : decode cX4_terminatorOperand 50 = .ok (.iload_n 2, 1) := by decide +kernel
theorem dX4_terminatorOperand_51 : decode cX4_terminatorOperand 51 = .ok (.iadd, 1) := by decide +kernel
theorem dX4_terminatorOperand_52 : decode cX4_terminatorOperand 52 = .ok (.iaload, 1) := by decide +kernel
theorem dX4_terminatorOperand_53 : decode cX4_terminatorOperand 53 = .ok (.goto 6, 3) := by decide +kernel
theorem dX4_terminatorOperand_56 : decode cX4_terminatorOperand 56 = .ok (.sipush (-1008), 3) := by decide +kernel
theorem dX4_terminatorOperand_59 : decode cX4_terminatorOperand 59 = .ok (.ireturn, 1) := by decide +kernel
set_option maxRecDepth 20000 in
theorem ggX4_tailHash_X4_isBlock : GoodIn wsX4_tailHash wsX4_isBlock := goodIn_r _ [7, 1, 8, 9, 6, 10, 24, 25, 26, 27, 28, 29, 30] (by decide +kernel) (by decide +kernel)
set_option maxRecDepth 20000 in
theorem gX4_tailHash_X4_isBlock : GoodIn wsX4_tailHash (wsV RX4 56 RX4 yX4_isBlock wsX4_isBlock) := goodIn_app (goodIn_of _ (by decide +kernel)) ggX4_tailHash_X4_isBlock
set_option maxRecDepth 20000 in
theorem ggX4_tailHash_X4_many : GoodIn wsX4_tailHash wsX4_many := goodIn_r _ [14, 1, 15, 16, 6, 17, 24, 25, 26, 27, 28, 29, 30] (by decide +kernel) (by decide +kernel)
set_option maxRecDepth 20000 in
theorem gX4_tailHash_X4_many : GoodIn wsX4_tailHash (wsV RX4 49 RX4 yX4_many wsX4_many) := goodIn_app (goodIn_of _ (by decide +kernel)) ggX4_tailHash_X4_many
set_option maxRecDepth 20000 in
theorem ggX4_tailHash_X4_in : GoodIn wsX4_tailHash wsX4_in := goodIn_r _ [10] (by decide +kernel) (by decide +kernel)
set_option maxRecDepth 20000 in
theorem gX4_tailHash_X4_in : GoodIn wsX4_tailHash (va_wsS RX4 26 yX4_in wsX4_in) := goodIn_app (goodIn_of _ (by decide +kernel)) ggX4_tailHash_X4_in
set_option maxRecDepth 20000 in
theorem ggX4_tailHash_X4_at : GoodIn wsX4_tailHash wsX4_at := goodIn_r _ [20, 15, 16, 6, 17] (by decide +kernel) (by decide +kernel)
set_option maxRecDepth 20000 in
theorem gX4_tailHash_X4_at : GoodIn wsX4_tailHash (va_wsS RX4 52 yX4_at wsX4_at) := goodIn_app (goodIn_of _ (by decide +kernel)) ggX4_tailHash_X4_at
set_option maxRecDepth 20000 in
theorem ggX4_tailHash_X4_end : GoodIn wsX4_tailHash wsX4_end := goodIn_r _ [23, 15, 16, 6, 17] (by decide +kernel) (by decide +kernel)
set_option maxRecDepth 20000 in
theorem gX4_tailHash_X4_end : GoodIn wsX4_tailHash (va_wsS RX4 34 yX4_end wsX4_end) := goodIn_app (goodIn_of _ (by decide +kernel)) ggX4_tailHash_X4_end
theorem dX4_tailHash_0 : decode cX4_tailHash 0 = .ok (.aload_n 0, 1) := by decide +kernel
theorem dX4_tailHash_1 : decode cX4_tailHash 1 = .ok (.iload_n 1, 1) := by decide +kernel
theorem dX4_tailHash_2 : decode cX4_tailHash 2 = .ok (.invokevirtual 56, 3) := by decide +kernel
theorem dX4_tailHash_5 : decode cX4_tailHash 5 = .ok (.ifCond .ne 7, 3) := by decide +kernel
theorem dX4_tailHash_8 : decode cX4_tailHash 8 = .ok (.sipush (-1001), 3) := by decide +kernel
theorem dX4_tailHash_11 : decode cX4_tailHash 11 = .ok (.ireturn, 1) := by decide +kernel
theorem dX4_tailHash_12 : decode cX4_tailHash 12 = .ok (.iload_n 2, 1) := by decide +kernel
theorem dX4_tailHash_13 : decode cX4_tailHash 13 = .ok (.iconst 0, 1) := by decide +kernel
theorem dX4_tailHash_14 : decode cX4_tailHash 14 = .ok (.aload_n 0, 1) := by decide +kernel
theorem dX4_tailHash_15 : decode cX4_tailHash 15 = .ok (.iload_n 1, 1) := by decide +kernel
theorem dX4_tailHash_16 : decode cX4_tailHash 16 = .ok (.invokevirtual 49, 3) := by decide +kernel
theorem dX4_tailHash_19 : decode cX4_tailHash 19 = .ok (.invokestatic 26, 3) := by decide +kernel
theorem dX4_tailHash_22 : decode cX4_tailHash 22 = .ok (.ifCond .ne 7, 3) := by decide +kernel
theorem dX4_tailHash_25 : decode cX4_tailHash 25 = .ok (.sipush (-1003), 3) := by decide +kernel
theorem dX4_tailHash_28 : decode cX4_tailHash 28 = .ok (.ireturn, 1) := by decide +kernel
theorem dX4_tailHash_29 : decode cX4_tailHash 29 = .ok (.bipush 17, 2) := by decide +kernel
theorem dX4_tailHash_31 : decode cX4_tailHash 31 = .ok (.istore_n 3, 1) := by decide +kernel
theorem dX4_tailHash_32 : decode cX4_tailHash 32 = .ok (.aload_n 0, 1) := by decide +kernel
theorem dX4_tailHash_33 : decode cX4_tailHash 33 = .ok (.iload_n 1, 1) := by decide +kernel
theorem dX4_tailHash_34 : decode cX4_tailHash 34 = .ok (.invokevirtual 49, 3) := by decide +kernel
theorem dX4_tailHash_37 : decode cX4_tailHash 37 = .ok (.iload_n 2, 1) := by decide +kernel
theorem dX4_tailHash_38 : decode cX4_tailHash 38 = .ok (.isub, 1) := by decide +kernel
theorem dX4_tailHash_39 : decode cX4_tailHash 39 = .ok (.istore 4, 2) := by decide +kernel
theorem dX4_tailHash_41 : decode cX4_tailHash 41 = .ok (.iload 4, 2) := by decide +kernel
theorem dX4_tailHash_43 : decode cX4_tailHash 43 = .ok (.aload_n 0, 1) := by decide +kernel
theorem dX4_tailHash_44 : decode cX4_tailHash 44 = .ok (.iload_n 1, 1) := by decide +kernel
theorem dX4_tailHash_45 : decode cX4_tailHash 45 = .ok (.invokevirtual 49, 3) := by decide +kernel
theorem dX4_tailHash_48 : decode cX4_tailHash 48 = .ok (.if_icmp .ge 44, 3) := by decide +kernel
theorem dX4_tailHash_51 : decode cX4_tailHash 51 = .ok (.iconst 0, 1) := by decide +kernel
theorem dX4_tailHash_52 : decode cX4_tailHash 52 = .ok (.istore 5, 2) := by decide +kernel
theorem dX4_tailHash_54 : decode cX4_tailHash 54 = .ok (.iload 5, 2) := by decide +kernel
theorem dX4_tailHash_56 : decode cX4_tailHash 56 = .ok (.iconst 4, 1) := by decide +kernel
theorem dX4_tailHash_57 : decode cX4_tailHash 57 = .ok (.if_icmp .ge 29, 3) := by decide +kernel
theorem dX4_tailHash_60 : decode cX4_tailHash 60 = .ok (.bipush 31, 2) := by decide +kernel
theorem dX4_tailHash_62 : decode cX4_tailHash 62 = .ok (.iload_n 3, 1) := by decide +kernel
theorem dX4_tailHash_63 : decode cX4_tailHash 63 = .ok (.imul, 1) := by decide +kernel
theorem dX4_tailHash_64 : decode cX4_tailHash 64 = .ok (.aload_n 0, 1) := by decide +kernel
theorem dX4_tailHash_65 : decode cX4_tailHash 65 = .ok (.getfield 7, 3) := by decide +kernel
theorem dX4_tailHash_68 : decode cX4_tailHash 68 = .ok (.iload_n 1, 1) := by decide +kernel
theorem dX4_tailHash_69 : decode cX4_tailHash 69 = .ok (.iload 4, 2) := by decide +kernel
theorem dX4_tailHash_71 : decode cX4_tailHash 71 = .ok (.invokestatic 52, 3) := by decide +kernel
theorem dX4_tailHash_74 : decode cX4_tailHash 74 = .ok (.iload 5, 2) := by decide +kernel
theorem dX4_tailHash_76 : decode cX4_tailHash 76 = .ok (.iadd, 1) := by decide +kernel
theorem dX4_tailHash_77 : decode cX4_tailHash 77 = .ok (.iaload, 1) := by decide +kernel
theorem dX4_tailHash_78 : decode cX4_tailHash 78 = .ok (.iadd, 1) := by decide +kernel
theorem dX4_tailHash_79 : decode cX4_tailHash 79 = .ok (.istore_n 3, 1) := by decide +kernel
theorem dX4_tailHash_80 : decode cX4_tailHash 80 = .ok (.iinc 5 1, 3) := by decide +kernel
theorem dX4_tailHash_83 : decode cX4_tailHash 83 = .ok (.goto (-29), 3) := by decide +kernel
theorem dX4_tailHash_86 : decode cX4_tailHash 86 = .ok (.iinc 4 1, 3) := by decide +kernel
theorem dX4_tailHash_89 : decode cX4_tailHash 89 = .ok (.goto (-48), 3) := by decide +kernel
theorem dX4_tailHash_92 : decode cX4_tailHash 92 = .ok (.iconst 0, 1) := by decide +kernel
theorem dX4_tailHash_93 : decode cX4_tailHash 93 = .ok (.istore 4, 2) := by decide +kernel
theorem dX4_tailHash_95 : decode cX4_tailHash 95 = .ok (.iload 4, 2) := by decide +kernel
theorem dX4_tailHash_97 : decode cX4_tailHash 97 = .ok (.iconst 4, 1) := by decide +kernel
theorem dX4_tailHash_98 : decode cX4_tailHash 98 = .ok (.if_icmp .ge 27, 3) := by decide +kernel
theorem dX4_tailHash_101 : decode cX4_tailHash 101 = .ok (.bipush 31, 2) := by decide +kernel
theorem dX4_tailHash_103 : decode cX4_tailHash 103 = .ok (.iload_n 3, 1) := by decide +kernel
theorem dX4_tailHash_104 : decode cX4_tailHash 104 = .ok (.imul, 1) := by decide +kernel
theorem dX4_tailHash_105 : decode cX4_tailHash 105 = .ok (.aload_n 0, 1) := by decide +kernel
theorem dX4_tailHash_106 : decode cX4_tailHash 106 = .ok (.getfield 7, 3) := by decide +kernel
theorem dX4_tailHash_109 : decode cX4_tailHash 109 = .ok (.iload_n 1, 1) := by decide +kernel
theorem dX4_tailHash_110 : decode cX4_tailHash 110 = .ok (.invokestatic 34, 3) := by decide +kernel
theorem dX4_tailHash_113 : decode cX4_tailHash 113 = .ok (.iload 4, 2) := by decide +kernel
theorem dX4_tailHash_115 : decode cX4_tailHash 115 = .ok (.iadd, 1) := by decide +kernel
theorem dX4_tailHash_116 : decode cX4_tailHash 116 = .ok (.iaload, 1) := by decide +kernel
theorem dX4_tailHash_117 : decode cX4_tailHash 117 = .ok (.iadd, 1) := by decide +kernel
theorem dX4_tailHash_118 : decode cX4_tailHash 118 = .ok (.istore_n 3, 1) := by decide +kernel
theorem dX4_tailHash_119 : decode cX4_tailHash 119 = .ok (.iinc 4 1, 3) := by decide +kernel
theorem dX4_tailHash_122 : decode cX4_tailHash 122 = .ok (.goto (-27), 3) := by decide +kernel
theorem dX4_tailHash_125 : decode cX4_tailHash 125 = .ok (.iload_n 3, 1) := by decide +kernel
theorem dX4_tailHash_126 : decode cX4_tailHash 126 = .ok (.ldc 71, 2) := by decide +kernel
theorem dX4_tailHash_128 : decode cX4_tailHash 128 = .ok (.iand, 1) := by decide +kernel
theorem dX4_tailHash_129 : decode cX4_tailHash 129 = .ok (.ireturn, 1) := by decide +kernel
set_option maxRecDepth 20000 in
theorem ggX4_sameEnds_X4_end : GoodIn wsX4_sameEnds wsX4_end := goodIn_r _ [5, 6, 7, 4, 8] (by decide +kernel) (by decide +kernel)
set_option maxRecDepth 20000 in
theorem gX4_sameEnds_X4_end : GoodIn wsX4_sameEnds (va_wsS RX4 34 yX4_end wsX4_end) := goodIn_app (goodIn_of _ (by decide +kernel)) ggX4_sameEnds_X4_end
theorem dX4_sameEnds_0 : decode cX4_sameEnds 0 = .ok (.iconst 1, 1) := by decide +kernel
theorem dX4_sameEnds_1 : decode cX4_sameEnds 1 = .ok (.istore_n 3, 1) := by decide +kernel
theorem dX4_sameEnds_2 : decode cX4_sameEnds 2 = .ok (.iconst 0, 1) := by decide +kernel
theorem dX4_sameEnds_3 : decode cX4_sameEnds 3 = .ok (.istore 4, 2) := by decide +kernel
theorem dX4_sameEnds_5 : decode cX4_sameEnds 5 = .ok (.iload 4, 2) := by decide +kernel
theorem dX4_sameEnds_7 : decode cX4_sameEnds 7 = .ok (.iconst 4, 1) := by decide +kernel
theorem dX4_sameEnds_8 : decode cX4_sameEnds 8 = .ok (.if_icmp .ge 46, 3) := by decide +kernel
theorem dX4_sameEnds_11 : decode cX4_sameEnds 11 = .ok (.iload_n 3, 1) := by decide +kernel
theorem dX4_sameEnds_12 : decode cX4_sameEnds 12 = .ok (.ifCond .eq 34, 3) := by decide +kernel
theorem dX4_sameEnds_15 : decode cX4_sameEnds 15 = .ok (.aload_n 0, 1) := by decide +kernel
theorem dX4_sameEnds_16 : decode cX4_sameEnds 16 = .ok (.getfield 7, 3) := by decide +kernel
theorem dX4_sameEnds_19 : decode cX4_sameEnds 19 = .ok (.iload_n 1, 1) := by decide +kernel
theorem dX4_sameEnds_20 : decode cX4_sameEnds 20 = .ok (.invokestatic 34, 3) := by decide +kernel
theorem dX4_sameEnds_23 : decode cX4_sameEnds 23 = .ok (.iload 4, 2) := by decide +kernel
theorem dX4_sameEnds_25 : decode cX4_sameEnds 25 = .ok (.iadd, 1) := by decide +kernel
theorem dX4_sameEnds_26 : decode cX4_sameEnds 26 = .ok (.iaload, 1) := by decide +kernel
theorem dX4_sameEnds_27 : decode cX4_sameEnds 27 = .ok (.aload_n 0, 1) := by decide +kernel
theorem dX4_sameEnds_28 : decode cX4_sameEnds 28 = .ok (.getfield 7, 3) := by decide +kernel
theorem dX4_sameEnds_31 : decode cX4_sameEnds 31 = .ok (.iload_n 2, 1) := by decide +kernel
theorem dX4_sameEnds_32 : decode cX4_sameEnds 32 = .ok (.invokestatic 34, 3) := by decide +kernel
theorem dX4_sameEnds_35 : decode cX4_sameEnds 35 = .ok (.iload 4, 2) := by decide +kernel
theorem dX4_sameEnds_37 : decode cX4_sameEnds 37 = .ok (.iadd, 1) := by decide +kernel
theorem dX4_sameEnds_38 : decode cX4_sameEnds 38 = .ok (.iaload, 1) := by decide +kernel
theorem dX4_sameEnds_39 : decode cX4_sameEnds 39 = .ok (.if_icmp .ne 7, 3) := by decide +kernel
theorem dX4_sameEnds_42 : decode cX4_sameEnds 42 = .ok (.iconst 1, 1) := by decide +kernel
theorem dX4_sameEnds_43 : decode cX4_sameEnds 43 = .ok (.goto 4, 3) := by decide +kernel
theorem dX4_sameEnds_46 : decode cX4_sameEnds 46 = .ok (.iconst 0, 1) := by decide +kernel
theorem dX4_sameEnds_47 : decode cX4_sameEnds 47 = .ok (.istore_n 3, 1) := by decide +kernel
theorem dX4_sameEnds_48 : decode cX4_sameEnds 48 = .ok (.iinc 4 1, 3) := by decide +kernel
theorem dX4_sameEnds_51 : decode cX4_sameEnds 51 = .ok (.goto (-46), 3) := by decide +kernel
theorem dX4_sameEnds_54 : decode cX4_sameEnds 54 = .ok (.iload_n 3, 1) := by decide +kernel
theorem dX4_sameEnds_55 : decode cX4_sameEnds 55 = .ok (.ireturn, 1) := by decide +kernel
set_option maxRecDepth 20000 in
theorem ggX4_sameFromEnd_X4_many : GoodIn wsX4_sameFromEnd wsX4_many := goodIn_r _ [6, 1, 7, 8, 5, 9, 13, 14, 15, 16, 17, 18, 19] (by decide +kernel) (by decide +kernel)
set_option maxRecDepth 20000 in
theorem gX4_sameFromEnd_X4_many : GoodIn wsX4_sameFromEnd (wsV RX4 49 RX4 yX4_many wsX4_many) := goodIn_app (goodIn_of _ (by decide +kernel)) ggX4_sameFromEnd_X4_many
set_option maxRecDepth 20000 in
theorem ggX4_sameFromEnd_X4_at : GoodIn wsX4_sameFromEnd wsX4_at := goodIn_r _ [12, 7, 8, 5, 9] (by decide +kernel) (by decide +kernel)
set_option maxRecDepth 20000 in
theorem gX4_sameFromEnd_X4_at : GoodIn wsX4_sameFromEnd (va_wsS RX4 52 yX4_at wsX4_at) := goodIn_app (goodIn_of _ (by decide +kernel)) ggX4_sameFromEnd_X4_at
theorem dX4_sameFromEnd_0 : decode cX4_sameFromEnd 0 = .ok (.iload_n 1, 1) := by decide +kernel
theorem dX4_sameFromEnd_1 : decode cX4_sameFromEnd 1 = .ok (.aload_n 0, 1) := by decide +kernel
theorem dX4_sameFromEnd_2 : decode cX4_sameFromEnd 2 = .ok (.iload_n 1, 1) := by decide +kernel
theorem dX4_sameFromEnd_3 : decode cX4_sameFromEnd 3 = .ok (.invokevirtual 49, 3) := by decide +kernel
theorem dX4_sameFromEnd_6 : decode cX4_sameFromEnd 6 = .ok (.iload_n 3, 1) := by decide +kernel
theorem dX4_sameFromEnd_7 : decode cX4_sameFromEnd 7 = .ok (.isub, 1) := by decide +kernel
theorem dX4_sameFromEnd_8 : decode cX4_sameFromEnd 8 = .ok (.invokestatic 52, 3) := by decide +kernel
theorem dX4_sameFromEnd_11 : decode cX4_sameFromEnd 11 = .ok (.istore 4, 2) := by decide +kernel
theorem dX4_sameFromEnd_13 : decode cX4_sameFromEnd 13 = .ok (.iload_n 2, 1) := by decide +kernel
theorem dX4_sameFromEnd_14 : decode cX4_sameFromEnd 14 = .ok (.aload_n 0, 1) := by decide +kernel
theorem dX4_sameFromEnd_15 : decode cX4_sameFromEnd 15 = .ok (.iload_n 2, 1) := by decide +kernel
theorem dX4_sameFromEnd_16 : decode cX4_sameFromEnd 16 = .ok (.invokevirtual 49, 3) := by decide +kernel
theorem dX4_sameFromEnd_19 : decode cX4_sameFromEnd 19 = .ok (.iload_n 3, 1) := by decide +kernel
theorem dX4_sameFromEnd_20 : decode cX4_sameFromEnd 20 = .ok (.isub, 1) := by decide +kernel
theorem dX4_sameFromEnd_21 : decode cX4_sameFromEnd 21 = .ok (.invokestatic 52, 3) := by decide +kernel
theorem dX4_sameFromEnd_24 : decode cX4_sameFromEnd 24 = .ok (.istore 5, 2) := by decide +kernel
theorem dX4_sameFromEnd_26 : decode cX4_sameFromEnd 26 = .ok (.iconst 1, 1) := by decide +kernel
theorem dX4_sameFromEnd_27 : decode cX4_sameFromEnd 27 = .ok (.istore 6, 2) := by decide +kernel
theorem dX4_sameFromEnd_29 : decode cX4_sameFromEnd 29 = .ok (.iconst 0, 1) := by decide +kernel
theorem dX4_sameFromEnd_30 : decode cX4_sameFromEnd 30 = .ok (.istore 7, 2) := by decide +kernel
theorem dX4_sameFromEnd_32 : decode cX4_sameFromEnd 32 = .ok (.iload 7, 2) := by decide +kernel
theorem dX4_sameFromEnd_34 : decode cX4_sameFromEnd 34 = .ok (.iconst 4, 1) := by decide +kernel
theorem dX4_sameFromEnd_35 : decode cX4_sameFromEnd 35 = .ok (.if_icmp .ge 44, 3) := by decide +kernel
theorem dX4_sameFromEnd_38 : decode cX4_sameFromEnd 38 = .ok (.iload 6, 2) := by decide +kernel
theorem dX4_sameFromEnd_40 : decode cX4_sameFromEnd 40 = .ok (.ifCond .eq 30, 3) := by decide +kernel
theorem dX4_sameFromEnd_43 : decode cX4_sameFromEnd 43 = .ok (.aload_n 0, 1) := by decide +kernel
theorem dX4_sameFromEnd_44 : decode cX4_sameFromEnd 44 = .ok (.getfield 7, 3) := by decide +kernel
theorem dX4_sameFromEnd_47 : decode cX4_sameFromEnd 47 = .ok (.iload 4, 2) := by decide +kernel
theorem dX4_sameFromEnd_49 : decode cX4_sameFromEnd 49 = .ok (.iload 7, 2) := by decide +kernel
theorem dX4_sameFromEnd_51 : decode cX4_sameFromEnd 51 = .ok (.iadd, 1) := by decide +kernel
theorem dX4_sameFromEnd_52 : decode cX4_sameFromEnd 52 = .ok (.iaload, 1) := by decide +kernel
theorem dX4_sameFromEnd_53 : decode cX4_sameFromEnd 53 = .ok (.aload_n 0, 1) := by decide +kernel
theorem dX4_sameFromEnd_54 : decode cX4_sameFromEnd 54 = .ok (.getfield 7, 3) := by decide +kernel
theorem dX4_sameFromEnd_57 : decode cX4_sameFromEnd 57 = .ok (.iload 5, 2) := by decide +kernel
theorem dX4_sameFromEnd_59 : decode cX4_sameFromEnd 59 = .ok (.iload 7, 2) := by decide +kernel
theorem dX4_sameFromEnd_61 : decode cX4_sameFromEnd 61 = .ok (.iadd, 1) := by decide +kernel
theorem dX4_sameFromEnd_62 : decode cX4_sameFromEnd 62 = .ok (.iaload, 1) := by decide +kernel
theorem dX4_sameFromEnd_63 : decode cX4_sameFromEnd 63 = .ok (.if_icmp .ne 7, 3) := by decide +kernel
theorem dX4_sameFromEnd_66 : decode cX4_sameFromEnd 66 = .ok (.iconst 1, 1) := by decide +kernel
theorem dX4_sameFromEnd_67 : decode cX4_sameFromEnd 67 = .ok (.goto 4, 3) := by decide +kernel
theorem dX4_sameFromEnd_70 : decode cX4_sameFromEnd 70 = .ok (.iconst 0, 1) := by decide +kernel
theorem dX4_sameFromEnd_71 : decode cX4_sameFromEnd 71 = .ok (.istore 6, 2) := by decide +kernel
theorem dX4_sameFromEnd_73 : decode cX4_sameFromEnd 73 = .ok (.iinc 7 1, 3) := by decide +kernel
theorem dX4_sameFromEnd_76 : decode cX4_sameFromEnd 76 = .ok (.goto (-44), 3) := by decide +kernel
theorem dX4_sameFromEnd_79 : decode cX4_sameFromEnd 79 = .ok (.iload 6, 2) := by decide +kernel
theorem dX4_sameFromEnd_81 : decode cX4_sameFromEnd 81 = .ok (.ireturn, 1) := by decide +kernel
set_option maxRecDepth 20000 in
theorem ggX4_tailOfTwo_X4_sameEnds : GoodIn wsX4_tailOfTwo wsX4_sameEnds := goodIn_r _ [5, 6, 7, 8, 4, 9, 10, 11, 12, 24, 25, 26, 27, 28, 29, 30] (by decide +kernel) (by decide +kernel)
set_option maxRecDepth 20000 in
theorem gX4_tailOfTwo_X4_sameEnds : GoodIn wsX4_tailOfTwo (wsV RX4 72 RX4 yX4_sameEnds wsX4_sameEnds) := goodIn_app (goodIn_of _ (by decide +kernel)) ggX4_tailOfTwo_X4_sameEnds
set_option maxRecDepth 20000 in
theorem ggX4_tailOfTwo_X4_many : GoodIn wsX4_tailOfTwo wsX4_many := goodIn_r _ [16, 6, 10, 11, 4, 12, 24, 25, 26, 27, 28, 29, 30] (by decide +kernel) (by decide +kernel)
set_option maxRecDepth 20000 in
theorem gX4_tailOfTwo_X4_many : GoodIn wsX4_tailOfTwo (wsV RX4 49 RX4 yX4_many wsX4_many) := goodIn_app (goodIn_of _ (by decide +kernel)) ggX4_tailOfTwo_X4_many
set_option maxRecDepth 20000 in
theorem ggX4_tailOfTwo_X4_sameFromEnd : GoodIn wsX4_tailOfTwo wsX4_sameFromEnd := goodIn_r _ [20, 6, 13, 14, 15, 4, 16, 10, 11, 12, 21, 22, 23, 24, 25, 26, 27, 28, 29, 30] (by decide +kernel) (by decide +kernel)
set_option maxRecDepth 20000 in
theorem gX4_tailOfTwo_X4_sameFromEnd : GoodIn wsX4_tailOfTwo (wsV RX4 76 RX4 yX4_sameFromEnd wsX4_sameFromEnd) := goodIn_app (goodIn_of _ (by decide +kernel)) ggX4_tailOfTwo_X4_sameFromEnd
theorem dX4_tailOfTwo_0 : decode cX4_tailOfTwo 0 = .ok (.aload_n 0, 1) := by decide +kernel
theorem dX4_tailOfTwo_1 : decode cX4_tailOfTwo 1 = .ok (.iload_n 1, 1) := by decide +kernel
theorem dX4_tailOfTwo_2 : decode cX4_tailOfTwo 2 = .ok (.iload_n 2, 1) := by decide +kernel
theorem dX4_tailOfTwo_3 : decode cX4_tailOfTwo 3 = .ok (.invokevirtual 72, 3) := by decide +kernel
theorem dX4_tailOfTwo_6 : decode cX4_tailOfTwo 6 = .ok (.ifCond .ne 7, 3) := by decide +kernel
theorem dX4_tailOfTwo_9 : decode cX4_tailOfTwo 9 = .ok (.sipush (-1005), 3) := by decide +kernel
theorem dX4_tailOfTwo_12 : decode cX4_tailOfTwo 12 = .ok (.ireturn, 1) := by decide +kernel
theorem dX4_tailOfTwo_13 : decode cX4_tailOfTwo 13 = .ok (.iconst 0, 1) := by decide +kernel
theorem dX4_tailOfTwo_14 : decode cX4_tailOfTwo 14 = .ok (.istore_n 3, 1) := by decide +kernel
theorem dX4_tailOfTwo_15 : decode cX4_tailOfTwo 15 = .ok (.iload_n 3, 1) := by decide +kernel
theorem dX4_tailOfTwo_16 : decode cX4_tailOfTwo 16 = .ok (.aload_n 0, 1) := by decide +kernel
theorem dX4_tailOfTwo_17 : decode cX4_tailOfTwo 17 = .ok (.iload_n 1, 1) := by decide +kernel
theorem dX4_tailOfTwo_18 : decode cX4_tailOfTwo 18 = .ok (.invokevirtual 49, 3) := by decide +kernel
theorem dX4_tailOfTwo_21 : decode cX4_tailOfTwo 21 = .ok (.if_icmp .ge 30, 3) := by decide +kernel
theorem dX4_tailOfTwo_24 : decode cX4_tailOfTwo 24 = .ok (.iload_n 3, 1) := by decide +kernel
theorem dX4_tailOfTwo_25 : decode cX4_tailOfTwo 25 = .ok (.aload_n 0, 1) := by decide +kernel
theorem dX4_tailOfTwo_26 : decode cX4_tailOfTwo 26 = .ok (.iload_n 2, 1) := by decide +kernel
theorem dX4_tailOfTwo_27 : decode cX4_tailOfTwo 27 = .ok (.invokevirtual 49, 3) := by decide +kernel
theorem dX4_tailOfTwo_30 : decode cX4_tailOfTwo 30 = .ok (.if_icmp .ge 21, 3) := by decide +kernel
theorem dX4_tailOfTwo_33 : decode cX4_tailOfTwo 33 = .ok (.aload_n 0, 1) := by decide +kernel
theorem dX4_tailOfTwo_34 : decode cX4_tailOfTwo 34 = .ok (.iload_n 1, 1) := by decide +kernel
theorem dX4_tailOfTwo_35 : decode cX4_tailOfTwo 35 = .ok (.iload_n 2, 1) := by decide +kernel
theorem dX4_tailOfTwo_36 : decode cX4_tailOfTwo 36 = .ok (.iload_n 3, 1) := by decide +kernel
theorem dX4_tailOfTwo_37 : decode cX4_tailOfTwo 37 = .ok (.iconst 1, 1) := by decide +kernel
theorem dX4_tailOfTwo_38 : decode cX4_tailOfTwo 38 = .ok (.iadd, 1) := by decide +kernel
theorem dX4_tailOfTwo_39 : decode cX4_tailOfTwo 39 = .ok (.invokevirtual 76, 3) := by decide +kernel
theorem dX4_tailOfTwo_42 : decode cX4_tailOfTwo 42 = .ok (.ifCond .eq 9, 3) := by decide +kernel
theorem dX4_tailOfTwo_45 : decode cX4_tailOfTwo 45 = .ok (.iinc 3 1, 3) := by decide +kernel
theorem dX4_tailOfTwo_48 : decode cX4_tailOfTwo 48 = .ok (.goto (-33), 3) := by decide +kernel
theorem dX4_tailOfTwo_51 : decode cX4_tailOfTwo 51 = .ok (.iload_n 3, 1) := by decide +kernel
theorem dX4_tailOfTwo_52 : decode cX4_tailOfTwo 52 = .ok (.ireturn, 1) := by decide +kernel
set_option maxRecDepth 20000 in
theorem ggX4_wrongPair_X4_isBlock : GoodIn wsX4_wrongPair wsX4_isBlock := goodIn_r _ [5, 6, 7, 8, 4, 9, 10, 11, 12, 13, 14, 15, 16] (by decide +kernel) (by decide +kernel)
set_option maxRecDepth 20000 in
theorem gX4_wrongPair_X4_isBlock : GoodIn wsX4_wrongPair (wsV RX4 56 RX4 yX4_isBlock wsX4_isBlock) := goodIn_app (goodIn_of _ (by decide +kernel)) ggX4_wrongPair_X4_isBlock
theorem dX4_wrongPair_0 : decode cX4_wrongPair 0 = .ok (.aload_n 0, 1) := by decide +kernel
theorem dX4_wrongPair_1 : decode cX4_wrongPair 1 = .ok (.iload_n 1, 1) := by decide +kernel
theorem dX4_wrongPair_2 : decode cX4_wrongPair 2 = .ok (.invokevirtual 56, 3) := by decide +kernel
theorem dX4_wrongPair_5 : decode cX4_wrongPair 5 = .ok (.ifCond .eq 11, 3) := by decide +kernel
theorem dX4_wrongPair_8 : decode cX4_wrongPair 8 = .ok (.aload_n 0, 1) := by decide +kernel
theorem dX4_wrongPair_9 : decode cX4_wrongPair 9 = .ok (.iload_n 2, 1) := by decide +kernel
theorem dX4_wrongPair_10 : decode cX4_wrongPair 10 = .ok (.invokevirtual 56, 3) := by decide +kernel
theorem dX4_wrongPair_13 : decode cX4_wrongPair 13 = .ok (.ifCond .ne 9, 3) := by decide +kernel
theorem dX4_wrongPair_16 : decode cX4_wrongPair 16 = .ok (.sipush (-1001), 3) := by decide +kernel
theorem dX4_wrongPair_19 : decode cX4_wrongPair 19 = .ok (.goto 15, 3) := by decide +kernel
theorem dX4_wrongPair_22 : decode cX4_wrongPair 22 = .ok (.iload_n 1, 1) := by decide +kernel
theorem dX4_wrongPair_23 : decode cX4_wrongPair 23 = .ok (.iload_n 2, 1) := by decide +kernel
theorem dX4_wrongPair_24 : decode cX4_wrongPair 24 = .ok (.if_icmp .ne 9, 3) := by decide +kernel
theorem dX4_wrongPair_27 : decode cX4_wrongPair 27 = .ok (.sipush (-1003), 3) := by decide +kernel
theorem dX4_wrongPair_30 : decode cX4_wrongPair 30 = .ok (.goto 4, 3) := by decide +kernel
theorem dX4_wrongPair_33 : decode cX4_wrongPair 33 = .ok (.iconst 0, 1) := by decide +kernel
theorem dX4_wrongPair_34 : decode cX4_wrongPair 34 = .ok (.ireturn, 1) := by decide +kernel
set_option maxRecDepth 20000 in
theorem ggX4_commonTail_X4_wrongPair : GoodIn wsX4_commonTail wsX4_wrongPair := goodIn_r _ [5, 6, 7, 8, 4, 9, 10, 11, 12, 13, 39, 40, 41, 42, 43, 44, 45] (by decide +kernel) (by decide +kernel)
set_option maxRecDepth 20000 in
theorem gX4_commonTail_X4_wrongPair : GoodIn wsX4_commonTail (wsV RX4 79 RX4 yX4_wrongPair wsX4_wrongPair) := goodIn_app (goodIn_of _ (by decide +kernel)) ggX4_commonTail_X4_wrongPair
set_option maxRecDepth 20000 in
theorem ggX4_commonTail_X4_tailOfTwo : GoodIn wsX4_commonTail wsX4_tailOfTwo := goodIn_r _ [17, 18, 19, 20, 4, 21, 10, 22, 23, 24, 25, 26, 27, 28, 29, 30, 31, 32, 33, 34, 35, 36, 37, 38, 39, 40, 41, 42, 43, 44, 45] (by decide +kernel) (by decide +kernel)
set_option maxRecDepth 20000 in
theorem gX4_commonTail_X4_tailOfTwo : GoodIn wsX4_commonTail (wsV RX4 82 RX4 yX4_tailOfTwo wsX4_tailOfTwo) := goodIn_app (goodIn_of _ (by decide +kernel)) ggX4_commonTail_X4_tailOfTwo
theorem dX4_commonTail_0 : decode cX4_commonTail 0 = .ok (.aload_n 0, 1) := by decide +kernel
theorem dX4_commonTail_1 : decode cX4_commonTail 1 = .ok (.iload_n 1, 1) := by decide +kernel
theorem dX4_commonTail_2 : decode cX4_commonTail 2 = .ok (.iload_n 2, 1) := by decide +kernel
theorem dX4_commonTail_3 : decode cX4_commonTail 3 = .ok (.invokevirtual 79, 3) := by decide +kernel
theorem dX4_commonTail_6 : decode cX4_commonTail 6 = .ok (.istore_n 3, 1) := by decide +kernel
theorem dX4_commonTail_7 : decode cX4_commonTail 7 = .ok (.iload_n 3, 1) := by decide +kernel
theorem dX4_commonTail_8 : decode cX4_commonTail 8 = .ok (.ifCond .eq 7, 3) := by decide +kernel
theorem dX4_commonTail_11 : decode cX4_commonTail 11 = .ok (.iload_n 3, 1) := by decide +kernel
theorem dX4_commonTail_12 : decode cX4_commonTail 12 = .ok (.goto 9, 3) := by decide +kernel
theorem dX4_commonTail_15 : decode cX4_commonTail 15 = .ok (.aload_n 0, 1) := by decide +kernel
theorem dX4_commonTail_16 : decode cX4_commonTail 16 = .ok (.iload_n 1, 1) := by decide +kernel
theorem dX4_commonTail_17 : decode cX4_commonTail 17 = .ok (.iload_n 2, 1) := by decide +kernel
theorem dX4_commonTail_18 : decode cX4_commonTail 18 = .ok (.invokevirtual 82, 3) := by decide +kernel
theorem dX4_commonTail_21 : decode cX4_commonTail 21 = .ok (.ireturn, 1) := by decide +kernel
set_option maxRecDepth 20000 in
theorem ggX4_uses7_X4_many : GoodIn wsX4_uses7 wsX4_many := goodIn_r _ [6, 1, 7, 8, 5, 9, 13, 14, 15, 16, 17, 18, 19] (by decide +kernel) (by decide +kernel)
set_option maxRecDepth 20000 in
theorem gX4_uses7_X4_many : GoodIn wsX4_uses7 (wsV RX4 49 RX4 yX4_many wsX4_many) := goodIn_app (goodIn_of _ (by decide +kernel)) ggX4_uses7_X4_many
set_option maxRecDepth 20000 in
theorem ggX4_uses7_X4_at : GoodIn wsX4_uses7 wsX4_at := goodIn_r _ [12, 7, 8, 5, 9] (by decide +kernel) (by decide +kernel)
set_option maxRecDepth 20000 in
theorem gX4_uses7_X4_at : GoodIn wsX4_uses7 (va_wsS RX4 52 yX4_at wsX4_at) := goodIn_app (goodIn_of _ (by decide +kernel)) ggX4_uses7_X4_at
theorem dX4_uses7_0 : decode cX4_uses7 0 = .ok (.iload_n 1, 1) := by decide +kernel
theorem dX4_uses7_1 : decode cX4_uses7 1 = .ok (.aload_n 0, 1) := by decide +kernel
theorem dX4_uses7_2 : decode cX4_uses7 2 = .ok (.iload_n 1, 1) := by decide +kernel
theorem dX4_uses7_3 : decode cX4_uses7 3 = .ok (.invokevirtual 49, 3) := by decide +kernel
theorem dX4_uses7_6 : decode cX4_uses7 6 = .ok (.iload_n 2, 1) := by decide +kernel
theorem dX4_uses7_7 : decode cX4_uses7 7 = .ok (.isub, 1) := by decide +kernel
theorem dX4_uses7_8 : decode cX4_uses7 8 = .ok (.invokestatic 52, 3) := by decide +kernel
theorem dX4_uses7_11 : decode cX4_uses7 11 = .ok (.istore_n 3, 1) := by decide +kernel
theorem dX4_uses7_12 : decode cX4_uses7 12 = .ok (.aload_n 0, 1) := by decide +kernel
theorem dX4_uses7_13 : decode cX4_uses7 13 = .ok (.getfield 7, 3) := by decide +kernel
theorem dX4_uses7_16 : decode cX4_uses7 16 = .ok (.iload_n 3, 1) := by decide +kernel
theorem dX4_uses7_17 : decode cX4_uses7 17 = .ok (.iaload, 1) := by decide +kernel
theorem dX4_uses7_18 : decode cX4_uses7 18 = .ok (.istore 4, 2) := by decide +kernel
theorem dX4_uses7_20 : decode cX4_uses7 20 = .ok (.iload 4, 2) := by decide +kernel
theorem dX4_uses7_22 : decode cX4_uses7 22 = .ok (.bipush 6, 2) := by decide +kernel
theorem dX4_uses7_24 : decode cX4_uses7 24 = .ok (.if_icmp .eq 20, 3) := by decide +kernel
theorem dX4_uses7_27 : decode cX4_uses7 27 = .ok (.aload_n 0, 1) := by decide +kernel
theorem dX4_uses7_28 : decode cX4_uses7 28 = .ok (.getfield 7, 3) := by decide +kernel
theorem dX4_uses7_31 : decode cX4_uses7 31 = .ok (.iload_n 3, 1) := by decide +kernel
theorem dX4_uses7_32 : decode cX4_uses7 32 = .ok (.iconst 1, 1) := by decide +kernel
theorem dX4_uses7_33 : decode cX4_uses7 33 = .ok (.iadd, 1) := by decide +kernel
theorem dX4_uses7_34 : decode cX4_uses7 34 = .ok (.iaload, 1) := by decide +kernel
theorem dX4_uses7_35 : decode cX4_uses7 35 = .ok (.bipush 7, 2) := by decide +kernel
theorem dX4_uses7_37 : decode cX4_uses7 37 = .ok (.if_icmp .ne 7, 3) := by decide +kernel
theorem dX4_uses7_40 : decode cX4_uses7 40 = .ok (.iconst 1, 1) := by decide +kernel
theorem dX4_uses7_41 : decode cX4_uses7 41 = .ok (.goto 4, 3) := by decide +kernel
theorem dX4_uses7_44 : decode cX4_uses7 44 = .ok (.iconst 0, 1) := by decide +kernel
theorem dX4_uses7_45 : decode cX4_uses7 45 = .ok (.istore 5, 2) := by decide +kernel
theorem dX4_uses7_47 : decode cX4_uses7 47 = .ok (.iload 4, 2) := by decide +kernel
theorem dX4_uses7_49 : decode cX4_uses7 49 = .ok (.ifCond .eq 20, 3) := by decide +kernel
theorem dX4_uses7_52 : decode cX4_uses7 52 = .ok (.aload_n 0, 1) := by decide +kernel
theorem dX4_uses7_53 : decode cX4_uses7 53 = .ok (.getfield 7, 3) := by decide +kernel
theorem dX4_uses7_56 : decode cX4_uses7 56 = .ok (.iload_n 3, 1) := by decide +kernel
theorem dX4_uses7_57 : decode cX4_uses7 57 = .ok (.iconst 2, 1) := by decide +kernel
theorem dX4_uses7_58 : decode cX4_uses7 58 = .ok (.iadd, 1) := by decide +kernel
theorem dX4_uses7_59 : decode cX4_uses7 59 = .ok (.iaload, 1) := by decide +kernel
theorem dX4_uses7_60 : decode cX4_uses7 60 = .ok (.bipush 7, 2) := by decide +kernel
theorem dX4_uses7_62 : decode cX4_uses7 62 = .ok (.if_icmp .ne 7, 3) := by decide +kernel
theorem dX4_uses7_65 : decode cX4_uses7 65 = .ok (.iconst 1, 1) := by decide +kernel
theorem dX4_uses7_66 : decode cX4_uses7 66 = .ok (.goto 4, 3) := by decide +kernel
theorem dX4_uses7_69 : decode cX4_uses7 69 = .ok (.iconst 0, 1) := by decide +kernel
theorem dX4_uses7_70 : decode cX4_uses7 70 = .ok (.istore 6, 2) := by decide +kernel
theorem dX4_uses7_72 : decode cX4_uses7 72 = .ok (.iload 4, 2) := by decide +kernel
theorem dX4_uses7_74 : decode cX4_uses7 74 = .ok (.iconst 2, 1) := by decide +kernel
theorem dX4_uses7_75 : decode cX4_uses7 75 = .ok (.if_icmp .lt 26, 3) := by decide +kernel
theorem dX4_uses7_78 : decode cX4_uses7 78 = .ok (.iload 4, 2) := by decide +kernel
theorem dX4_uses7_80 : decode cX4_uses7 80 = .ok (.iconst 5, 1) := by decide +kernel
theorem dX4_uses7_81 : decode cX4_uses7 81 = .ok (.if_icmp .gt 20, 3) := by decide +kernel
theorem dX4_uses7_84 : decode cX4_uses7 84 = .ok (.aload_n 0, 1) := by decide +kernel
theorem dX4_uses7_85 : decode cX4_uses7 85 = .ok (.getfield 7, 3) := by decide +kernel
theorem dX4_uses7_88 : decode cX4_uses7 88 = .ok (.iload_n 3, 1) := by decide +kernel
theorem dX4_uses7_89 : decode cX4_uses7 89 = .ok (.iconst 3, 1) := by decide +kernel
theorem dX4_uses7_90 : decode cX4_uses7 90 = .ok (.iadd, 1) := by decide +kernel
theorem dX4_uses7_91 : decode cX4_uses7 91 = .ok (.iaload, 1) := by decide +kernel
theorem dX4_uses7_92 : decode cX4_uses7 92 = .ok (.bipush 7, 2) := by decide +kernel
theorem dX4_uses7_94 : decode cX4_uses7 94 = .ok (.if_icmp .ne 7, 3) := by decide +kernel
theorem dX4_uses7_97 : decode cX4_uses7 97 = .ok (.iconst 1, 1) := by decide +kernel
theorem dX4_uses7_98 : decode cX4_uses7 98 = .ok (.goto 4, 3) := by decide +kernel
theorem dX4_uses7_101 : decode cX4_uses7 101 = .ok (.iconst 0, 1) := by decide +kernel
theorem dX4_uses7_102 : decode cX4_uses7 102 = .ok (.istore 7, 2) := by decide +kernel
theorem dX4_uses7_104 : decode cX4_uses7 104 = .ok (.iload 5, 2) := by decide +kernel
theorem dX4_uses7_106 : decode cX4_uses7 106 = .ok (.ifCond .ne 13, 3) := by decide +kernel
theorem dX4_uses7_109 : decode cX4_uses7 109 = .ok (.iload 6, 2) := by decide +kernel
theorem dX4_uses7_111 : decode cX4_uses7 111 = .ok (.ifCond .ne 8, 3) := by decide +kernel
theorem dX4_uses7_114 : decode cX4_uses7 114 = .ok (.iload 7, 2) := by decide +kernel
theorem dX4_uses7_116 : decode cX4_uses7 116 = .ok (.ifCond .eq 7, 3) := by decide +kernel
theorem dX4_uses7_119 : decode cX4_uses7 119 = .ok (.iconst 1, 1) := by decide +kernel
theorem dX4_uses7_120 : decode cX4_uses7 120 = .ok (.goto 4, 3) := by decide +kernel
theorem dX4_uses7_123 : decode cX4_uses7 123 = .ok (.iconst 0, 1) := by decide +kernel
theorem dX4_uses7_124 : decode cX4_uses7 124 = .ok (.ireturn, 1) := by decide +kernel
set_option maxRecDepth 20000 in
theorem ggX4_canDiffer_X4_many : GoodIn wsX4_canDiffer wsX4_many := goodIn_r _ [6, 1, 7, 8, 5, 9, 13, 14, 15, 16, 17, 18, 19] (by decide +kernel) (by decide +kernel)
set_option maxRecDepth 20000 in
theorem gX4_canDiffer_X4_many : GoodIn wsX4_canDiffer (wsV RX4 49 RX4 yX4_many wsX4_many) := goodIn_app (goodIn_of _ (by decide +kernel)) ggX4_canDiffer_X4_many
set_option maxRecDepth 20000 in
theorem ggX4_canDiffer_X4_at : GoodIn wsX4_canDiffer wsX4_at := goodIn_r _ [12, 7, 8, 5, 9] (by decide +kernel) (by decide +kernel)
set_option maxRecDepth 20000 in
theorem gX4_canDiffer_X4_at : GoodIn wsX4_canDiffer (va_wsS RX4 52 yX4_at wsX4_at) := goodIn_app (goodIn_of _ (by decide +kernel)) ggX4_canDiffer_X4_at
theorem dX4_canDiffer_0 : decode cX4_canDiffer 0 = .ok (.iload_n 1, 1) := by decide +kernel
theorem dX4_canDiffer_1 : decode cX4_canDiffer 1 = .ok (.aload_n 0, 1) := by decide +kernel
theorem dX4_canDiffer_2 : decode cX4_canDiffer 2 = .ok (.iload_n 1, 1) := by decide +kernel
theorem dX4_canDiffer_3 : decode cX4_canDiffer 3 = .ok (.invokevirtual 49, 3) := by decide +kernel
theorem dX4_canDiffer_6 : decode cX4_canDiffer 6 = .ok (.iload_n 3, 1) := by decide +kernel
theorem dX4_canDiffer_7 : decode cX4_canDiffer 7 = .ok (.isub, 1) := by decide +kernel
theorem dX4_canDiffer_8 : decode cX4_canDiffer 8 = .ok (.invokestatic 52, 3) := by decide +kernel
theorem dX4_canDiffer_11 : decode cX4_canDiffer 11 = .ok (.istore 4, 2) := by decide +kernel
theorem dX4_canDiffer_13 : decode cX4_canDiffer 13 = .ok (.iload_n 2, 1) := by decide +kernel
theorem dX4_canDiffer_14 : decode cX4_canDiffer 14 = .ok (.aload_n 0, 1) := by decide +kernel
theorem dX4_canDiffer_15 : decode cX4_canDiffer 15 = .ok (.iload_n 2, 1) := by decide +kernel
theorem dX4_canDiffer_16 : decode cX4_canDiffer 16 = .ok (.invokevirtual 49, 3) := by decide +kernel
theorem dX4_canDiffer_19 : decode cX4_canDiffer 19 = .ok (.iload_n 3, 1) := by decide +kernel
theorem dX4_canDiffer_20 : decode cX4_canDiffer 20 = .ok (.isub, 1) := by decide +kernel
theorem dX4_canDiffer_21 : decode cX4_canDiffer 21 = .ok (.invokestatic 52, 3) := by decide +kernel
theorem dX4_canDiffer_24 : decode cX4_canDiffer 24 = .ok (.istore 5, 2) := by decide +kernel
theorem dX4_canDiffer_26 : decode cX4_canDiffer 26 = .ok (.aload_n 0, 1) := by decide +kernel
theorem dX4_canDiffer_27 : decode cX4_canDiffer 27 = .ok (.getfield 7, 3) := by decide +kernel
theorem dX4_canDiffer_30 : decode cX4_canDiffer 30 = .ok (.iload 4, 2) := by decide +kernel
theorem dX4_canDiffer_32 : decode cX4_canDiffer 32 = .ok (.iaload, 1) := by decide +kernel
theorem dX4_canDiffer_33 : decode cX4_canDiffer 33 = .ok (.ifCond .ne 38, 3) := by decide +kernel
theorem dX4_canDiffer_36 : decode cX4_canDiffer 36 = .ok (.aload_n 0, 1) := by decide +kernel
theorem dX4_canDiffer_37 : decode cX4_canDiffer 37 = .ok (.getfield 7, 3) := by decide +kernel
theorem dX4_canDiffer_40 : decode cX4_canDiffer 40 = .ok (.iload 5, 2) := by decide +kernel
theorem dX4_canDiffer_42 : decode cX4_canDiffer 42 = .ok (.iaload, 1) := by decide +kernel
theorem dX4_canDiffer_43 : decode cX4_canDiffer 43 = .ok (.ifCond .ne 28, 3) := by decide +kernel
theorem dX4_canDiffer_46 : decode cX4_canDiffer 46 = .ok (.aload_n 0, 1) := by decide +kernel
theorem dX4_canDiffer_47 : decode cX4_canDiffer 47 = .ok (.getfield 7, 3) := by decide +kernel
theorem dX4_canDiffer_50 : decode cX4_canDiffer 50 = .ok (.iload 4, 2) := by decide +kernel
theorem dX4_canDiffer_52 : decode cX4_canDiffer 52 = .ok (.iconst 1, 1) := by decide +kernel
theorem dX4_canDiffer_53 : decode cX4_canDiffer 53 = .ok (.iadd, 1) := by decide +kernel
theorem dX4_canDiffer_54 : decode cX4_canDiffer 54 = .ok (.iaload, 1) := by decide +kernel
theorem dX4_canDiffer_55 : decode cX4_canDiffer 55 = .ok (.aload_n 0, 1) := by decide +kernel
theorem dX4_canDiffer_56 : decode cX4_canDiffer 56 = .ok (.getfield 7, 3) := by decide +kernel
theorem dX4_canDiffer_59 : decode cX4_canDiffer 59 = .ok (.iload 5, 2) := by decide +kernel
theorem dX4_canDiffer_61 : decode cX4_canDiffer 61 = .ok (.iconst 1, 1) := by decide +kernel
theorem dX4_canDiffer_62 : decode cX4_canDiffer 62 = .ok (.iadd, 1) := by decide +kernel
theorem dX4_canDiffer_63 : decode cX4_canDiffer 63 = .ok (.iaload, 1) := by decide +kernel
theorem dX4_canDiffer_64 : decode cX4_canDiffer 64 = .ok (.if_icmp .ne 7, 3) := by decide +kernel
theorem dX4_canDiffer_67 : decode cX4_canDiffer 67 = .ok (.iconst 1, 1) := by decide +kernel
theorem dX4_canDiffer_68 : decode cX4_canDiffer 68 = .ok (.goto 4, 3) := by decide +kernel
theorem dX4_canDiffer_71 : decode cX4_canDiffer 71 = .ok (.iconst 0, 1) := by decide +kernel
theorem dX4_canDiffer_72 : decode cX4_canDiffer 72 = .ok (.ireturn, 1) := by decide +kernel
set_option maxRecDepth 20000 in
theorem ggX4_parameterLength_X4_sameEnds : GoodIn wsX4_parameterLength wsX4_sameEnds := goodIn_r _ [7, 1, 8, 9, 6, 10, 11, 12, 13, 33, 34, 35, 36, 37, 38, 39] (by decide +kernel) (by decide +kernel)
set_option maxRecDepth 20000 in
theorem gX4_parameterLength_X4_sameEnds : GoodIn wsX4_parameterLength (wsV RX4 72 RX4 yX4_sameEnds wsX4_sameEnds) := goodIn_app (goodIn_of _ (by decide +kernel)) ggX4_parameterLength_X4_sameEnds
set_option maxRecDepth 20000 in
theorem ggX4_parameterLength_X4_end : GoodIn wsX4_parameterLength wsX4_end := goodIn_r _ [10, 11, 12, 6, 13] (by decide +kernel) (by decide +kernel)
set_option maxRecDepth 20000 in
theorem gX4_parameterLength_X4_end : GoodIn wsX4_parameterLength (va_wsS RX4 34 yX4_end wsX4_end) := goodIn_app (goodIn_of _ (by decide +kernel)) ggX4_parameterLength_X4_end
set_option maxRecDepth 20000 in
theorem ggX4_parameterLength_X4_many : GoodIn wsX4_parameterLength wsX4_many := goodIn_r _ [17, 1, 11, 12, 6, 13, 33, 34, 35, 36, 37, 38, 39] (by decide +kernel) (by decide +kernel)
set_option maxRecDepth 20000 in
theorem gX4_parameterLength_X4_many : GoodIn wsX4_parameterLength (wsV RX4 49 RX4 yX4_many wsX4_many) := goodIn_app (goodIn_of _ (by decide +kernel)) ggX4_parameterLength_X4_many
set_option maxRecDepth 20000 in
theorem ggX4_parameterLength_X4_uses7 : GoodIn wsX4_parameterLength wsX4_uses7 := goodIn_r _ [21, 1, 14, 15, 16, 6, 17, 11, 12, 13, 22, 23, 24, 33, 34, 35, 36, 37, 38, 39] (by decide +kernel) (by decide +kernel)
set_option maxRecDepth 20000 in
theorem gX4_parameterLength_X4_uses7 : GoodIn wsX4_parameterLength (wsV RX4 85 RX4 yX4_uses7 wsX4_uses7) := goodIn_app (goodIn_of _ (by decide +kernel)) ggX4_parameterLength_X4_uses7
set_option maxRecDepth 20000 in
theorem ggX4_parameterLength_X4_sameFromEnd : GoodIn wsX4_parameterLength wsX4_sameFromEnd := goodIn_r _ [28, 1, 14, 15, 16, 6, 17, 11, 12, 13, 22, 23, 24, 33, 34, 35, 36, 37, 38, 39] (by decide +kernel) (by decide +kernel)
set_option maxRecDepth 20000 in
theorem gX4_parameterLength_X4_sameFromEnd : GoodIn wsX4_parameterLength (wsV RX4 76 RX4 yX4_sameFromEnd wsX4_sameFromEnd) := goodIn_app (goodIn_of _ (by decide +kernel)) ggX4_parameterLength_X4_sameFromEnd
set_option maxRecDepth 20000 in
theorem ggX4_parameterLength_X4_canDiffer : GoodIn wsX4_parameterLength wsX4_canDiffer := goodIn_r _ [32, 1, 14, 15, 16, 6, 17, 11, 12, 13, 22, 23, 24, 33, 34, 35, 36, 37, 38, 39] (by decide +kernel) (by decide +kernel)
set_option maxRecDepth 20000 in
theorem gX4_parameterLength_X4_canDiffer : GoodIn wsX4_parameterLength (wsV RX4 92 RX4 yX4_canDiffer wsX4_canDiffer) := goodIn_app (goodIn_of _ (by decide +kernel)) ggX4_parameterLength_X4_canDiffer
theorem dX4_parameterLength_0 : decode cX4_parameterLength 0 = .ok (.aload_n 0, 1) := by decide +kernel
theorem dX4_parameterLength_1 : decode cX4_parameterLength 1 = .ok (.iload_n 1, 1) := by decide +kernel
theorem dX4_parameterLength_2 : decode cX4_parameterLength 2 = .ok (.iload_n 2, 1) := by decide +kernel
theorem dX4_parameterLength_3 : decode cX4_parameterLength 3 = .ok (.invokevirtual 72, 3) := by decide +kernel
theorem dX4_parameterLength_6 : decode cX4_parameterLength 6 = .ok (.ifCond .eq 16, 3) := by decide +kernel
theorem dX4_parameterLength_9 : decode cX4_parameterLength 9 = .ok (.aload_n 0, 1) := by decide +kernel
theorem dX4_parameterLength_10 : decode cX4_parameterLength 10 = .ok (.getfield 7, 3) := by decide +kernel
theorem dX4_parameterLength_13 : decode cX4_parameterLength 13 = .ok (.iload_n 1, 1) := by decide +kernel
theorem dX4_parameterLength_14 : decode cX4_parameterLength 14 = .ok (.invokestatic 34, 3) := by decide +kernel
theorem dX4_parameterLength_17 : decode cX4_parameterLength 17 = .ok (.iaload, 1) := by decide +kernel
theorem dX4_parameterLength_18 : decode cX4_parameterLength 18 = .ok (.iconst 2, 1) := by decide +kernel
theorem dX4_parameterLength_19 : decode cX4_parameterLength 19 = .ok (.if_icmp .eq 7, 3) := by decide +kernel
theorem dX4_parameterLength_22 : decode cX4_parameterLength 22 = .ok (.sipush (-1005), 3) := by decide +kernel
theorem dX4_parameterLength_25 : decode cX4_parameterLength 25 = .ok (.ireturn, 1) := by decide +kernel
theorem dX4_parameterLength_26 : decode cX4_parameterLength 26 = .ok (.sipush (-1005), 3) := by decide +kernel
theorem dX4_parameterLength_29 : decode cX4_parameterLength 29 = .ok (.istore_n 3, 1) := by decide +kernel
theorem dX4_parameterLength_30 : decode cX4_parameterLength 30 = .ok (.iconst 0, 1) := by decide +kernel
theorem dX4_parameterLength_31 : decode cX4_parameterLength 31 = .ok (.istore 4, 2) := by decide +kernel
theorem dX4_parameterLength_33 : decode cX4_parameterLength 33 = .ok (.iconst 1, 1) := by decide +kernel
theorem dX4_parameterLength_34 : decode cX4_parameterLength 34 = .ok (.istore 5, 2) := by decide +kernel
theorem dX4_parameterLength_36 : decode cX4_parameterLength 36 = .ok (.iconst 1, 1) := by decide +kernel
theorem dX4_parameterLength_37 : decode cX4_parameterLength 37 = .ok (.istore 6, 2) := by decide +kernel
theorem dX4_parameterLength_39 : decode cX4_parameterLength 39 = .ok (.iload 6, 2) := by decide +kernel
theorem dX4_parameterLength_41 : decode cX4_parameterLength 41 = .ok (.aload_n 0, 1) := by decide +kernel
theorem dX4_parameterLength_42 : decode cX4_parameterLength 42 = .ok (.iload_n 1, 1) := by decide +kernel
theorem dX4_parameterLength_43 : decode cX4_parameterLength 43 = .ok (.invokevirtual 49, 3) := by decide +kernel
theorem dX4_parameterLength_46 : decode cX4_parameterLength 46 = .ok (.if_icmp .gt 115, 3) := by decide +kernel
theorem dX4_parameterLength_49 : decode cX4_parameterLength 49 = .ok (.iload 6, 2) := by decide +kernel
theorem dX4_parameterLength_51 : decode cX4_parameterLength 51 = .ok (.aload_n 0, 1) := by decide +kernel
theorem dX4_parameterLength_52 : decode cX4_parameterLength 52 = .ok (.iload_n 2, 1) := by decide +kernel
theorem dX4_parameterLength_53 : decode cX4_parameterLength 53 = .ok (.invokevirtual 49, 3) := by decide +kernel
theorem dX4_parameterLength_56 : decode cX4_parameterLength 56 = .ok (.if_icmp .gt 105, 3) := by decide +kernel
theorem dX4_parameterLength_59 : decode cX4_parameterLength 59 = .ok (.iload 5, 2) := by decide +kernel
theorem dX4_parameterLength_61 : decode cX4_parameterLength 61 = .ok (.ifCond .eq 27, 3) := by decide +kernel
theorem dX4_parameterLength_64 : decode cX4_parameterLength 64 = .ok (.aload_n 0, 1) := by decide +kernel
theorem dX4_parameterLength_65 : decode cX4_parameterLength 65 = .ok (.iload_n 1, 1) := by decide +kernel
theorem dX4_parameterLength_66 : decode cX4_parameterLength 66 = .ok (.iload 6, 2) := by decide +kernel
theorem dX4_parameterLength_68 : decode cX4_parameterLength 68 = .ok (.invokevirtual 85, 3) := by decide +kernel
theorem dX4_parameterLength_71 : decode cX4_parameterLength 71 = .ok (.ifCond .ne 17, 3) := by decide +kernel
theorem dX4_parameterLength_74 : decode cX4_parameterLength 74 = .ok (.aload_n 0, 1) := by decide +kernel
theorem dX4_parameterLength_75 : decode cX4_parameterLength 75 = .ok (.iload_n 2, 1) := by decide +kernel
theorem dX4_parameterLength_76 : decode cX4_parameterLength 76 = .ok (.iload 6, 2) := by decide +kernel
theorem dX4_parameterLength_78 : decode cX4_parameterLength 78 = .ok (.invokevirtual 85, 3) := by decide +kernel
theorem dX4_parameterLength_81 : decode cX4_parameterLength 81 = .ok (.ifCond .ne 7, 3) := by decide +kernel
theorem dX4_parameterLength_84 : decode cX4_parameterLength 84 = .ok (.iconst 1, 1) := by decide +kernel
theorem dX4_parameterLength_85 : decode cX4_parameterLength 85 = .ok (.goto 4, 3) := by decide +kernel
theorem dX4_parameterLength_88 : decode cX4_parameterLength 88 = .ok (.iconst 0, 1) := by decide +kernel
theorem dX4_parameterLength_89 : decode cX4_parameterLength 89 = .ok (.istore 5, 2) := by decide +kernel
theorem dX4_parameterLength_91 : decode cX4_parameterLength 91 = .ok (.aload_n 0, 1) := by decide +kernel
theorem dX4_parameterLength_92 : decode cX4_parameterLength 92 = .ok (.iload_n 1, 1) := by decide +kernel
theorem dX4_parameterLength_93 : decode cX4_parameterLength 93 = .ok (.iload_n 2, 1) := by decide +kernel
theorem dX4_parameterLength_94 : decode cX4_parameterLength 94 = .ok (.iload 6, 2) := by decide +kernel
theorem dX4_parameterLength_96 : decode cX4_parameterLength 96 = .ok (.invokevirtual 76, 3) := by decide +kernel
theorem dX4_parameterLength_99 : decode cX4_parameterLength 99 = .ok (.ifCond .ne 25, 3) := by decide +kernel
theorem dX4_parameterLength_102 : decode cX4_parameterLength 102 = .ok (.iinc 4 1, 3) := by decide +kernel
theorem dX4_parameterLength_105 : decode cX4_parameterLength 105 = .ok (.aload_n 0, 1) := by decide +kernel
theorem dX4_parameterLength_106 : decode cX4_parameterLength 106 = .ok (.iload 4, 2) := by decide +kernel
theorem dX4_parameterLength_108 : decode cX4_parameterLength 108 = .ok (.iconst 1, 1) := by decide +kernel
theorem dX4_parameterLength_109 : decode cX4_parameterLength 109 = .ok (.if_icmp .ne 8, 3) := by decide +kernel
theorem dX4_parameterLength_112 : decode cX4_parameterLength 112 = .ok (.iload 6, 2) := by decide +kernel
theorem dX4_parameterLength_114 : decode cX4_parameterLength 114 = .ok (.goto 7, 3) := by decide +kernel
theorem dX4_parameterLength_117 : decode cX4_parameterLength 117 = .ok (.aload_n 0, 1) := by decide +kernel
theorem dX4_parameterLength_118 : decode cX4_parameterLength 118 = .ok (.getfield 88, 3) := by decide +kernel
theorem dX4_parameterLength_121 : decode cX4_parameterLength 121 = .ok (.putfield 88, 3) := by decide +kernel
theorem dX4_parameterLength_124 : decode cX4_parameterLength 124 = .ok (.iload 5, 2) := by decide +kernel
theorem dX4_parameterLength_126 : decode cX4_parameterLength 126 = .ok (.ifCond .eq 27, 3) := by decide +kernel
theorem dX4_parameterLength_129 : decode cX4_parameterLength 129 = .ok (.iload 4, 2) := by decide +kernel
theorem dX4_parameterLength_131 : decode cX4_parameterLength 131 = .ok (.iconst 1, 1) := by decide +kernel
theorem dX4_parameterLength_132 : decode cX4_parameterLength 132 = .ok (.if_icmp .ne 21, 3) := by decide +kernel
theorem dX4_parameterLength_135 : decode cX4_parameterLength 135 = .ok (.aload_n 0, 1) := by decide +kernel
theorem dX4_parameterLength_136 : decode cX4_parameterLength 136 = .ok (.iload_n 1, 1) := by decide +kernel
theorem dX4_parameterLength_137 : decode cX4_parameterLength 137 = .ok (.iload_n 2, 1) := by decide +kernel
theorem dX4_parameterLength_138 : decode cX4_parameterLength 138 = .ok (.aload_n 0, 1) := by decide +kernel
theorem dX4_parameterLength_139 : decode cX4_parameterLength 139 = .ok (.getfield 88, 3) := by decide +kernel
theorem dX4_parameterLength_142 : decode cX4_parameterLength 142 = .ok (.invokevirtual 92, 3) := by decide +kernel
theorem dX4_parameterLength_145 : decode cX4_parameterLength 145 = .ok (.ifCond .eq 8, 3) := by decide +kernel
theorem dX4_parameterLength_148 : decode cX4_parameterLength 148 = .ok (.iload 6, 2) := by decide +kernel
theorem dX4_parameterLength_150 : decode cX4_parameterLength 150 = .ok (.goto 4, 3) := by decide +kernel
theorem dX4_parameterLength_153 : decode cX4_parameterLength 153 = .ok (.iload_n 3, 1) := by decide +kernel
theorem dX4_parameterLength_154 : decode cX4_parameterLength 154 = .ok (.istore_n 3, 1) := by decide +kernel
theorem dX4_parameterLength_155 : decode cX4_parameterLength 155 = .ok (.iinc 6 1, 3) := by decide +kernel
theorem dX4_parameterLength_158 : decode cX4_parameterLength 158 = .ok (.goto (-119), 3) := by decide +kernel
theorem dX4_parameterLength_161 : decode cX4_parameterLength 161 = .ok (.iload_n 3, 1) := by decide +kernel
theorem dX4_parameterLength_162 : decode cX4_parameterLength 162 = .ok (.ireturn, 1) := by decide +kernel
set_option maxRecDepth 20000 in
theorem ggX4_parameterTail_X4_wrongPair : GoodIn wsX4_parameterTail wsX4_wrongPair := goodIn_r _ [5, 6, 7, 8, 4, 9, 10, 11, 12, 13, 48, 49, 50, 51, 52, 53, 54] (by decide +kernel) (by decide +kernel)
set_option maxRecDepth 20000 in
theorem gX4_parameterTail_X4_wrongPair : GoodIn wsX4_parameterTail (wsV RX4 79 RX4 yX4_wrongPair wsX4_wrongPair) := goodIn_app (goodIn_of _ (by decide +kernel)) ggX4_parameterTail_X4_wrongPair
set_option maxRecDepth 20000 in
theorem ggX4_parameterTail_X4_parameterLength : GoodIn wsX4_parameterTail wsX4_parameterLength := goodIn_r _ [17, 10, 18, 19, 20, 21, 4, 22, 23, 24, 25, 26, 27, 28, 29, 30, 31, 32, 33, 34, 35, 36, 37, 38, 39, 40, 41, 42, 43, 44, 45, 46, 47, 48, 49, 50, 51, 52, 53, 54] (by decide +kernel) (by decide +kernel)
set_option maxRecDepth 20000 in
theorem gX4_parameterTail_X4_parameterLength : GoodIn wsX4_parameterTail (wsV RX4 95 RX4 yX4_parameterLength wsX4_parameterLength) := goodIn_app (goodIn_of _ (by decide +kernel)) ggX4_parameterTail_X4_parameterLength
theorem dX4_parameterTail_0 : decode cX4_parameterTail 0 = .ok (.aload_n 0, 1) := by decide +kernel
theorem dX4_parameterTail_1 : decode cX4_parameterTail 1 = .ok (.iload_n 1, 1) := by decide +kernel
theorem dX4_parameterTail_2 : decode cX4_parameterTail 2 = .ok (.iload_n 2, 1) := by decide +kernel
theorem dX4_parameterTail_3 : decode cX4_parameterTail 3 = .ok (.invokevirtual 79, 3) := by decide +kernel
theorem dX4_parameterTail_6 : decode cX4_parameterTail 6 = .ok (.istore_n 3, 1) := by decide +kernel
theorem dX4_parameterTail_7 : decode cX4_parameterTail 7 = .ok (.iload_n 3, 1) := by decide +kernel
theorem dX4_parameterTail_8 : decode cX4_parameterTail 8 = .ok (.ifCond .eq 7, 3) := by decide +kernel
theorem dX4_parameterTail_11 : decode cX4_parameterTail 11 = .ok (.iload_n 3, 1) := by decide +kernel
theorem dX4_parameterTail_12 : decode cX4_parameterTail 12 = .ok (.goto 9, 3) := by decide +kernel
theorem dX4_parameterTail_15 : decode cX4_parameterTail 15 = .ok (.aload_n 0, 1) := by decide +kernel
theorem dX4_parameterTail_16 : decode cX4_parameterTail 16 = .ok (.iload_n 1, 1) := by decide +kernel
theorem dX4_parameterTail_17 : decode cX4_parameterTail 17 = .ok (.iload_n 2, 1) := by decide +kernel
theorem dX4_parameterTail_18 : decode cX4_parameterTail 18 = .ok (.invokevirtual 95, 3) := by decide +kernel
theorem dX4_parameterTail_21 : decode cX4_parameterTail 21 = .ok (.ireturn, 1) := by decide +kernel
set_option maxRecDepth 20000 in
theorem ggX4_setJumpCost_X4_in : GoodIn wsX4_setJumpCost wsX4_in := goodIn_r _ [5] (by decide +kernel) (by decide +kernel)
set_option maxRecDepth 20000 in
theorem gX4_setJumpCost_X4_in : GoodIn wsX4_setJumpCost (va_wsS RX4 26 yX4_in wsX4_in) := goodIn_app (goodIn_of _ (by decide +kernel)) ggX4_setJumpCost_X4_in
theorem dX4_setJumpCost_0 : decode cX4_setJumpCost 0 = .ok (.iload_n 1, 1) := by decide +kernel
theorem dX4_setJumpCost_1 : decode cX4_setJumpCost 1 = .ok (.iconst 0, 1) := by decide +kernel
theorem dX4_setJumpCost_2 : decode cX4_setJumpCost 2 = .ok (.iconst 5, 1) := by decide +kernel
theorem dX4_setJumpCost_3 : decode cX4_setJumpCost 3 = .ok (.invokestatic 26, 3) := by decide +kernel
theorem dX4_setJumpCost_6 : decode cX4_setJumpCost 6 = .ok (.ifCond .ne 7, 3) := by decide +kernel
theorem dX4_setJumpCost_9 : decode cX4_setJumpCost 9 = .ok (.sipush (-1003), 3) := by decide +kernel
theorem dX4_setJumpCost_12 : decode cX4_setJumpCost 12 = .ok (.ireturn, 1) := by decide +kernel
theorem dX4_setJumpCost_13 : decode cX4_setJumpCost 13 = .ok (.aload_n 0, 1) := by decide +kernel
theorem dX4_setJumpCost_14 : decode cX4_setJumpCost 14 = .ok (.getfield 7, 3) := by decide +kernel
theorem dX4_setJumpCost_17 : decode cX4_setJumpCost 17 = .ok (.iconst 1, 1) := by decide +kernel
theorem dX4_setJumpCost_18 : decode cX4_setJumpCost 18 = .ok (.iaload, 1) := by decide +kernel
theorem dX4_setJumpCost_19 : decode cX4_setJumpCost 19 = .ok (.istore_n 2, 1) := by decide +kernel
theorem dX4_setJumpCost_20 : decode cX4_setJumpCost 20 = .ok (.aload_n 0, 1) := by decide +kernel
theorem dX4_setJumpCost_21 : decode cX4_setJumpCost 21 = .ok (.getfield 7, 3) := by decide +kernel
theorem dX4_setJumpCost_24 : decode cX4_setJumpCost 24 = .ok (.iconst 1, 1) := by decide +kernel
theorem dX4_setJumpCost_25 : decode cX4_setJumpCost 25 = .ok (.iload_n 1, 1) := by decide +kernel
theorem dX4_setJumpCost_26 : decode cX4_setJumpCost 26 = .ok (.iastore, 1) := by decide +kernel
theorem dX4_setJumpCost_27 : decode cX4_setJumpCost 27 = .ok (.iload_n 2, 1) := by decide +kernel
theorem dX4_setJumpCost_28 : decode cX4_setJumpCost 28 = .ok (.ireturn, 1) := by decide +kernel
set_option maxRecDepth 20000 in
theorem ggX4_costOf_X4_end : GoodIn wsX4_costOf wsX4_end := goodIn_r _ [5, 6, 7, 4, 8] (by decide +kernel) (by decide +kernel)
set_option maxRecDepth 20000 in
theorem gX4_costOf_X4_end : GoodIn wsX4_costOf (va_wsS RX4 34 yX4_end wsX4_end) := goodIn_app (goodIn_of _ (by decide +kernel)) ggX4_costOf_X4_end
theorem dX4_costOf_0 : decode cX4_costOf 0 = .ok (.aload_n 0, 1) := by decide +kernel
theorem dX4_costOf_1 : decode cX4_costOf 1 = .ok (.getfield 7, 3) := by decide +kernel
theorem dX4_costOf_4 : decode cX4_costOf 4 = .ok (.iload_n 1, 1) := by decide +kernel
theorem dX4_costOf_5 : decode cX4_costOf 5 = .ok (.invokestatic 34, 3) := by decide +kernel
theorem dX4_costOf_8 : decode cX4_costOf 8 = .ok (.iaload, 1) := by decide +kernel
theorem dX4_costOf_9 : decode cX4_costOf 9 = .ok (.istore_n 2, 1) := by decide +kernel
theorem dX4_costOf_10 : decode cX4_costOf 10 = .ok (.iload_n 2, 1) := by decide +kernel
theorem dX4_costOf_11 : decode cX4_costOf 11 = .ok (.iconst 2, 1) := by decide +kernel
theorem dX4_costOf_12 : decode cX4_costOf 12 = .ok (.if_icmp .ne 7, 3) := by decide +kernel
theorem dX4_costOf_15 : decode cX4_costOf 15 = .ok (.iconst 1, 1) := by decide +kernel
theorem dX4_costOf_16 : decode cX4_costOf 16 = .ok (.goto 18, 3) := by decide +kernel
theorem dX4_costOf_19 : decode cX4_costOf 19 = .ok (.iload_n 2, 1) := by decide +kernel
theorem dX4_costOf_20 : decode cX4_costOf 20 = .ok (.iconst 1, 1) := by decide +kernel
theorem dX4_costOf_21 : decode cX4_costOf 21 = .ok (.if_icmp .ne 7, 3) := by decide +kernel
theorem dX4_costOf_24 : decode cX4_costOf 24 = .ok (.iconst 2, 1) := by decide +kernel
theorem dX4_costOf_25 : decode cX4_costOf 25 = .ok (.goto 9, 3) := by decide +kernel
theorem dX4_costOf_28 : decode cX4_costOf 28 = .ok (.aload_n 0, 1) := by decide +kernel
theorem dX4_costOf_29 : decode cX4_costOf 29 = .ok (.getfield 7, 3) := by decide +kernel
theorem dX4_costOf_32 : decode cX4_costOf 32 = .ok (.iconst 1, 1) := by decide +kernel
theorem dX4_costOf_33 : decode cX4_costOf 33 = .ok (.iaload, 1) := by decide +kernel
theorem dX4_costOf_34 : decode cX4_costOf 34 = .ok (.ireturn, 1) := by decide +kernel
set_option maxRecDepth 20000 in
theorem ggX4_codeSize_X4_many : GoodIn wsX4_codeSize wsX4_many := goodIn_r _ [6, 1, 7, 8, 5, 9, 17, 18, 19, 20, 21, 22, 23] (by decide +kernel) (by decide +kernel)
set_option maxRecDepth 20000 in
theorem gX4_codeSize_X4_many : GoodIn wsX4_codeSize (wsV RX4 49 RX4 yX4_many wsX4_many) := goodIn_app (goodIn_of _ (by decide +kernel)) ggX4_codeSize_X4_many
set_option maxRecDepth 20000 in
theorem ggX4_codeSize_X4_costOf : GoodIn wsX4_codeSize wsX4_costOf := goodIn_r _ [13, 1, 14, 15, 5, 16, 7, 8, 9, 17, 18, 19, 20, 21, 22, 23] (by decide +kernel) (by decide +kernel)
set_option maxRecDepth 20000 in
theorem gX4_codeSize_X4_costOf : GoodIn wsX4_codeSize (wsV RX4 98 RX4 yX4_costOf wsX4_costOf) := goodIn_app (goodIn_of _ (by decide +kernel)) ggX4_codeSize_X4_costOf
theorem dX4_codeSize_0 : decode cX4_codeSize 0 = .ok (.iconst 0, 1) := by decide +kernel
theorem dX4_codeSize_1 : decode cX4_codeSize 1 = .ok (.istore_n 1, 1) := by decide +kernel
theorem dX4_codeSize_2 : decode cX4_codeSize 2 = .ok (.iconst 0, 1) := by decide +kernel
theorem dX4_codeSize_3 : decode cX4_codeSize 3 = .ok (.istore_n 2, 1) := by decide +kernel
theorem dX4_codeSize_4 : decode cX4_codeSize 4 = .ok (.iload_n 2, 1) := by decide +kernel
theorem dX4_codeSize_5 : decode cX4_codeSize 5 = .ok (.aload_n 0, 1) := by decide +kernel
theorem dX4_codeSize_6 : decode cX4_codeSize 6 = .ok (.getfield 7, 3) := by decide +kernel
theorem dX4_codeSize_9 : decode cX4_codeSize 9 = .ok (.iconst 0, 1) := by decide +kernel
theorem dX4_codeSize_10 : decode cX4_codeSize 10 = .ok (.iaload, 1) := by decide +kernel
theorem dX4_codeSize_11 : decode cX4_codeSize 11 = .ok (.if_icmp .ge 23, 3) := by decide +kernel
theorem dX4_codeSize_14 : decode cX4_codeSize 14 = .ok (.iload_n 1, 1) := by decide +kernel
theorem dX4_codeSize_15 : decode cX4_codeSize 15 = .ok (.aload_n 0, 1) := by decide +kernel
theorem dX4_codeSize_16 : decode cX4_codeSize 16 = .ok (.iload_n 2, 1) := by decide +kernel
theorem dX4_codeSize_17 : decode cX4_codeSize 17 = .ok (.invokevirtual 49, 3) := by decide +kernel
theorem dX4_codeSize_20 : decode cX4_codeSize 20 = .ok (.aload_n 0, 1) := by decide +kernel
theorem dX4_codeSize_21 : decode cX4_codeSize 21 = .ok (.iload_n 2, 1) := by decide +kernel
theorem dX4_codeSize_22 : decode cX4_codeSize 22 = .ok (.invokevirtual 98, 3) := by decide +kernel
theorem dX4_codeSize_25 : decode cX4_codeSize 25 = .ok (.iadd, 1) := by decide +kernel
theorem dX4_codeSize_26 : decode cX4_codeSize 26 = .ok (.iadd, 1) := by decide +kernel
theorem dX4_codeSize_27 : decode cX4_codeSize 27 = .ok (.istore_n 1, 1) := by decide +kernel
theorem dX4_codeSize_28 : decode cX4_codeSize 28 = .ok (.iinc 2 1, 3) := by decide +kernel
theorem dX4_codeSize_31 : decode cX4_codeSize 31 = .ok (.goto (-27), 3) := by decide +kernel
theorem dX4_codeSize_34 : decode cX4_codeSize 34 = .ok (.iload_n 1, 1) := by decide +kernel
theorem dX4_codeSize_35 : decode cX4_codeSize 35 = .ok (.ireturn, 1) := by decide +kernel
theorem dX4_ones_0 : decode cX4_ones 0 = .ok (.iconst 0, 1) := by decide +kernel
theorem dX4_ones_1 : decode cX4_ones 1 = .ok (.istore_n 1, 1) := by decide +kernel
theorem dX4_ones_2 : decode cX4_ones 2 = .ok (.iconst 0, 1) := by decide +kernel
theorem dX4_ones_3 : decode cX4_ones 3 = .ok (.istore_n 2, 1) := by decide +kernel
theorem dX4_ones_4 : decode cX4_ones 4 = .ok (.iload_n 2, 1) := by decide +kernel
theorem dX4_ones_5 : decode cX4_ones 5 = .ok (.bipush 12, 2) := by decide +kernel
theorem dX4_ones_7 : decode cX4_ones 7 = .ok (.if_icmp .ge 17, 3) := by decide +kernel
theorem dX4_ones_10 : decode cX4_ones 10 = .ok (.iload_n 1, 1) := by decide +kernel
theorem dX4_ones_11 : decode cX4_ones 11 = .ok (.iload_n 0, 1) := by decide +kernel
theorem dX4_ones_12 : decode cX4_ones 12 = .ok (.iload_n 2, 1) := by decide +kernel
theorem dX4_ones_13 : decode cX4_ones 13 = .ok (.ishr, 1) := by decide +kernel
theorem dX4_ones_14 : decode cX4_ones 14 = .ok (.iconst 1, 1) := by decide +kernel
theorem dX4_ones_15 : decode cX4_ones 15 = .ok (.iand, 1) := by decide +kernel
theorem dX4_ones_16 : decode cX4_ones 16 = .ok (.iadd, 1) := by decide +kernel
theorem dX4_ones_17 : decode cX4_ones 17 = .ok (.istore_n 1, 1) := by decide +kernel
theorem dX4_ones_18 : decode cX4_ones 18 = .ok (.iinc 2 1, 3) := by decide +kernel
theorem dX4_ones_21 : decode cX4_ones 21 = .ok (.goto (-17), 3) := by decide +kernel
theorem dX4_ones_24 : decode cX4_ones 24 = .ok (.iload_n 1, 1) := by decide +kernel
theorem dX4_ones_25 : decode cX4_ones 25 = .ok (.ireturn, 1) := by decide +kernel
theorem dX4_lowest_0 : decode cX4_lowest 0 = .ok (.iconst 0, 1) := by decide +kernel
theorem dX4_lowest_1 : decode cX4_lowest 1 = .ok (.istore_n 1, 1) := by decide +kernel
theorem dX4_lowest_2 : decode cX4_lowest 2 = .ok (.iload_n 0, 1) := by decide +kernel
theorem dX4_lowest_3 : decode cX4_lowest 3 = .ok (.iload_n 1, 1) := by decide +kernel
theorem dX4_lowest_4 : decode cX4_lowest 4 = .ok (.ishr, 1) := by decide +kernel
theorem dX4_lowest_5 : decode cX4_lowest 5 = .ok (.iconst 1, 1) := by decide +kernel
theorem dX4_lowest_6 : decode cX4_lowest 6 = .ok (.iand, 1) := by decide +kernel
theorem dX4_lowest_7 : decode cX4_lowest 7 = .ok (.ifCond .ne 9, 3) := by decide +kernel
theorem dX4_lowest_10 : decode cX4_lowest 10 = .ok (.iinc 1 1, 3) := by decide +kernel
theorem dX4_lowest_13 : decode cX4_lowest 13 = .ok (.goto (-11), 3) := by decide +kernel
theorem dX4_lowest_16 : decode cX4_lowest 16 = .ok (.iload_n 1, 1) := by decide +kernel
theorem dX4_lowest_17 : decode cX4_lowest 17 = .ok (.ireturn, 1) := by decide +kernel
set_option maxRecDepth 20000 in
theorem ggX4_tailOf_X4_lowest : GoodIn wsX4_tailOf wsX4_lowest := goodIn_r _ [5] (by decide +kernel) (by decide +kernel)
set_option maxRecDepth 20000 in
theorem gX4_tailOf_X4_lowest : GoodIn wsX4_tailOf (va_wsS RX4 101 yX4_lowest wsX4_lowest) := goodIn_app (goodIn_of _ (by decide +kernel)) ggX4_tailOf_X4_lowest
set_option maxRecDepth 20000 in
theorem ggX4_tailOf_X4_tailOfTwo : GoodIn wsX4_tailOf wsX4_tailOfTwo := goodIn_r _ [9, 10, 11, 12, 4, 13, 1, 14, 15, 16, 17, 18, 19, 20, 21, 22, 23, 24, 25, 26, 27, 28, 29, 30, 31, 32, 33, 34, 35, 36, 37] (by decide +kernel) (by decide +kernel)
set_option maxRecDepth 20000 in
theorem gX4_tailOf_X4_tailOfTwo : GoodIn wsX4_tailOf (wsV RX4 82 RX4 yX4_tailOfTwo wsX4_tailOfTwo) := goodIn_app (goodIn_of _ (by decide +kernel)) ggX4_tailOf_X4_tailOfTwo
theorem dX4_tailOf_0 : decode cX4_tailOf 0 = .ok (.iload_n 1, 1) := by decide +kernel
theorem dX4_tailOf_1 : decode cX4_tailOf 1 = .ok (.invokestatic 101, 3) := by decide +kernel
theorem dX4_tailOf_4 : decode cX4_tailOf 4 = .ok (.istore_n 2, 1) := by decide +kernel
theorem dX4_tailOf_5 : decode cX4_tailOf 5 = .ok (.bipush 10, 2) := by decide +kernel
theorem dX4_tailOf_7 : decode cX4_tailOf 7 = .ok (.istore_n 3, 1) := by decide +kernel
theorem dX4_tailOf_8 : decode cX4_tailOf 8 = .ok (.iload_n 2, 1) := by decide +kernel
theorem dX4_tailOf_9 : decode cX4_tailOf 9 = .ok (.iconst 1, 1) := by decide +kernel
theorem dX4_tailOf_10 : decode cX4_tailOf 10 = .ok (.iadd, 1) := by decide +kernel
theorem dX4_tailOf_11 : decode cX4_tailOf 11 = .ok (.istore 4, 2) := by decide +kernel
theorem dX4_tailOf_13 : decode cX4_tailOf 13 = .ok (.iload 4, 2) := by decide +kernel
theorem dX4_tailOf_15 : decode cX4_tailOf 15 = .ok (.aload_n 0, 1) := by decide +kernel
theorem dX4_tailOf_16 : decode cX4_tailOf 16 = .ok (.getfield 7, 3) := by decide +kernel
theorem dX4_tailOf_19 : decode cX4_tailOf 19 = .ok (.iconst 0, 1) := by decide +kernel
theorem dX4_tailOf_20 : decode cX4_tailOf 20 = .ok (.iaload, 1) := by decide +kernel
theorem dX4_tailOf_21 : decode cX4_tailOf 21 = .ok (.if_icmp .ge 41, 3) := by decide +kernel
theorem dX4_tailOf_24 : decode cX4_tailOf 24 = .ok (.iload_n 1, 1) := by decide +kernel
theorem dX4_tailOf_25 : decode cX4_tailOf 25 = .ok (.iload 4, 2) := by decide +kernel
theorem dX4_tailOf_27 : decode cX4_tailOf 27 = .ok (.ishr, 1) := by decide +kernel
theorem dX4_tailOf_28 : decode cX4_tailOf 28 = .ok (.iconst 1, 1) := by decide +kernel
theorem dX4_tailOf_29 : decode cX4_tailOf 29 = .ok (.iand, 1) := by decide +kernel
theorem dX4_tailOf_30 : decode cX4_tailOf 30 = .ok (.iconst 1, 1) := by decide +kernel
theorem dX4_tailOf_31 : decode cX4_tailOf 31 = .ok (.if_icmp .ne 25, 3) := by decide +kernel
theorem dX4_tailOf_34 : decode cX4_tailOf 34 = .ok (.aload_n 0, 1) := by decide +kernel
theorem dX4_tailOf_35 : decode cX4_tailOf 35 = .ok (.iload_n 2, 1) := by decide +kernel
theorem dX4_tailOf_36 : decode cX4_tailOf 36 = .ok (.iload 4, 2) := by decide +kernel
theorem dX4_tailOf_38 : decode cX4_tailOf 38 = .ok (.invokevirtual 82, 3) := by decide +kernel
theorem dX4_tailOf_41 : decode cX4_tailOf 41 = .ok (.istore 5, 2) := by decide +kernel
theorem dX4_tailOf_43 : decode cX4_tailOf 43 = .ok (.iload 5, 2) := by decide +kernel
theorem dX4_tailOf_45 : decode cX4_tailOf 45 = .ok (.iload_n 3, 1) := by decide +kernel
theorem dX4_tailOf_46 : decode cX4_tailOf 46 = .ok (.if_icmp .ge 8, 3) := by decide +kernel
theorem dX4_tailOf_49 : decode cX4_tailOf 49 = .ok (.iload 5, 2) := by decide +kernel
theorem dX4_tailOf_51 : decode cX4_tailOf 51 = .ok (.goto 4, 3) := by decide +kernel
theorem dX4_tailOf_54 : decode cX4_tailOf 54 = .ok (.iload_n 3, 1) := by decide +kernel
theorem dX4_tailOf_55 : decode cX4_tailOf 55 = .ok (.istore_n 3, 1) := by decide +kernel
theorem dX4_tailOf_56 : decode cX4_tailOf 56 = .ok (.iinc 4 1, 3) := by decide +kernel
theorem dX4_tailOf_59 : decode cX4_tailOf 59 = .ok (.goto (-46), 3) := by decide +kernel
theorem dX4_tailOf_62 : decode cX4_tailOf 62 = .ok (.iload_n 3, 1) := by decide +kernel
theorem dX4_tailOf_63 : decode cX4_tailOf 63 = .ok (.ifCond .ge 9, 3) := by decide +kernel
theorem dX4_tailOf_66 : decode cX4_tailOf 66 = .ok (.sipush (-1005), 3) := by decide +kernel
theorem dX4_tailOf_69 : decode cX4_tailOf 69 = .ok (.goto 4, 3) := by decide +kernel
theorem dX4_tailOf_72 : decode cX4_tailOf 72 = .ok (.iload_n 3, 1) := by decide +kernel
theorem dX4_tailOf_73 : decode cX4_tailOf 73 = .ok (.ireturn, 1) := by decide +kernel
set_option maxRecDepth 20000 in
theorem ggX4_wrongSet_X4_ones : GoodIn wsX4_wrongSet wsX4_ones := goodIn_r _ [5] (by decide +kernel) (by decide +kernel)
set_option maxRecDepth 20000 in
theorem gX4_wrongSet_X4_ones : GoodIn wsX4_wrongSet (va_wsS RX4 104 yX4_ones wsX4_ones) := goodIn_app (goodIn_of _ (by decide +kernel)) ggX4_wrongSet_X4_ones
set_option maxRecDepth 20000 in
theorem ggX4_wrongSet_X4_tailOf : GoodIn wsX4_wrongSet wsX4_tailOf := goodIn_r _ [9, 1, 10, 11, 4, 12, 13, 14, 15, 16, 17, 18, 19, 20, 21, 22, 23, 24, 25, 26, 27, 28, 29, 30, 31, 32, 33, 34, 35, 36, 37, 38, 39, 40, 41, 42, 43, 44] (by decide +kernel) (by decide +kernel)
set_option maxRecDepth 20000 in
theorem gX4_wrongSet_X4_tailOf : GoodIn wsX4_wrongSet (wsV RX4 107 RX4 yX4_tailOf wsX4_tailOf) := goodIn_app (goodIn_of _ (by decide +kernel)) ggX4_wrongSet_X4_tailOf
theorem dX4_wrongSet_0 : decode cX4_wrongSet 0 = .ok (.iload_n 1, 1) := by decide +kernel
theorem dX4_wrongSet_1 : decode cX4_wrongSet 1 = .ok (.ifCond .lt 15, 3) := by decide +kernel
theorem dX4_wrongSet_4 : decode cX4_wrongSet 4 = .ok (.iload_n 1, 1) := by decide +kernel
theorem dX4_wrongSet_5 : decode cX4_wrongSet 5 = .ok (.iconst 1, 1) := by decide +kernel
theorem dX4_wrongSet_6 : decode cX4_wrongSet 6 = .ok (.aload_n 0, 1) := by decide +kernel
theorem dX4_wrongSet_7 : decode cX4_wrongSet 7 = .ok (.getfield 7, 3) := by decide +kernel
theorem dX4_wrongSet_10 : decode cX4_wrongSet 10 = .ok (.iconst 0, 1) := by decide +kernel
theorem dX4_wrongSet_11 : decode cX4_wrongSet 11 = .ok (.iaload, 1) := by decide +kernel
theorem dX4_wrongSet_12 : decode cX4_wrongSet 12 = .ok (.ishl, 1) := by decide +kernel
theorem dX4_wrongSet_13 : decode cX4_wrongSet 13 = .ok (.if_icmp .lt 7, 3) := by decide +kernel
theorem dX4_wrongSet_16 : decode cX4_wrongSet 16 = .ok (.sipush (-1001), 3) := by decide +kernel
theorem dX4_wrongSet_19 : decode cX4_wrongSet 19 = .ok (.ireturn, 1) := by decide +kernel
theorem dX4_wrongSet_20 : decode cX4_wrongSet 20 = .ok (.iload_n 1, 1) := by decide +kernel
theorem dX4_wrongSet_21 : decode cX4_wrongSet 21 = .ok (.invokestatic 104, 3) := by decide +kernel
theorem dX4_wrongSet_24 : decode cX4_wrongSet 24 = .ok (.iconst 2, 1) := by decide +kernel
theorem dX4_wrongSet_25 : decode cX4_wrongSet 25 = .ok (.if_icmp .ge 9, 3) := by decide +kernel
theorem dX4_wrongSet_28 : decode cX4_wrongSet 28 = .ok (.sipush (-1003), 3) := by decide +kernel
theorem dX4_wrongSet_31 : decode cX4_wrongSet 31 = .ok (.goto 18, 3) := by decide +kernel
theorem dX4_wrongSet_34 : decode cX4_wrongSet 34 = .ok (.aload_n 0, 1) := by decide +kernel
theorem dX4_wrongSet_35 : decode cX4_wrongSet 35 = .ok (.iload_n 1, 1) := by decide +kernel
theorem dX4_wrongSet_36 : decode cX4_wrongSet 36 = .ok (.invokevirtual 107, 3) := by decide +kernel
theorem dX4_wrongSet_39 : decode cX4_wrongSet 39 = .ok (.ifCond .ge 9, 3) := by decide +kernel
theorem dX4_wrongSet_42 : decode cX4_wrongSet 42 = .ok (.sipush (-1005), 3) := by decide +kernel
theorem dX4_wrongSet_45 : decode cX4_wrongSet 45 = .ok (.goto 4, 3) := by decide +kernel
theorem dX4_wrongSet_48 : decode cX4_wrongSet 48 = .ok (.iconst 0, 1) := by decide +kernel
theorem dX4_wrongSet_49 : decode cX4_wrongSet 49 = .ok (.ireturn, 1) := by decide +kernel
set_option maxRecDepth 20000 in
theorem ggX4_savingOf_X4_ones : GoodIn wsX4_savingOf wsX4_ones := goodIn_r _ [5] (by decide +kernel) (by decide +kernel)
set_option maxRecDepth 20000 in
theorem gX4_savingOf_X4_ones : GoodIn wsX4_savingOf (va_wsS RX4 104 yX4_ones wsX4_ones) := goodIn_app (goodIn_of _ (by decide +kernel)) ggX4_savingOf_X4_ones
set_option maxRecDepth 20000 in
theorem ggX4_savingOf_X4_tailOf : GoodIn wsX4_savingOf wsX4_tailOf := goodIn_r _ [9, 1, 10, 11, 4, 12, 13, 14, 15, 16, 17, 18, 19, 20, 21, 22, 23, 24, 25, 26, 27, 28, 29, 30, 31, 32, 33, 34, 35, 36, 37, 42, 43, 44, 45, 46, 47, 48] (by decide +kernel) (by decide +kernel)
set_option maxRecDepth 20000 in
theorem gX4_savingOf_X4_tailOf : GoodIn wsX4_savingOf (wsV RX4 107 RX4 yX4_tailOf wsX4_tailOf) := goodIn_app (goodIn_of _ (by decide +kernel)) ggX4_savingOf_X4_tailOf
set_option maxRecDepth 20000 in
theorem ggX4_savingOf_X4_lowest : GoodIn wsX4_savingOf wsX4_lowest := goodIn_r _ [12] (by decide +kernel) (by decide +kernel)
set_option maxRecDepth 20000 in
theorem gX4_savingOf_X4_lowest : GoodIn wsX4_savingOf (va_wsS RX4 101 yX4_lowest wsX4_lowest) := goodIn_app (goodIn_of _ (by decide +kernel)) ggX4_savingOf_X4_lowest
set_option maxRecDepth 20000 in
theorem ggX4_savingOf_X4_costOf : GoodIn wsX4_savingOf wsX4_costOf := goodIn_r _ [41, 1, 21, 22, 4, 23, 24, 25, 26, 42, 43, 44, 45, 46, 47, 48] (by decide +kernel) (by decide +kernel)
set_option maxRecDepth 20000 in
theorem gX4_savingOf_X4_costOf : GoodIn wsX4_savingOf (wsV RX4 98 RX4 yX4_costOf wsX4_costOf) := goodIn_app (goodIn_of _ (by decide +kernel)) ggX4_savingOf_X4_costOf
theorem dX4_savingOf_0 : decode cX4_savingOf 0 = .ok (.iload_n 1, 1) := by decide +kernel
theorem dX4_savingOf_1 : decode cX4_savingOf 1 = .ok (.invokestatic 104, 3) := by decide +kernel
theorem dX4_savingOf_4 : decode cX4_savingOf 4 = .ok (.istore_n 2, 1) := by decide +kernel
theorem dX4_savingOf_5 : decode cX4_savingOf 5 = .ok (.iload_n 2, 1) := by decide +kernel
theorem dX4_savingOf_6 : decode cX4_savingOf 6 = .ok (.iconst 1, 1) := by decide +kernel
theorem dX4_savingOf_7 : decode cX4_savingOf 7 = .ok (.isub, 1) := by decide +kernel
theorem dX4_savingOf_8 : decode cX4_savingOf 8 = .ok (.aload_n 0, 1) := by decide +kernel
theorem dX4_savingOf_9 : decode cX4_savingOf 9 = .ok (.iload_n 1, 1) := by decide +kernel
theorem dX4_savingOf_10 : decode cX4_savingOf 10 = .ok (.invokevirtual 107, 3) := by decide +kernel
theorem dX4_savingOf_13 : decode cX4_savingOf 13 = .ok (.aload_n 0, 1) := by decide +kernel
theorem dX4_savingOf_14 : decode cX4_savingOf 14 = .ok (.iload_n 1, 1) := by decide +kernel
theorem dX4_savingOf_15 : decode cX4_savingOf 15 = .ok (.invokestatic 101, 3) := by decide +kernel
theorem dX4_savingOf_18 : decode cX4_savingOf 18 = .ok (.invokevirtual 98, 3) := by decide +kernel
theorem dX4_savingOf_21 : decode cX4_savingOf 21 = .ok (.iadd, 1) := by decide +kernel
theorem dX4_savingOf_22 : decode cX4_savingOf 22 = .ok (.imul, 1) := by decide +kernel
theorem dX4_savingOf_23 : decode cX4_savingOf 23 = .ok (.iload_n 2, 1) := by decide +kernel
theorem dX4_savingOf_24 : decode cX4_savingOf 24 = .ok (.aload_n 0, 1) := by decide +kernel
theorem dX4_savingOf_25 : decode cX4_savingOf 25 = .ok (.getfield 7, 3) := by decide +kernel
theorem dX4_savingOf_28 : decode cX4_savingOf 28 = .ok (.iconst 1, 1) := by decide +kernel
theorem dX4_savingOf_29 : decode cX4_savingOf 29 = .ok (.iaload, 1) := by decide +kernel
theorem dX4_savingOf_30 : decode cX4_savingOf 30 = .ok (.imul, 1) := by decide +kernel
theorem dX4_savingOf_31 : decode cX4_savingOf 31 = .ok (.isub, 1) := by decide +kernel
theorem dX4_savingOf_32 : decode cX4_savingOf 32 = .ok (.ireturn, 1) := by decide +kernel
set_option maxRecDepth 20000 in
theorem ggX4_tailSaving_X4_wrongSet : GoodIn wsX4_tailSaving wsX4_wrongSet := goodIn_r _ [5, 6, 7, 8, 4, 9, 10, 11, 12, 13, 14, 15, 16, 17, 18, 19, 20, 21, 22, 23, 24, 25, 26, 27, 28, 29, 30, 31, 32, 33, 34, 35, 36, 37, 38, 39, 40, 41, 50, 51, 52, 53, 54, 55, 56] (by decide +kernel) (by decide +kernel)
set_option maxRecDepth 20000 in
theorem gX4_tailSaving_X4_wrongSet : GoodIn wsX4_tailSaving (wsV RX4 110 RX4 yX4_wrongSet wsX4_wrongSet) := goodIn_app (goodIn_of _ (by decide +kernel)) ggX4_tailSaving_X4_wrongSet
set_option maxRecDepth 20000 in
theorem ggX4_tailSaving_X4_savingOf : GoodIn wsX4_tailSaving wsX4_savingOf := goodIn_r _ [45, 6, 7, 8, 4, 9, 10, 11, 12, 13, 14, 15, 16, 17, 18, 19, 20, 21, 22, 23, 24, 25, 26, 27, 28, 29, 30, 31, 32, 33, 34, 35, 36, 37, 38, 39, 40, 41, 46, 47, 48, 49, 50, 51, 52, 53, 54, 55, 56] (by decide +kernel) (by decide +kernel)
set_option maxRecDepth 20000 in
theorem gX4_tailSaving_X4_savingOf : GoodIn wsX4_tailSaving (wsV RX4 113 RX4 yX4_savingOf wsX4_savingOf) := goodIn_app (goodIn_of _ (by decide +kernel)) ggX4_tailSaving_X4_savingOf
theorem dX4_tailSaving_0 : decode cX4_tailSaving 0 = .ok (.aload_n 0, 1) := by decide +kernel
theorem dX4_tailSaving_1 : decode cX4_tailSaving 1 = .ok (.iload_n 1, 1) := by decide +kernel
theorem dX4_tailSaving_2 : decode cX4_tailSaving 2 = .ok (.invokevirtual 110, 3) := by decide +kernel
theorem dX4_tailSaving_5 : decode cX4_tailSaving 5 = .ok (.istore_n 2, 1) := by decide +kernel
theorem dX4_tailSaving_6 : decode cX4_tailSaving 6 = .ok (.iload_n 2, 1) := by decide +kernel
theorem dX4_tailSaving_7 : decode cX4_tailSaving 7 = .ok (.ifCond .eq 7, 3) := by decide +kernel
theorem dX4_tailSaving_10 : decode cX4_tailSaving 10 = .ok (.iload_n 2, 1) := by decide +kernel
theorem dX4_tailSaving_11 : decode cX4_tailSaving 11 = .ok (.goto 8, 3) := by decide +kernel
theorem dX4_tailSaving_14 : decode cX4_tailSaving 14 = .ok (.aload_n 0, 1) := by decide +kernel
theorem dX4_tailSaving_15 : decode cX4_tailSaving 15 = .ok (.iload_n 1, 1) := by decide +kernel
theorem dX4_tailSaving_16 : decode cX4_tailSaving 16 = .ok (.invokevirtual 113, 3) := by decide +kernel
theorem dX4_tailSaving_19 : decode cX4_tailSaving 19 = .ok (.ireturn, 1) := by decide +kernel
set_option maxRecDepth 20000 in
theorem ggX4_findBest_X4_ones : GoodIn wsX4_findBest wsX4_ones := goodIn_r _ [5] (by decide +kernel) (by decide +kernel)
set_option maxRecDepth 20000 in
theorem gX4_findBest_X4_ones : GoodIn wsX4_findBest (va_wsS RX4 104 yX4_ones wsX4_ones) := goodIn_app (goodIn_of _ (by decide +kernel)) ggX4_findBest_X4_ones
set_option maxRecDepth 20000 in
theorem ggX4_findBest_X4_tailOf : GoodIn wsX4_findBest wsX4_tailOf := goodIn_r _ [9, 1, 10, 11, 4, 12, 13, 14, 15, 16, 17, 18, 19, 20, 21, 22, 23, 24, 25, 26, 27, 28, 29, 30, 31, 32, 33, 34, 35, 36, 37, 46, 47, 48, 49, 50, 51, 52] (by decide +kernel) (by decide +kernel)
set_option maxRecDepth 20000 in
theorem gX4_findBest_X4_tailOf : GoodIn wsX4_findBest (wsV RX4 107 RX4 yX4_tailOf wsX4_tailOf) := goodIn_app (goodIn_of _ (by decide +kernel)) ggX4_findBest_X4_tailOf
set_option maxRecDepth 20000 in
theorem ggX4_findBest_X4_savingOf : GoodIn wsX4_findBest wsX4_savingOf := goodIn_r _ [41, 1, 2, 3, 4, 5, 6, 7, 8, 9, 10, 11, 12, 13, 14, 15, 16, 17, 18, 19, 20, 21, 22, 23, 24, 25, 26, 27, 28, 29, 30, 31, 32, 33, 34, 35, 36, 37, 42, 43, 44, 45, 46, 47, 48, 49, 50, 51, 52] (by decide +kernel) (by decide +kernel)
set_option maxRecDepth 20000 in
theorem gX4_findBest_X4_savingOf : GoodIn wsX4_findBest (wsV RX4 113 RX4 yX4_savingOf wsX4_savingOf) := goodIn_app (goodIn_of _ (by decide +kernel)) ggX4_findBest_X4_savingOf
theorem dX4_findBest_0 : decode cX4_findBest 0 = .ok (.sipush (-1008), 3) := by decide +kernel
theorem dX4_findBest_3 : decode cX4_findBest 3 = .ok (.istore_n 1, 1) := by decide +kernel
theorem dX4_findBest_4 : decode cX4_findBest 4 = .ok (.iconst 0, 1) := by decide +kernel
theorem dX4_findBest_5 : decode cX4_findBest 5 = .ok (.istore_n 2, 1) := by decide +kernel
theorem dX4_findBest_6 : decode cX4_findBest 6 = .ok (.iconst 3, 1) := by decide +kernel
theorem dX4_findBest_7 : decode cX4_findBest 7 = .ok (.istore_n 3, 1) := by decide +kernel
theorem dX4_findBest_8 : decode cX4_findBest 8 = .ok (.iload_n 3, 1) := by decide +kernel
theorem dX4_findBest_9 : decode cX4_findBest 9 = .ok (.iconst 1, 1) := by decide +kernel
theorem dX4_findBest_10 : decode cX4_findBest 10 = .ok (.aload_n 0, 1) := by decide +kernel
theorem dX4_findBest_11 : decode cX4_findBest 11 = .ok (.getfield 7, 3) := by decide +kernel
theorem dX4_findBest_14 : decode cX4_findBest 14 = .ok (.iconst 0, 1) := by decide +kernel
theorem dX4_findBest_15 : decode cX4_findBest 15 = .ok (.iaload, 1) := by decide +kernel
theorem dX4_findBest_16 : decode cX4_findBest 16 = .ok (.ishl, 1) := by decide +kernel
theorem dX4_findBest_17 : decode cX4_findBest 17 = .ok (.if_icmp .ge 42, 3) := by decide +kernel
theorem dX4_findBest_20 : decode cX4_findBest 20 = .ok (.iload_n 3, 1) := by decide +kernel
theorem dX4_findBest_21 : decode cX4_findBest 21 = .ok (.invokestatic 104, 3) := by decide +kernel
theorem dX4_findBest_24 : decode cX4_findBest 24 = .ok (.iconst 1, 1) := by decide +kernel
theorem dX4_findBest_25 : decode cX4_findBest 25 = .ok (.if_icmp .le 28, 3) := by decide +kernel
theorem dX4_findBest_28 : decode cX4_findBest 28 = .ok (.aload_n 0, 1) := by decide +kernel
theorem dX4_findBest_29 : decode cX4_findBest 29 = .ok (.iload_n 3, 1) := by decide +kernel
theorem dX4_findBest_30 : decode cX4_findBest 30 = .ok (.invokevirtual 107, 3) := by decide +kernel
theorem dX4_findBest_33 : decode cX4_findBest 33 = .ok (.ifCond .lt 20, 3) := by decide +kernel
theorem dX4_findBest_36 : decode cX4_findBest 36 = .ok (.aload_n 0, 1) := by decide +kernel
theorem dX4_findBest_37 : decode cX4_findBest 37 = .ok (.iload_n 3, 1) := by decide +kernel
theorem dX4_findBest_38 : decode cX4_findBest 38 = .ok (.invokevirtual 113, 3) := by decide +kernel
theorem dX4_findBest_41 : decode cX4_findBest 41 = .ok (.iload_n 2, 1) := by decide +kernel
theorem dX4_findBest_42 : decode cX4_findBest 42 = .ok (.if_icmp .le 11, 3) := by decide +kernel
theorem dX4_findBest_45 : decode cX4_findBest 45 = .ok (.aload_n 0, 1) := by decide +kernel
theorem dX4_findBest_46 : decode cX4_findBest 46 = .ok (.iload_n 3, 1) := by decide +kernel
theorem dX4_findBest_47 : decode cX4_findBest 47 = .ok (.invokevirtual 113, 3) := by decide +kernel
theorem dX4_findBest_50 : decode cX4_findBest 50 = .ok (.istore_n 2, 1) := by decide +kernel
theorem dX4_findBest_51 : decode cX4_findBest 51 = .ok (.iload_n 3, 1) := by decide +kernel
theorem dX4_findBest_52 : decode cX4_findBest 52 = .ok (.istore_n 1, 1) := by decide +kernel
theorem dX4_findBest_53 : decode cX4_findBest 53 = .ok (.iinc 3 1, 3) := by decide +kernel
theorem dX4_findBest_56 : decode cX4_findBest 56 = .ok (.goto (-48), 3) := by decide +kernel
theorem dX4_findBest_59 : decode cX4_findBest 59 = .ok (.iload_n 1, 1) := by decide +kernel
theorem dX4_findBest_60 : decode cX4_findBest 60 = .ok (.ireturn, 1) := by decide +kernel
set_option maxRecDepth 20000 in
theorem ggX4_bestTail_X4_findBest : GoodIn wsX4_bestTail wsX4_findBest := goodIn_r _ [5, 6, 7, 8, 4, 9, 10, 11, 12, 13, 14, 15, 16, 17, 18, 19, 20, 21, 22, 23, 24, 25, 26, 27, 28, 29, 30, 31, 32, 33, 34, 35, 36, 37, 38, 39, 40, 41, 42, 43, 44, 45, 46, 47, 48, 49, 50, 51, 52, 53, 54, 55, 56] (by decide +kernel) (by decide +kernel)
set_option maxRecDepth 20000 in
theorem gX4_bestTail_X4_findBest : GoodIn wsX4_bestTail (wsV RX4 116 RX4 yX4_findBest wsX4_findBest) := goodIn_app (goodIn_of _ (by decide +kernel)) ggX4_bestTail_X4_findBest
theorem dX4_bestTail_0 : decode cX4_bestTail 0 = .ok (.aload_n 0, 1) := by decide +kernel
theorem dX4_bestTail_1 : decode cX4_bestTail 1 = .ok (.invokevirtual 116, 3) := by decide +kernel
theorem dX4_bestTail_4 : decode cX4_bestTail 4 = .ok (.ireturn, 1) := by decide +kernel
set_option maxRecDepth 20000 in
theorem ggX4_copyTail_X4_many : GoodIn wsX4_copyTail wsX4_many := goodIn_r _ [6, 1, 7, 8, 5, 9, 24, 25, 26, 27, 28, 29, 30] (by decide +kernel) (by decide +kernel)
set_option maxRecDepth 20000 in
theorem gX4_copyTail_X4_many : GoodIn wsX4_copyTail (wsV RX4 49 RX4 yX4_many wsX4_many) := goodIn_app (goodIn_of _ (by decide +kernel)) ggX4_copyTail_X4_many
set_option maxRecDepth 20000 in
theorem ggX4_copyTail_X4_at : GoodIn wsX4_copyTail wsX4_at := goodIn_r _ [12, 7, 8, 5, 9] (by decide +kernel) (by decide +kernel)
set_option maxRecDepth 20000 in
theorem gX4_copyTail_X4_at : GoodIn wsX4_copyTail (va_wsS RX4 52 yX4_at wsX4_at) := goodIn_app (goodIn_of _ (by decide +kernel)) ggX4_copyTail_X4_at
set_option maxRecDepth 20000 in
theorem ggX4_copyTail_X4_append : GoodIn wsX4_copyTail wsX4_append := goodIn_r _ [16, 1, 2, 3, 4, 5, 6, 7, 8, 9, 10, 11, 12, 24, 25, 26, 27, 28, 29, 30] (by decide +kernel) (by decide +kernel)
set_option maxRecDepth 20000 in
theorem gX4_copyTail_X4_append : GoodIn wsX4_copyTail (wsV RX4 63 RX4 yX4_append wsX4_append) := goodIn_app (goodIn_of _ (by decide +kernel)) ggX4_copyTail_X4_append
set_option maxRecDepth 20000 in
theorem ggX4_copyTail_X4_end : GoodIn wsX4_copyTail wsX4_end := goodIn_r _ [19, 7, 8, 5, 9] (by decide +kernel) (by decide +kernel)
set_option maxRecDepth 20000 in
theorem gX4_copyTail_X4_end : GoodIn wsX4_copyTail (va_wsS RX4 34 yX4_end wsX4_end) := goodIn_app (goodIn_of _ (by decide +kernel)) ggX4_copyTail_X4_end
set_option maxRecDepth 20000 in
theorem ggX4_copyTail_X4_terminate : GoodIn wsX4_copyTail wsX4_terminate := goodIn_r _ [23, 1, 17, 18, 5, 19, 7, 8, 9, 24, 25, 26, 27, 28, 29, 30] (by decide +kernel) (by decide +kernel)
set_option maxRecDepth 20000 in
theorem gX4_copyTail_X4_terminate : GoodIn wsX4_copyTail (wsV RX4 37 RX4 yX4_terminate wsX4_terminate) := goodIn_app (goodIn_of _ (by decide +kernel)) ggX4_copyTail_X4_terminate
theorem dX4_copyTail_0 : decode cX4_copyTail 0 = .ok (.aload_n 0, 1) := by decide +kernel
theorem dX4_copyTail_1 : decode cX4_copyTail 1 = .ok (.iload_n 1, 1) := by decide +kernel
theorem dX4_copyTail_2 : decode cX4_copyTail 2 = .ok (.invokevirtual 49, 3) := by decide +kernel
theorem dX4_copyTail_5 : decode cX4_copyTail 5 = .ok (.iload_n 3, 1) := by decide +kernel
theorem dX4_copyTail_6 : decode cX4_copyTail 6 = .ok (.isub, 1) := by decide +kernel
theorem dX4_copyTail_7 : decode cX4_copyTail 7 = .ok (.istore 4, 2) := by decide +kernel
theorem dX4_copyTail_9 : decode cX4_copyTail 9 = .ok (.iload 4, 2) := by decide +kernel
theorem dX4_copyTail_11 : decode cX4_copyTail 11 = .ok (.aload_n 0, 1) := by decide +kernel
theorem dX4_copyTail_12 : decode cX4_copyTail 12 = .ok (.iload_n 1, 1) := by decide +kernel
theorem dX4_copyTail_13 : decode cX4_copyTail 13 = .ok (.invokevirtual 49, 3) := by decide +kernel
theorem dX4_copyTail_16 : decode cX4_copyTail 16 = .ok (.if_icmp .ge 65, 3) := by decide +kernel
theorem dX4_copyTail_19 : decode cX4_copyTail 19 = .ok (.iload_n 1, 1) := by decide +kernel
theorem dX4_copyTail_20 : decode cX4_copyTail 20 = .ok (.iload 4, 2) := by decide +kernel
theorem dX4_copyTail_22 : decode cX4_copyTail 22 = .ok (.invokestatic 52, 3) := by decide +kernel
theorem dX4_copyTail_25 : decode cX4_copyTail 25 = .ok (.istore 5, 2) := by decide +kernel
theorem dX4_copyTail_27 : decode cX4_copyTail 27 = .ok (.aload_n 0, 1) := by decide +kernel
theorem dX4_copyTail_28 : decode cX4_copyTail 28 = .ok (.iload_n 2, 1) := by decide +kernel
theorem dX4_copyTail_29 : decode cX4_copyTail 29 = .ok (.aload_n 0, 1) := by decide +kernel
theorem dX4_copyTail_30 : decode cX4_copyTail 30 = .ok (.getfield 7, 3) := by decide +kernel
theorem dX4_copyTail_33 : decode cX4_copyTail 33 = .ok (.iload 5, 2) := by decide +kernel
theorem dX4_copyTail_35 : decode cX4_copyTail 35 = .ok (.iaload, 1) := by decide +kernel
theorem dX4_copyTail_36 : decode cX4_copyTail 36 = .ok (.aload_n 0, 1) := by decide +kernel
theorem dX4_copyTail_37 : decode cX4_copyTail 37 = .ok (.getfield 7, 3) := by decide +kernel
theorem dX4_copyTail_40 : decode cX4_copyTail 40 = .ok (.iload 5, 2) := by decide +kernel
theorem dX4_copyTail_42 : decode cX4_copyTail 42 = .ok (.iconst 1, 1) := by decide +kernel
theorem dX4_copyTail_43 : decode cX4_copyTail 43 = .ok (.iadd, 1) := by decide +kernel
theorem dX4_copyTail_44 : decode cX4_copyTail 44 = .ok (.iaload, 1) := by decide +kernel
theorem dX4_copyTail_45 : decode cX4_copyTail 45 = .ok (.aload_n 0, 1) := by decide +kernel
theorem dX4_copyTail_46 : decode cX4_copyTail 46 = .ok (.getfield 7, 3) := by decide +kernel
theorem dX4_copyTail_49 : decode cX4_copyTail 49 = .ok (.iload 5, 2) := by decide +kernel
theorem dX4_copyTail_51 : decode cX4_copyTail 51 = .ok (.iconst 2, 1) := by decide +kernel
theorem dX4_copyTail_52 : decode cX4_copyTail 52 = .ok (.iadd, 1) := by decide +kernel
theorem dX4_copyTail_53 : decode cX4_copyTail 53 = .ok (.iaload, 1) := by decide +kernel
theorem dX4_copyTail_54 : decode cX4_copyTail 54 = .ok (.aload_n 0, 1) := by decide +kernel
theorem dX4_copyTail_55 : decode cX4_copyTail 55 = .ok (.getfield 7, 3) := by decide +kernel
theorem dX4_copyTail_58 : decode cX4_copyTail 58 = .ok (.iload 5, 2) := by decide +kernel
theorem dX4_copyTail_60 : decode cX4_copyTail 60 = .ok (.iconst 3, 1) := by decide +kernel
theorem dX4_copyTail_61 : decode cX4_copyTail 61 = .ok (.iadd, 1) := by decide +kernel
theorem dX4_copyTail_62 : decode cX4_copyTail 62 = .ok (.iaload, 1) := by decide +kernel
theorem dX4_copyTail_63 : decode cX4_copyTail 63 = .ok (.aload_n 0, 1) := by decide +kernel
theorem dX4_copyTail_64 : decode cX4_copyTail 64 = .ok (.getfield 7, 3) := by decide +kernel
theorem dX4_copyTail_67 : decode cX4_copyTail 67 = .ok (.iload 5, 2) := by decide +kernel
theorem dX4_copyTail_69 : decode cX4_copyTail 69 = .ok (.iconst 4, 1) := by decide +kernel
theorem dX4_copyTail_70 : decode cX4_copyTail 70 = .ok (.iadd, 1) := by decide +kernel
theorem dX4_copyTail_71 : decode cX4_copyTail 71 = .ok (.iaload, 1) := by decide +kernel
theorem dX4_copyTail_72 : decode cX4_copyTail 72 = .ok (.invokevirtual 63, 3) := by decide +kernel
theorem dX4_copyTail_75 : decode cX4_copyTail 75 = .ok (.iinc 4 1, 3) := by decide +kernel
