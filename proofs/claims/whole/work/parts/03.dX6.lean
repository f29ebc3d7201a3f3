theorem dX6_init_0 : decode cX6_init 0 = .ok (.aload_n 0, 1) := by decide +kernel
theorem dX6_init_1 : decode cX6_init 1 = .ok (.invokespecial 3, 3) := by decide +kernel
theorem dX6_init_4 : decode cX6_init 4 = .ok (.aload_n 0, 1) := by decide +kernel
theorem dX6_init_5 : decode cX6_init 5 = .ok (.sipush 12060, 3) := by decide +kernel
theorem dX6_init_8 : decode cX6_init 8 = .ok (.newarray .int, 2) := by decide +kernel
theorem dX6_init_10 : decode cX6_init 10 = .ok (.putfield 11, 3) := by decide +kernel
theorem dX6_init_13 : decode cX6_init 13 = .ok (.aload_n 0, 1) := by decide +kernel
theorem dX6_init_14 : decode cX6_init 14 = .ok (.sipush 12060, 3) := by decide +kernel
theorem dX6_init_17 : decode cX6_init 17 = .ok (.newarray .int, 2) := by decide +kernel
theorem dX6_init_19 : decode cX6_init 19 = .ok (.putfield 15, 3) := by decide +kernel
theorem dX6_init_22 : decode cX6_init 22 = .ok (.aload_n 0, 1) := by decide +kernel
theorem dX6_init_23 : decode cX6_init 23 = .ok (.sipush 201, 3) := by decide +kernel
theorem dX6_init_26 : decode cX6_init 26 = .ok (.newarray .int, 2) := by decide +kernel
theorem dX6_init_28 : decode cX6_init 28 = .ok (.putfield 18, 3) := by decide +kernel
theorem dX6_init_31 : decode cX6_init 31 = .ok (.aload_n 0, 1) := by decide +kernel
theorem dX6_init_32 : decode cX6_init 32 = .ok (.sipush 201, 3) := by decide +kernel
theorem dX6_init_35 : decode cX6_init 35 = .ok (.newarray .int, 2) := by decide +kernel
theorem dX6_init_37 : decode cX6_init 37 = .ok (.putfield 21, 3) := by decide +kernel
theorem dX6_init_40 : decode cX6_init 40 = .ok (.return_, 1) := by decide +kernel
theorem dX6_isRow_0 : decode cX6_isRow 0 = .ok (.iload_n 0, 1) := by decide +kernel
theorem dX6_isRow_1 : decode cX6_isRow 1 = .ok (.ifCond .lt 14, 3) := by decide +kernel
theorem dX6_isRow_4 : decode cX6_isRow 4 = .ok (.iload_n 0, 1) := by decide +kernel
theorem dX6_isRow_5 : decode cX6_isRow 5 = .ok (.sipush 201, 3) := by decide +kernel
theorem dX6_isRow_8 : decode cX6_isRow 8 = .ok (.if_icmp .ge 7, 3) := by decide +kernel
theorem dX6_isRow_11 : decode cX6_isRow 11 = .ok (.iconst 1, 1) := by decide +kernel
theorem dX6_isRow_12 : decode cX6_isRow 12 = .ok (.goto 4, 3) := by decide +kernel
theorem dX6_isRow_15 : decode cX6_isRow 15 = .ok (.iconst 0, 1) := by decide +kernel
theorem dX6_isRow_16 : decode cX6_isRow 16 = .ok (.ireturn, 1) := by decide +kernel
theorem dX6_isAt_0 : decode cX6_isAt 0 = .ok (.iload_n 1, 1) := by decide +kernel
theorem dX6_isAt_1 : decode cX6_isAt 1 = .ok (.ifCond .lt 34, 3) := by decide +kernel
theorem dX6_isAt_4 : decode cX6_isAt 4 = .ok (.iload_n 1, 1) := by decide +kernel
theorem dX6_isAt_5 : decode cX6_isAt 5 = .ok (.sipush 201, 3) := by decide +kernel
theorem dX6_isAt_8 : decode cX6_isAt 8 = .ok (.if_icmp .ge 27, 3) := by decide +kernel
theorem dX6_isAt_11 : decode cX6_isAt 11 = .ok (.iload_n 2, 1) := by decide +kernel
theorem dX6_isAt_12 : decode cX6_isAt 12 = .ok (.ifCond .lt 23, 3) := by decide +kernel
theorem dX6_isAt_15 : decode cX6_isAt 15 = .ok (.iload_n 2, 1) := by decide +kernel
theorem dX6_isAt_16 : decode cX6_isAt 16 = .ok (.aload_n 0, 1) := by decide +kernel
theorem dX6_isAt_17 : decode cX6_isAt 17 = .ok (.getfield 18, 3) := by decide +kernel
theorem dX6_isAt_20 : decode cX6_isAt 20 = .ok (.iload_n 1, 1) := by decide +kernel
theorem dX6_isAt_21 : decode cX6_isAt 21 = .ok (.iaload, 1) := by decide +kernel
theorem dX6_isAt_22 : decode cX6_isAt 22 = .ok (.if_icmp .ge 13, 3) := by decide +kernel
theorem dX6_isAt_25 : decode cX6_isAt 25 = .ok (.iload_n 2, 1) := by decide +kernel
theorem dX6_isAt_26 : decode cX6_isAt 26 = .ok (.bipush 60, 2) := by decide +kernel
theorem dX6_isAt_28 : decode cX6_isAt 28 = .ok (.if_icmp .ge 7, 3) := by decide +kernel
theorem dX6_isAt_31 : decode cX6_isAt 31 = .ok (.iconst 1, 1) := by decide +kernel
theorem dX6_isAt_32 : decode cX6_isAt 32 = .ok (.goto 4, 3) := by decide +kernel
theorem dX6_isAt_35 : decode cX6_isAt 35 = .ok (.iconst 0, 1) := by decide +kernel
theorem dX6_isAt_36 : decode cX6_isAt 36 = .ok (.ireturn, 1) := by decide +kernel
theorem dX6_sizeOf_0 : decode cX6_sizeOf 0 = .ok (.iload_n 1, 1) := by decide +kernel
theorem dX6_sizeOf_1 : decode cX6_sizeOf 1 = .ok (.invokestatic 24, 3) := by decide +kernel
theorem dX6_sizeOf_4 : decode cX6_sizeOf 4 = .ok (.ifCond .eq 12, 3) := by decide +kernel
theorem dX6_sizeOf_7 : decode cX6_sizeOf 7 = .ok (.aload_n 0, 1) := by decide +kernel
theorem dX6_sizeOf_8 : decode cX6_sizeOf 8 = .ok (.getfield 18, 3) := by decide +kernel
theorem dX6_sizeOf_11 : decode cX6_sizeOf 11 = .ok (.iload_n 1, 1) := by decide +kernel
theorem dX6_sizeOf_12 : decode cX6_sizeOf 12 = .ok (.iaload, 1) := by decide +kernel
theorem dX6_sizeOf_13 : decode cX6_sizeOf 13 = .ok (.goto 4, 3) := by decide +kernel
theorem dX6_sizeOf_16 : decode cX6_sizeOf 16 = .ok (.iconst 0, 1) := by decide +kernel
theorem dX6_sizeOf_17 : decode cX6_sizeOf 17 = .ok (.ireturn, 1) := by decide +kernel
theorem dX6_goalOf_0 : decode cX6_goalOf 0 = .ok (.iload_n 1, 1) := by decide +kernel
theorem dX6_goalOf_1 : decode cX6_goalOf 1 = .ok (.invokestatic 24, 3) := by decide +kernel
theorem dX6_goalOf_4 : decode cX6_goalOf 4 = .ok (.ifCond .eq 12, 3) := by decide +kernel
theorem dX6_goalOf_7 : decode cX6_goalOf 7 = .ok (.aload_n 0, 1) := by decide +kernel
theorem dX6_goalOf_8 : decode cX6_goalOf 8 = .ok (.getfield 21, 3) := by decide +kernel
theorem dX6_goalOf_11 : decode cX6_goalOf 11 = .ok (.iload_n 1, 1) := by decide +kernel
theorem dX6_goalOf_12 : decode cX6_goalOf 12 = .ok (.iaload, 1) := by decide +kernel
theorem dX6_goalOf_13 : decode cX6_goalOf 13 = .ok (.goto 4, 3) := by decide +kernel
theorem dX6_goalOf_16 : decode cX6_goalOf 16 = .ok (.iconst (-1), 1) := by decide +kernel
theorem dX6_goalOf_17 : decode cX6_goalOf 17 = .ok (.ireturn, 1) := by decide +kernel
theorem dX6_formulaAt_0 : decode cX6_formulaAt 0 = .ok (.aload_n 0, 1) := by decide +kernel
theorem dX6_formulaAt_1 : decode cX6_formulaAt 1 = .ok (.iload_n 1, 1) := by decide +kernel
theorem dX6_formulaAt_2 : decode cX6_formulaAt 2 = .ok (.iload_n 2, 1) := by decide +kernel
theorem dX6_formulaAt_3 : decode cX6_formulaAt 3 = .ok (.invokevirtual 28, 3) := by decide +kernel
theorem dX6_formulaAt_6 : decode cX6_formulaAt 6 = .ok (.ifCond .eq 17, 3) := by decide +kernel
theorem dX6_formulaAt_9 : decode cX6_formulaAt 9 = .ok (.aload_n 0, 1) := by decide +kernel
theorem dX6_formulaAt_10 : decode cX6_formulaAt 10 = .ok (.getfield 11, 3) := by decide +kernel
theorem dX6_formulaAt_13 : decode cX6_formulaAt 13 = .ok (.iload_n 1, 1) := by decide +kernel
theorem dX6_formulaAt_14 : decode cX6_formulaAt 14 = .ok (.bipush 60, 2) := by decide +kernel
theorem dX6_formulaAt_16 : decode cX6_formulaAt 16 = .ok (.imul, 1) := by decide +kernel
theorem dX6_formulaAt_17 : decode cX6_formulaAt 17 = .ok (.iload_n 2, 1) := by decide +kernel
theorem dX6_formulaAt_18 : decode cX6_formulaAt 18 = .ok (.iadd, 1) := by decide +kernel
theorem dX6_formulaAt_19 : decode cX6_formulaAt 19 = .ok (.iaload, 1) := by decide +kernel
theorem dX6_formulaAt_20 : decode cX6_formulaAt 20 = .ok (.goto 4, 3) := by decide +kernel
theorem dX6_formulaAt_23 : decode cX6_formulaAt 23 = .ok (.iconst (-1), 1) := by decide +kernel
theorem dX6_formulaAt_24 : decode cX6_formulaAt 24 = .ok (.ireturn, 1) := by decide +kernel
theorem dX6_termAt_0 : decode cX6_termAt 0 = .ok (.aload_n 0, 1) := by decide +kernel
theorem dX6_termAt_1 : decode cX6_termAt 1 = .ok (.iload_n 1, 1) := by decide +kernel
theorem dX6_termAt_2 : decode cX6_termAt 2 = .ok (.iload_n 2, 1) := by decide +kernel
theorem dX6_termAt_3 : decode cX6_termAt 3 = .ok (.invokevirtual 28, 3) := by decide +kernel
theorem dX6_termAt_6 : decode cX6_termAt 6 = .ok (.ifCond .eq 17, 3) := by decide +kernel
theorem dX6_termAt_9 : decode cX6_termAt 9 = .ok (.aload_n 0, 1) := by decide +kernel
theorem dX6_termAt_10 : decode cX6_termAt 10 = .ok (.getfield 15, 3) := by decide +kernel
theorem dX6_termAt_13 : decode cX6_termAt 13 = .ok (.iload_n 1, 1) := by decide +kernel
theorem dX6_termAt_14 : decode cX6_termAt 14 = .ok (.bipush 60, 2) := by decide +kernel
theorem dX6_termAt_16 : decode cX6_termAt 16 = .ok (.imul, 1) := by decide +kernel
theorem dX6_termAt_17 : decode cX6_termAt 17 = .ok (.iload_n 2, 1) := by decide +kernel
theorem dX6_termAt_18 : decode cX6_termAt 18 = .ok (.iadd, 1) := by decide +kernel
theorem dX6_termAt_19 : decode cX6_termAt 19 = .ok (.iaload, 1) := by decide +kernel
theorem dX6_termAt_20 : decode cX6_termAt 20 = .ok (.goto 4, 3) := by decide +kernel
theorem dX6_termAt_23 : decode cX6_termAt 23 = .ok (.iconst (-1), 1) := by decide +kernel
theorem dX6_termAt_24 : decode cX6_termAt 24 = .ok (.ireturn, 1) := by decide +kernel
theorem dX6_indexOf_0 : decode cX6_indexOf 0 = .ok (.iload_n 1, 1) := by decide +kernel
theorem dX6_indexOf_1 : decode cX6_indexOf 1 = .ok (.ifCond .lt 24, 3) := by decide +kernel
theorem dX6_indexOf_4 : decode cX6_indexOf 4 = .ok (.iload_n 1, 1) := by decide +kernel
theorem dX6_indexOf_5 : decode cX6_indexOf 5 = .ok (.sipush 201, 3) := by decide +kernel
theorem dX6_indexOf_8 : decode cX6_indexOf 8 = .ok (.if_icmp .ge 17, 3) := by decide +kernel
theorem dX6_indexOf_11 : decode cX6_indexOf 11 = .ok (.aload_n 0, 1) := by decide +kernel
theorem dX6_indexOf_12 : decode cX6_indexOf 12 = .ok (.getfield 18, 3) := by decide +kernel
theorem dX6_indexOf_15 : decode cX6_indexOf 15 = .ok (.iload_n 1, 1) := by decide +kernel
theorem dX6_indexOf_16 : decode cX6_indexOf 16 = .ok (.iaload, 1) := by decide +kernel
theorem dX6_indexOf_17 : decode cX6_indexOf 17 = .ok (.bipush 60, 2) := by decide +kernel
theorem dX6_indexOf_19 : decode cX6_indexOf 19 = .ok (.invokestatic 32, 3) := by decide +kernel
theorem dX6_indexOf_22 : decode cX6_indexOf 22 = .ok (.goto 4, 3) := by decide +kernel
theorem dX6_indexOf_25 : decode cX6_indexOf 25 = .ok (.iconst 0, 1) := by decide +kernel
theorem dX6_indexOf_26 : decode cX6_indexOf 26 = .ok (.istore_n 3, 1) := by decide +kernel
theorem dX6_indexOf_27 : decode cX6_indexOf 27 = .ok (.iconst 0, 1) := by decide +kernel
theorem dX6_indexOf_28 : decode cX6_indexOf 28 = .ok (.istore 4, 2) := by decide +kernel
theorem dX6_indexOf_30 : decode cX6_indexOf 30 = .ok (.iload 4, 2) := by decide +kernel
theorem dX6_indexOf_32 : decode cX6_indexOf 32 = .ok (.iload_n 3, 1) := by decide +kernel
theorem dX6_indexOf_33 : decode cX6_indexOf 33 = .ok (.if_icmp .ge 28, 3) := by decide +kernel
theorem dX6_indexOf_36 : decode cX6_indexOf 36 = .ok (.aload_n 0, 1) := by decide +kernel
theorem dX6_indexOf_37 : decode cX6_indexOf 37 = .ok (.getfield 11, 3) := by decide +kernel
theorem dX6_indexOf_40 : decode cX6_indexOf 40 = .ok (.iload_n 1, 1) := by decide +kernel
theorem dX6_indexOf_41 : decode cX6_indexOf 41 = .ok (.bipush 60, 2) := by decide +kernel
theorem dX6_indexOf_43 : decode cX6_indexOf 43 = .ok (.imul, 1) := by decide +kernel
theorem dX6_indexOf_44 : decode cX6_indexOf 44 = .ok (.iload 4, 2) := by decide +kernel
theorem dX6_indexOf_46 : decode cX6_indexOf 46 = .ok (.iadd, 1) := by decide +kernel
theorem dX6_indexOf_47 : decode cX6_indexOf 47 = .ok (.iaload, 1) := by decide +kernel
theorem dX6_indexOf_48 : decode cX6_indexOf 48 = .ok (.iload_n 2, 1) := by decide +kernel
theorem dX6_indexOf_49 : decode cX6_indexOf 49 = .ok (.if_icmp .ne 6, 3) := by decide +kernel
theorem dX6_indexOf_52 : decode cX6_indexOf 52 = .ok (.iload 4, 2) := by decide +kernel
theorem dX6_indexOf_54 : decode cX6_indexOf 54 = .ok (.ireturn, 1) := by decide +kernel
theorem dX6_indexOf_55 : decode cX6_indexOf 55 = .ok (.iinc 4 1, 3) := by decide +kernel
theorem dX6_indexOf_58 : decode cX6_indexOf 58 = .ok (.goto (-28), 3) := by decide +kernel
theorem dX6_indexOf_61 : decode cX6_indexOf 61 = .ok (.iconst (-1), 1) := by decide +kernel
theorem dX6_indexOf_62 : decode cX6_indexOf 62 = .ok (.ireturn, 1) := by decide +kernel
theorem dX6_begin_0 : decode cX6_begin 0 = .ok (.aload_n 0, 1) := by decide +kernel
theorem dX6_begin_1 : decode cX6_begin 1 = .ok (.getfield 18, 3) := by decide +kernel
theorem dX6_begin_4 : decode cX6_begin 4 = .ok (.iconst 0, 1) := by decide +kernel
theorem dX6_begin_5 : decode cX6_begin 5 = .ok (.iconst 0, 1) := by decide +kernel
theorem dX6_begin_6 : decode cX6_begin 6 = .ok (.iastore, 1) := by decide +kernel
theorem dX6_begin_7 : decode cX6_begin 7 = .ok (.aload_n 0, 1) := by decide +kernel
theorem dX6_begin_8 : decode cX6_begin 8 = .ok (.getfield 21, 3) := by decide +kernel
theorem dX6_begin_11 : decode cX6_begin 11 = .ok (.iconst 0, 1) := by decide +kernel
theorem dX6_begin_12 : decode cX6_begin 12 = .ok (.iload_n 1, 1) := by decide +kernel
theorem dX6_begin_13 : decode cX6_begin 13 = .ok (.iastore, 1) := by decide +kernel
theorem dX6_begin_14 : decode cX6_begin 14 = .ok (.aload_n 0, 1) := by decide +kernel
theorem dX6_begin_15 : decode cX6_begin 15 = .ok (.iconst 0, 1) := by decide +kernel
theorem dX6_begin_16 : decode cX6_begin 16 = .ok (.putfield 38, 3) := by decide +kernel
theorem dX6_begin_19 : decode cX6_begin 19 = .ok (.return_, 1) := by decide +kernel
theorem dX6_follow_0 : decode cX6_follow 0 = .ok (.iload_n 1, 1) := by decide +kernel
theorem dX6_follow_1 : decode cX6_follow 1 = .ok (.iconst 1, 1) := by decide +kernel
theorem dX6_follow_2 : decode cX6_follow 2 = .ok (.iadd, 1) := by decide +kernel
theorem dX6_follow_3 : decode cX6_follow 3 = .ok (.istore 4, 2) := by decide +kernel
theorem dX6_follow_5 : decode cX6_follow 5 = .ok (.iload_n 1, 1) := by decide +kernel
theorem dX6_follow_6 : decode cX6_follow 6 = .ok (.invokestatic 24, 3) := by decide +kernel
theorem dX6_follow_9 : decode cX6_follow 9 = .ok (.ifCond .eq 11, 3) := by decide +kernel
theorem dX6_follow_12 : decode cX6_follow 12 = .ok (.iload 4, 2) := by decide +kernel
theorem dX6_follow_14 : decode cX6_follow 14 = .ok (.invokestatic 24, 3) := by decide +kernel
theorem dX6_follow_17 : decode cX6_follow 17 = .ok (.ifCond .ne 4, 3) := by decide +kernel
theorem dX6_follow_20 : decode cX6_follow 20 = .ok (.return_, 1) := by decide +kernel
theorem dX6_follow_21 : decode cX6_follow 21 = .ok (.aload_n 0, 1) := by decide +kernel
theorem dX6_follow_22 : decode cX6_follow 22 = .ok (.getfield 21, 3) := by decide +kernel
theorem dX6_follow_25 : decode cX6_follow 25 = .ok (.iload 4, 2) := by decide +kernel
theorem dX6_follow_27 : decode cX6_follow 27 = .ok (.iload_n 3, 1) := by decide +kernel
theorem dX6_follow_28 : decode cX6_follow 28 = .ok (.iastore, 1) := by decide +kernel
theorem dX6_follow_29 : decode cX6_follow 29 = .ok (.iconst 0, 1) := by decide +kernel
theorem dX6_follow_30 : decode cX6_follow 30 = .ok (.istore 5, 2) := by decide +kernel
theorem dX6_follow_32 : decode cX6_follow 32 = .ok (.iconst 0, 1) := by decide +kernel
theorem dX6_follow_33 : decode cX6_follow 33 = .ok (.istore 6, 2) := by decide +kernel
theorem dX6_follow_35 : decode cX6_follow 35 = .ok (.iload 6, 2) := by decide +kernel
theorem dX6_follow_37 : decode cX6_follow 37 = .ok (.aload_n 0, 1) := by decide +kernel
theorem dX6_follow_38 : decode cX6_follow 38 = .ok (.getfield 18, 3) := by decide +kernel
theorem dX6_follow_41 : decode cX6_follow 41 = .ok (.iload_n 1, 1) := by decide +kernel
theorem dX6_follow_42 : decode cX6_follow 42 = .ok (.iaload, 1) := by decide +kernel
theorem dX6_follow_43 : decode cX6_follow 43 = .ok (.if_icmp .ge 75, 3) := by decide +kernel
theorem dX6_follow_46 : decode cX6_follow 46 = .ok (.iload 6, 2) := by decide +kernel
theorem dX6_follow_48 : decode cX6_follow 48 = .ok (.bipush 60, 2) := by decide +kernel
theorem dX6_follow_50 : decode cX6_follow 50 = .ok (.if_icmp .ge 68, 3) := by decide +kernel
theorem dX6_follow_53 : decode cX6_follow 53 = .ok (.iload 6, 2) := by decide +kernel
theorem dX6_follow_55 : decode cX6_follow 55 = .ok (.iload_n 2, 1) := by decide +kernel
theorem dX6_follow_56 : decode cX6_follow 56 = .ok (.if_icmp .eq 56, 3) := by decide +kernel
theorem dX6_follow_59 : decode cX6_follow 59 = .ok (.aload_n 0, 1) := by decide +kernel
theorem dX6_follow_60 : decode cX6_follow 60 = .ok (.getfield 11, 3) := by decide +kernel
theorem dX6_follow_63 : decode cX6_follow 63 = .ok (.iload 4, 2) := by decide +kernel
theorem dX6_follow_65 : decode cX6_follow 65 = .ok (.bipush 60, 2) := by decide +kernel
theorem dX6_follow_67 : decode cX6_follow 67 = .ok (.imul, 1) := by decide +kernel
theorem dX6_follow_68 : decode cX6_follow 68 = .ok (.iload 5, 2) := by decide +kernel
theorem dX6_follow_70 : decode cX6_follow 70 = .ok (.iadd, 1) := by decide +kernel
theorem dX6_follow_71 : decode cX6_follow 71 = .ok (.aload_n 0, 1) := by decide +kernel
theorem dX6_follow_72 : decode cX6_follow 72 = .ok (.getfield 11, 3) := by decide +kernel
theorem dX6_follow_75 : decode cX6_follow 75 = .ok (.iload_n 1, 1) := by decide +kernel
theorem dX6_follow_76 : decode cX6_follow 76 = .ok (.bipush 60, 2) := by decide +kernel
theorem dX6_follow_78 : decode cX6_follow 78 = .ok (.imul, 1) := by decide +kernel
theorem dX6_follow_79 : decode cX6_follow 79 = .ok (.iload 6, 2) := by decide +kernel
theorem dX6_follow_81 : decode cX6_follow 81 = .ok (.iadd, 1) := by decide +kernel
theorem dX6_follow_82 : decode cX6_follow 82 = .ok (.iaload, 1) := by decide +kernel
theorem dX6_follow_83 : decode cX6_follow 83 = .ok (.iastore, 1) := by decide +kernel
theorem dX6_follow_84 : decode cX6_follow 84 = .ok (.aload_n 0, 1) := by decide +kernel
theorem dX6_follow_85 : decode cX6_follow 85 = .ok (.getfield 15, 3) := by decide +kernel
theorem dX6_follow_88 : decode cX6_follow 88 = .ok (.iload 4, 2) := by decide +kernel
theorem dX6_follow_90 : decode cX6_follow 90 = .ok (.bipush 60, 2) := by decide +kernel
theorem dX6_follow_92 : decode cX6_follow 92 = .ok (.imul, 1) := by decide +kernel
theorem dX6_follow_93 : decode cX6_follow 93 = .ok (.iload 5, 2) := by decide +kernel
theorem dX6_follow_95 : decode cX6_follow 95 = .ok (.iadd, 1) := by decide +kernel
theorem dX6_follow_96 : decode cX6_follow 96 = .ok (.aload_n 0, 1) := by decide +kernel
theorem dX6_follow_97 : decode cX6_follow 97 = .ok (.getfield 15, 3) := by decide +kernel
theorem dX6_follow_100 : decode cX6_follow 100 = .ok (.iload_n 1, 1) := by decide +kernel
theorem dX6_follow_101 : decode cX6_follow 101 = .ok (.bipush 60, 2) := by decide +kernel
theorem dX6_follow_103 : decode cX6_follow 103 = .ok (.imul, 1) := by decide +kernel
theorem dX6_follow_104 : decode cX6_follow 104 = .ok (.iload 6, 2) := by decide +kernel
theorem dX6_follow_106 : decode cX6_follow 106 = .ok (.iadd, 1) := by decide +kernel
theorem dX6_follow_107 : decode cX6_follow 107 = .ok (.iaload, 1) := by decide +kernel
theorem dX6_follow_108 : decode cX6_follow 108 = .ok (.iastore, 1) := by decide +kernel
theorem dX6_follow_109 : decode cX6_follow 109 = .ok (.iinc 5 1, 3) := by decide +kernel
theorem dX6_follow_112 : decode cX6_follow 112 = .ok (.iinc 6 1, 3) := by decide +kernel
theorem dX6_follow_115 : decode cX6_follow 115 = .ok (.goto (-80), 3) := by decide +kernel
theorem dX6_follow_118 : decode cX6_follow 118 = .ok (.aload_n 0, 1) := by decide +kernel
theorem dX6_follow_119 : decode cX6_follow 119 = .ok (.getfield 18, 3) := by decide +kernel
theorem dX6_follow_122 : decode cX6_follow 122 = .ok (.iload 4, 2) := by decide +kernel
theorem dX6_follow_124 : decode cX6_follow 124 = .ok (.iload 5, 2) := by decide +kernel
theorem dX6_follow_126 : decode cX6_follow 126 = .ok (.iastore, 1) := by decide +kernel
theorem dX6_follow_127 : decode cX6_follow 127 = .ok (.return_, 1) := by decide +kernel
theorem dX6_comes_0 : decode cX6_comes 0 = .ok (.aload_n 0, 1) := by decide +kernel
theorem dX6_comes_1 : decode cX6_comes 1 = .ok (.iload_n 1, 1) := by decide +kernel
theorem dX6_comes_2 : decode cX6_comes 2 = .ok (.iload_n 2, 1) := by decide +kernel
theorem dX6_comes_3 : decode cX6_comes 3 = .ok (.invokevirtual 42, 3) := by decide +kernel
theorem dX6_comes_6 : decode cX6_comes 6 = .ok (.ifCond .lt 5, 3) := by decide +kernel
theorem dX6_comes_9 : decode cX6_comes 9 = .ok (.iconst 1, 1) := by decide +kernel
theorem dX6_comes_10 : decode cX6_comes 10 = .ok (.ireturn, 1) := by decide +kernel
theorem dX6_comes_11 : decode cX6_comes 11 = .ok (.iload_n 1, 1) := by decide +kernel
theorem dX6_comes_12 : decode cX6_comes 12 = .ok (.invokestatic 24, 3) := by decide +kernel
theorem dX6_comes_15 : decode cX6_comes 15 = .ok (.ifCond .eq 23, 3) := by decide +kernel
theorem dX6_comes_18 : decode cX6_comes 18 = .ok (.aload_n 0, 1) := by decide +kernel
theorem dX6_comes_19 : decode cX6_comes 19 = .ok (.getfield 18, 3) := by decide +kernel
theorem dX6_comes_22 : decode cX6_comes 22 = .ok (.iload_n 1, 1) := by decide +kernel
theorem dX6_comes_23 : decode cX6_comes 23 = .ok (.iaload, 1) := by decide +kernel
theorem dX6_comes_24 : decode cX6_comes 24 = .ok (.ifCond .lt 14, 3) := by decide +kernel
theorem dX6_comes_27 : decode cX6_comes 27 = .ok (.aload_n 0, 1) := by decide +kernel
theorem dX6_comes_28 : decode cX6_comes 28 = .ok (.getfield 18, 3) := by decide +kernel
theorem dX6_comes_31 : decode cX6_comes 31 = .ok (.iload_n 1, 1) := by decide +kernel
theorem dX6_comes_32 : decode cX6_comes 32 = .ok (.iaload, 1) := by decide +kernel
theorem dX6_comes_33 : decode cX6_comes 33 = .ok (.bipush 60, 2) := by decide +kernel
theorem dX6_comes_35 : decode cX6_comes 35 = .ok (.if_icmp .lt 5, 3) := by decide +kernel
theorem dX6_comes_38 : decode cX6_comes 38 = .ok (.iconst 0, 1) := by decide +kernel
theorem dX6_comes_39 : decode cX6_comes 39 = .ok (.ireturn, 1) := by decide +kernel
theorem dX6_comes_40 : decode cX6_comes 40 = .ok (.aload_n 0, 1) := by decide +kernel
theorem dX6_comes_41 : decode cX6_comes 41 = .ok (.getfield 11, 3) := by decide +kernel
theorem dX6_comes_44 : decode cX6_comes 44 = .ok (.iload_n 1, 1) := by decide +kernel
theorem dX6_comes_45 : decode cX6_comes 45 = .ok (.bipush 60, 2) := by decide +kernel
theorem dX6_comes_47 : decode cX6_comes 47 = .ok (.imul, 1) := by decide +kernel
theorem dX6_comes_48 : decode cX6_comes 48 = .ok (.aload_n 0, 1) := by decide +kernel
theorem dX6_comes_49 : decode cX6_comes 49 = .ok (.getfield 18, 3) := by decide +kernel
theorem dX6_comes_52 : decode cX6_comes 52 = .ok (.iload_n 1, 1) := by decide +kernel
theorem dX6_comes_53 : decode cX6_comes 53 = .ok (.iaload, 1) := by decide +kernel
theorem dX6_comes_54 : decode cX6_comes 54 = .ok (.iadd, 1) := by decide +kernel
theorem dX6_comes_55 : decode cX6_comes 55 = .ok (.iload_n 2, 1) := by decide +kernel
theorem dX6_comes_56 : decode cX6_comes 56 = .ok (.iastore, 1) := by decide +kernel
theorem dX6_comes_57 : decode cX6_comes 57 = .ok (.aload_n 0, 1) := by decide +kernel
theorem dX6_comes_58 : decode cX6_comes 58 = .ok (.getfield 15, 3) := by decide +kernel
theorem dX6_comes_61 : decode cX6_comes 61 = .ok (.iload_n 1, 1) := by decide +kernel
theorem dX6_comes_62 : decode cX6_comes 62 = .ok (.bipush 60, 2) := by decide +kernel
theorem dX6_comes_64 : decode cX6_comes 64 = .ok (.imul, 1) := by decide +kernel
theorem dX6_comes_65 : decode cX6_comes 65 = .ok (.aload_n 0, 1) := by decide +kernel
theorem dX6_comes_66 : decode cX6_comes 66 = .ok (.getfield 18, 3) := by decide +kernel
theorem dX6_comes_69 : decode cX6_comes 69 = .ok (.iload_n 1, 1) := by decide +kernel
theorem dX6_comes_70 : decode cX6_comes 70 = .ok (.iaload, 1) := by decide +kernel
theorem dX6_comes_71 : decode cX6_comes 71 = .ok (.iadd, 1) := by decide +kernel
theorem dX6_comes_72 : decode cX6_comes 72 = .ok (.iload_n 3, 1) := by decide +kernel
theorem dX6_comes_73 : decode cX6_comes 73 = .ok (.iastore, 1) := by decide +kernel
theorem dX6_comes_74 : decode cX6_comes 74 = .ok (.aload_n 0, 1) := by decide +kernel
theorem dX6_comes_75 : decode cX6_comes 75 = .ok (.getfield 18, 3) := by decide +kernel
theorem dX6_comes_78 : decode cX6_comes 78 = .ok (.iload_n 1, 1) := by decide +kernel
theorem dX6_comes_79 : decode cX6_comes 79 = .ok (.dup2, 1) := by decide +kernel
theorem dX6_comes_80 : decode cX6_comes 80 = .ok (.iaload, 1) := by decide +kernel
theorem dX6_comes_81 : decode cX6_comes 81 = .ok (.iconst 1, 1) := by decide +kernel
theorem dX6_comes_82 : decode cX6_comes 82 = .ok (.iadd, 1) := by decide +kernel
theorem dX6_comes_83 : decode cX6_comes 83 = .ok (.iastore, 1) := by decide +kernel
theorem dX6_comes_84 : decode cX6_comes 84 = .ok (.aload_n 0, 1) := by decide +kernel
theorem dX6_comes_85 : decode cX6_comes 85 = .ok (.aload_n 0, 1) := by decide +kernel
theorem dX6_comes_86 : decode cX6_comes 86 = .ok (.getfield 38, 3) := by decide +kernel
theorem dX6_comes_89 : decode cX6_comes 89 = .ok (.aload_n 0, 1) := by decide +kernel
theorem dX6_comes_90 : decode cX6_comes 90 = .ok (.getfield 18, 3) := by decide +kernel
theorem dX6_comes_93 : decode cX6_comes 93 = .ok (.iload_n 1, 1) := by decide +kernel
theorem dX6_comes_94 : decode cX6_comes 94 = .ok (.iaload, 1) := by decide +kernel
theorem dX6_comes_95 : decode cX6_comes 95 = .ok (.invokestatic 45, 3) := by decide +kernel
theorem dX6_comes_98 : decode cX6_comes 98 = .ok (.putfield 38, 3) := by decide +kernel
theorem dX6_comes_101 : decode cX6_comes 101 = .ok (.iconst 1, 1) := by decide +kernel
theorem dX6_comes_102 : decode cX6_comes 102 = .ok (.ireturn, 1) := by decide +kernel
