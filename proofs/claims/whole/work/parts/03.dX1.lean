theorem dX1_init_0 : decode cX1_init 0 = .ok (.aload_n 0, 1) := by decide +kernel
theorem dX1_init_1 : decode cX1_init 1 = .ok (.invokespecial 3, 3) := by decide +kernel
theorem dX1_init_4 : decode cX1_init 4 = .ok (.aload_n 0, 1) := by decide +kernel
theorem dX1_init_5 : decode cX1_init 5 = .ok (.sipush 1024, 3) := by decide +kernel
theorem dX1_init_8 : decode cX1_init 8 = .ok (.newarray .int, 2) := by decide +kernel
theorem dX1_init_10 : decode cX1_init 10 = .ok (.putfield 11, 3) := by decide +kernel
theorem dX1_init_13 : decode cX1_init 13 = .ok (.aload_n 0, 1) := by decide +kernel
theorem dX1_init_14 : decode cX1_init 14 = .ok (.bipush 24, 2) := by decide +kernel
theorem dX1_init_16 : decode cX1_init 16 = .ok (.newarray .long, 2) := by decide +kernel
theorem dX1_init_18 : decode cX1_init 18 = .ok (.putfield 15, 3) := by decide +kernel
theorem dX1_init_21 : decode cX1_init 21 = .ok (.aload_n 0, 1) := by decide +kernel
theorem dX1_init_22 : decode cX1_init 22 = .ok (.iload_n 1, 1) := by decide +kernel
theorem dX1_init_23 : decode cX1_init 23 = .ok (.iconst 0, 1) := by decide +kernel
theorem dX1_init_24 : decode cX1_init 24 = .ok (.invokestatic 19, 3) := by decide +kernel
theorem dX1_init_27 : decode cX1_init 27 = .ok (.putfield 25, 3) := by decide +kernel
theorem dX1_init_30 : decode cX1_init 30 = .ok (.aload_n 0, 1) := by decide +kernel
theorem dX1_init_31 : decode cX1_init 31 = .ok (.aload_n 0, 1) := by decide +kernel
theorem dX1_init_32 : decode cX1_init 32 = .ok (.getfield 25, 3) := by decide +kernel
theorem dX1_init_35 : decode cX1_init 35 = .ok (.newarray .int, 2) := by decide +kernel
theorem dX1_init_37 : decode cX1_init 37 = .ok (.putfield 29, 3) := by decide +kernel
theorem dX1_init_40 : decode cX1_init 40 = .ok (.aload_n 0, 1) := by decide +kernel
theorem dX1_init_41 : decode cX1_init 41 = .ok (.aload_n 0, 1) := by decide +kernel
theorem dX1_init_42 : decode cX1_init 42 = .ok (.getfield 25, 3) := by decide +kernel
theorem dX1_init_45 : decode cX1_init 45 = .ok (.newarray .int, 2) := by decide +kernel
theorem dX1_init_47 : decode cX1_init 47 = .ok (.putfield 32, 3) := by decide +kernel
theorem dX1_init_50 : decode cX1_init 50 = .ok (.aload_n 0, 1) := by decide +kernel
theorem dX1_init_51 : decode cX1_init 51 = .ok (.aload_n 0, 1) := by decide +kernel
theorem dX1_init_52 : decode cX1_init 52 = .ok (.getfield 25, 3) := by decide +kernel
theorem dX1_init_55 : decode cX1_init 55 = .ok (.newarray .int, 2) := by decide +kernel
theorem dX1_init_57 : decode cX1_init 57 = .ok (.putfield 35, 3) := by decide +kernel
theorem dX1_init_60 : decode cX1_init 60 = .ok (.aload_n 0, 1) := by decide +kernel
theorem dX1_init_61 : decode cX1_init 61 = .ok (.aload_n 0, 1) := by decide +kernel
theorem dX1_init_62 : decode cX1_init 62 = .ok (.getfield 25, 3) := by decide +kernel
theorem dX1_init_65 : decode cX1_init 65 = .ok (.newarray .int, 2) := by decide +kernel
theorem dX1_init_67 : decode cX1_init 67 = .ok (.putfield 38, 3) := by decide +kernel
theorem dX1_init_70 : decode cX1_init 70 = .ok (.aload_n 0, 1) := by decide +kernel
theorem dX1_init_71 : decode cX1_init 71 = .ok (.iconst 0, 1) := by decide +kernel
theorem dX1_init_72 : decode cX1_init 72 = .ok (.iconst 0, 1) := by decide +kernel
theorem dX1_init_73 : decode cX1_init 73 = .ok (.iconst 0, 1) := by decide +kernel
theorem dX1_init_74 : decode cX1_init 74 = .ok (.invokevirtual 41, 3) := by decide +kernel
theorem dX1_init_77 : decode cX1_init 77 = .ok (.pop, 1) := by decide +kernel
theorem dX1_init_78 : decode cX1_init 78 = .ok (.aload_n 0, 1) := by decide +kernel
theorem dX1_init_79 : decode cX1_init 79 = .ok (.iconst 1, 1) := by decide +kernel
theorem dX1_init_80 : decode cX1_init 80 = .ok (.iconst 0, 1) := by decide +kernel
theorem dX1_init_81 : decode cX1_init 81 = .ok (.iconst 0, 1) := by decide +kernel
theorem dX1_init_82 : decode cX1_init 82 = .ok (.invokevirtual 41, 3) := by decide +kernel
theorem dX1_init_85 : decode cX1_init 85 = .ok (.pop, 1) := by decide +kernel
theorem dX1_init_86 : decode cX1_init 86 = .ok (.return_, 1) := by decide +kernel
theorem dX1_many_0 : decode cX1_many 0 = .ok (.aload_n 0, 1) := by decide +kernel
theorem dX1_many_1 : decode cX1_many 1 = .ok (.getfield 45, 3) := by decide +kernel
theorem dX1_many_4 : decode cX1_many 4 = .ok (.ireturn, 1) := by decide +kernel
theorem dX1_variables_0 : decode cX1_variables 0 = .ok (.aload_n 0, 1) := by decide +kernel
theorem dX1_variables_1 : decode cX1_variables 1 = .ok (.getfield 48, 3) := by decide +kernel
theorem dX1_variables_4 : decode cX1_variables 4 = .ok (.ireturn, 1) := by decide +kernel
theorem dX1_has_0 : decode cX1_has 0 = .ok (.iload_n 1, 1) := by decide +kernel
theorem dX1_has_1 : decode cX1_has 1 = .ok (.ifCond .lt 23, 3) := by decide +kernel
theorem dX1_has_4 : decode cX1_has 4 = .ok (.iload_n 1, 1) := by decide +kernel
theorem dX1_has_5 : decode cX1_has 5 = .ok (.aload_n 0, 1) := by decide +kernel
theorem dX1_has_6 : decode cX1_has 6 = .ok (.getfield 45, 3) := by decide +kernel
theorem dX1_has_9 : decode cX1_has 9 = .ok (.if_icmp .ge 15, 3) := by decide +kernel
theorem dX1_has_12 : decode cX1_has 12 = .ok (.iload_n 1, 1) := by decide +kernel
theorem dX1_has_13 : decode cX1_has 13 = .ok (.aload_n 0, 1) := by decide +kernel
theorem dX1_has_14 : decode cX1_has 14 = .ok (.getfield 25, 3) := by decide +kernel
theorem dX1_has_17 : decode cX1_has 17 = .ok (.if_icmp .ge 7, 3) := by decide +kernel
theorem dX1_has_20 : decode cX1_has 20 = .ok (.iconst 1, 1) := by decide +kernel
theorem dX1_has_21 : decode cX1_has 21 = .ok (.goto 4, 3) := by decide +kernel
theorem dX1_has_24 : decode cX1_has 24 = .ok (.iconst 0, 1) := by decide +kernel
theorem dX1_has_25 : decode cX1_has 25 = .ok (.ireturn, 1) := by decide +kernel
theorem dX1_hasVariable_0 : decode cX1_hasVariable 0 = .ok (.iload_n 1, 1) := by decide +kernel
theorem dX1_hasVariable_1 : decode cX1_hasVariable 1 = .ok (.ifCond .lt 21, 3) := by decide +kernel
theorem dX1_hasVariable_4 : decode cX1_hasVariable 4 = .ok (.iload_n 1, 1) := by decide +kernel
theorem dX1_hasVariable_5 : decode cX1_hasVariable 5 = .ok (.aload_n 0, 1) := by decide +kernel
theorem dX1_hasVariable_6 : decode cX1_hasVariable 6 = .ok (.getfield 48, 3) := by decide +kernel
theorem dX1_hasVariable_9 : decode cX1_hasVariable 9 = .ok (.if_icmp .ge 13, 3) := by decide +kernel
theorem dX1_hasVariable_12 : decode cX1_hasVariable 12 = .ok (.iload_n 1, 1) := by decide +kernel
theorem dX1_hasVariable_13 : decode cX1_hasVariable 13 = .ok (.bipush 24, 2) := by decide +kernel
theorem dX1_hasVariable_15 : decode cX1_hasVariable 15 = .ok (.if_icmp .ge 7, 3) := by decide +kernel
theorem dX1_hasVariable_18 : decode cX1_hasVariable 18 = .ok (.iconst 1, 1) := by decide +kernel
theorem dX1_hasVariable_19 : decode cX1_hasVariable 19 = .ok (.goto 4, 3) := by decide +kernel
theorem dX1_hasVariable_22 : decode cX1_hasVariable 22 = .ok (.iconst 0, 1) := by decide +kernel
theorem dX1_hasVariable_23 : decode cX1_hasVariable 23 = .ok (.ireturn, 1) := by decide +kernel
theorem dX1_kindOf_0 : decode cX1_kindOf 0 = .ok (.aload_n 0, 1) := by decide +kernel
theorem dX1_kindOf_1 : decode cX1_kindOf 1 = .ok (.iload_n 1, 1) := by decide +kernel
theorem dX1_kindOf_2 : decode cX1_kindOf 2 = .ok (.invokevirtual 51, 3) := by decide +kernel
theorem dX1_kindOf_5 : decode cX1_kindOf 5 = .ok (.ifCond .eq 12, 3) := by decide +kernel
theorem dX1_kindOf_8 : decode cX1_kindOf 8 = .ok (.aload_n 0, 1) := by decide +kernel
theorem dX1_kindOf_9 : decode cX1_kindOf 9 = .ok (.getfield 29, 3) := by decide +kernel
theorem dX1_kindOf_12 : decode cX1_kindOf 12 = .ok (.iload_n 1, 1) := by decide +kernel
theorem dX1_kindOf_13 : decode cX1_kindOf 13 = .ok (.iaload, 1) := by decide +kernel
theorem dX1_kindOf_14 : decode cX1_kindOf 14 = .ok (.goto 4, 3) := by decide +kernel
theorem dX1_kindOf_17 : decode cX1_kindOf 17 = .ok (.iconst (-1), 1) := by decide +kernel
theorem dX1_kindOf_18 : decode cX1_kindOf 18 = .ok (.ireturn, 1) := by decide +kernel
theorem dX1_firstOf_0 : decode cX1_firstOf 0 = .ok (.aload_n 0, 1) := by decide +kernel
theorem dX1_firstOf_1 : decode cX1_firstOf 1 = .ok (.iload_n 1, 1) := by decide +kernel
theorem dX1_firstOf_2 : decode cX1_firstOf 2 = .ok (.invokevirtual 51, 3) := by decide +kernel
theorem dX1_firstOf_5 : decode cX1_firstOf 5 = .ok (.ifCond .eq 12, 3) := by decide +kernel
theorem dX1_firstOf_8 : decode cX1_firstOf 8 = .ok (.aload_n 0, 1) := by decide +kernel
theorem dX1_firstOf_9 : decode cX1_firstOf 9 = .ok (.getfield 32, 3) := by decide +kernel
theorem dX1_firstOf_12 : decode cX1_firstOf 12 = .ok (.iload_n 1, 1) := by decide +kernel
theorem dX1_firstOf_13 : decode cX1_firstOf 13 = .ok (.iaload, 1) := by decide +kernel
theorem dX1_firstOf_14 : decode cX1_firstOf 14 = .ok (.goto 4, 3) := by decide +kernel
theorem dX1_firstOf_17 : decode cX1_firstOf 17 = .ok (.iconst (-1), 1) := by decide +kernel
theorem dX1_firstOf_18 : decode cX1_firstOf 18 = .ok (.ireturn, 1) := by decide +kernel
theorem dX1_secondOf_0 : decode cX1_secondOf 0 = .ok (.aload_n 0, 1) := by decide +kernel
theorem dX1_secondOf_1 : decode cX1_secondOf 1 = .ok (.iload_n 1, 1) := by decide +kernel
theorem dX1_secondOf_2 : decode cX1_secondOf 2 = .ok (.invokevirtual 51, 3) := by decide +kernel
theorem dX1_secondOf_5 : decode cX1_secondOf 5 = .ok (.ifCond .eq 12, 3) := by decide +kernel
theorem dX1_secondOf_8 : decode cX1_secondOf 8 = .ok (.aload_n 0, 1) := by decide +kernel
theorem dX1_secondOf_9 : decode cX1_secondOf 9 = .ok (.getfield 35, 3) := by decide +kernel
theorem dX1_secondOf_12 : decode cX1_secondOf 12 = .ok (.iload_n 1, 1) := by decide +kernel
theorem dX1_secondOf_13 : decode cX1_secondOf 13 = .ok (.iaload, 1) := by decide +kernel
theorem dX1_secondOf_14 : decode cX1_secondOf 14 = .ok (.goto 4, 3) := by decide +kernel
theorem dX1_secondOf_17 : decode cX1_secondOf 17 = .ok (.iconst (-1), 1) := by decide +kernel
theorem dX1_secondOf_18 : decode cX1_secondOf 18 = .ok (.ireturn, 1) := by decide +kernel
theorem dX1_find_0 : decode cX1_find 0 = .ok (.aload_n 0, 1) := by decide +kernel
theorem dX1_find_1 : decode cX1_find 1 = .ok (.getfield 11, 3) := by decide +kernel
theorem dX1_find_4 : decode cX1_find 4 = .ok (.iload_n 1, 1) := by decide +kernel
theorem dX1_find_5 : decode cX1_find 5 = .ok (.iload_n 2, 1) := by decide +kernel
theorem dX1_find_6 : decode cX1_find 6 = .ok (.iload_n 3, 1) := by decide +kernel
theorem dX1_find_7 : decode cX1_find 7 = .ok (.invokestatic 55, 3) := by decide +kernel
theorem dX1_find_10 : decode cX1_find 10 = .ok (.iaload, 1) := by decide +kernel
theorem dX1_find_11 : decode cX1_find 11 = .ok (.iconst 1, 1) := by decide +kernel
theorem dX1_find_12 : decode cX1_find 12 = .ok (.isub, 1) := by decide +kernel
theorem dX1_find_13 : decode cX1_find 13 = .ok (.istore 4, 2) := by decide +kernel
theorem dX1_find_15 : decode cX1_find 15 = .ok (.iconst 0, 1) := by decide +kernel
theorem dX1_find_16 : decode cX1_find 16 = .ok (.istore 5, 2) := by decide +kernel
theorem dX1_find_18 : decode cX1_find 18 = .ok (.iload 5, 2) := by decide +kernel
theorem dX1_find_20 : decode cX1_find 20 = .ok (.aload_n 0, 1) := by decide +kernel
theorem dX1_find_21 : decode cX1_find 21 = .ok (.getfield 45, 3) := by decide +kernel
theorem dX1_find_24 : decode cX1_find 24 = .ok (.if_icmp .ge 65, 3) := by decide +kernel
theorem dX1_find_27 : decode cX1_find 27 = .ok (.aload_n 0, 1) := by decide +kernel
theorem dX1_find_28 : decode cX1_find 28 = .ok (.iload 4, 2) := by decide +kernel
theorem dX1_find_30 : decode cX1_find 30 = .ok (.invokevirtual 51, 3) := by decide +kernel
theorem dX1_find_33 : decode cX1_find 33 = .ok (.ifCond .eq 56, 3) := by decide +kernel
theorem dX1_find_36 : decode cX1_find 36 = .ok (.aload_n 0, 1) := by decide +kernel
theorem dX1_find_37 : decode cX1_find 37 = .ok (.getfield 29, 3) := by decide +kernel
theorem dX1_find_40 : decode cX1_find 40 = .ok (.iload 4, 2) := by decide +kernel
theorem dX1_find_42 : decode cX1_find 42 = .ok (.iaload, 1) := by decide +kernel
theorem dX1_find_43 : decode cX1_find 43 = .ok (.iload_n 1, 1) := by decide +kernel
theorem dX1_find_44 : decode cX1_find 44 = .ok (.if_icmp .ne 28, 3) := by decide +kernel
theorem dX1_find_47 : decode cX1_find 47 = .ok (.aload_n 0, 1) := by decide +kernel
theorem dX1_find_48 : decode cX1_find 48 = .ok (.getfield 32, 3) := by decide +kernel
theorem dX1_find_51 : decode cX1_find 51 = .ok (.iload 4, 2) := by decide +kernel
theorem dX1_find_53 : decode cX1_find 53 = .ok (.iaload, 1) := by decide +kernel
theorem dX1_find_54 : decode cX1_find 54 = .ok (.iload_n 2, 1) := by decide +kernel
theorem dX1_find_55 : decode cX1_find 55 = .ok (.if_icmp .ne 17, 3) := by decide +kernel
theorem dX1_find_58 : decode cX1_find 58 = .ok (.aload_n 0, 1) := by decide +kernel
theorem dX1_find_59 : decode cX1_find 59 = .ok (.getfield 35, 3) := by decide +kernel
theorem dX1_find_62 : decode cX1_find 62 = .ok (.iload 4, 2) := by decide +kernel
theorem dX1_find_64 : decode cX1_find 64 = .ok (.iaload, 1) := by decide +kernel
theorem dX1_find_65 : decode cX1_find 65 = .ok (.iload_n 3, 1) := by decide +kernel
theorem dX1_find_66 : decode cX1_find 66 = .ok (.if_icmp .ne 6, 3) := by decide +kernel
theorem dX1_find_69 : decode cX1_find 69 = .ok (.iload 4, 2) := by decide +kernel
theorem dX1_find_71 : decode cX1_find 71 = .ok (.ireturn, 1) := by decide +kernel
theorem dX1_find_72 : decode cX1_find 72 = .ok (.aload_n 0, 1) := by decide +kernel
theorem dX1_find_73 : decode cX1_find 73 = .ok (.getfield 38, 3) := by decide +kernel
theorem dX1_find_76 : decode cX1_find 76 = .ok (.iload 4, 2) := by decide +kernel
theorem dX1_find_78 : decode cX1_find 78 = .ok (.iaload, 1) := by decide +kernel
theorem dX1_find_79 : decode cX1_find 79 = .ok (.iconst 1, 1) := by decide +kernel
theorem dX1_find_80 : decode cX1_find 80 = .ok (.isub, 1) := by decide +kernel
theorem dX1_find_81 : decode cX1_find 81 = .ok (.istore 4, 2) := by decide +kernel
theorem dX1_find_83 : decode cX1_find 83 = .ok (.iinc 5 1, 3) := by decide +kernel
theorem dX1_find_86 : decode cX1_find 86 = .ok (.goto (-68), 3) := by decide +kernel
theorem dX1_find_89 : decode cX1_find 89 = .ok (.iconst (-1), 1) := by decide +kernel
theorem dX1_find_90 : decode cX1_find 90 = .ok (.ireturn, 1) := by decide +kernel
theorem dX1_joined_0 : decode cX1_joined 0 = .ok (.aload_n 0, 1) := by decide +kernel
theorem dX1_joined_1 : decode cX1_joined 1 = .ok (.iload_n 1, 1) := by decide +kernel
theorem dX1_joined_2 : decode cX1_joined 2 = .ok (.iload_n 2, 1) := by decide +kernel
theorem dX1_joined_3 : decode cX1_joined 3 = .ok (.iload_n 3, 1) := by decide +kernel
theorem dX1_joined_4 : decode cX1_joined 4 = .ok (.invokevirtual 58, 3) := by decide +kernel
theorem dX1_joined_7 : decode cX1_joined 7 = .ok (.istore 4, 2) := by decide +kernel
theorem dX1_joined_9 : decode cX1_joined 9 = .ok (.iload 4, 2) := by decide +kernel
theorem dX1_joined_11 : decode cX1_joined 11 = .ok (.ifCond .lt 8, 3) := by decide +kernel
theorem dX1_joined_14 : decode cX1_joined 14 = .ok (.iload 4, 2) := by decide +kernel
theorem dX1_joined_16 : decode cX1_joined 16 = .ok (.goto 10, 3) := by decide +kernel
theorem dX1_joined_19 : decode cX1_joined 19 = .ok (.aload_n 0, 1) := by decide +kernel
theorem dX1_joined_20 : decode cX1_joined 20 = .ok (.iload_n 1, 1) := by decide +kernel
theorem dX1_joined_21 : decode cX1_joined 21 = .ok (.iload_n 2, 1) := by decide +kernel
theorem dX1_joined_22 : decode cX1_joined 22 = .ok (.iload_n 3, 1) := by decide +kernel
theorem dX1_joined_23 : decode cX1_joined 23 = .ok (.invokevirtual 41, 3) := by decide +kernel
theorem dX1_joined_26 : decode cX1_joined 26 = .ok (.ireturn, 1) := by decide +kernel
theorem dX1_add_0 : decode cX1_add 0 = .ok (.aload_n 0, 1) := by decide +kernel
theorem dX1_add_1 : decode cX1_add 1 = .ok (.getfield 45, 3) := by decide +kernel
theorem dX1_add_4 : decode cX1_add 4 = .ok (.ifCond .lt 14, 3) := by decide +kernel
theorem dX1_add_7 : decode cX1_add 7 = .ok (.aload_n 0, 1) := by decide +kernel
theorem dX1_add_8 : decode cX1_add 8 = .ok (.getfield 45, 3) := by decide +kernel
theorem dX1_add_11 : decode cX1_add 11 = .ok (.aload_n 0, 1) := by decide +kernel
theorem dX1_add_12 : decode cX1_add 12 = .ok (.getfield 25, 3) := by decide +kernel
theorem dX1_add_15 : decode cX1_add 15 = .ok (.if_icmp .lt 5, 3) := by decide +kernel
theorem dX1_add_18 : decode cX1_add 18 = .ok (.iconst (-1), 1) := by decide +kernel
theorem dX1_add_19 : decode cX1_add 19 = .ok (.ireturn, 1) := by decide +kernel
theorem dX1_add_20 : decode cX1_add 20 = .ok (.iload_n 1, 1) := by decide +kernel
theorem dX1_add_21 : decode cX1_add 21 = .ok (.iload_n 2, 1) := by decide +kernel
theorem dX1_add_22 : decode cX1_add 22 = .ok (.iload_n 3, 1) := by decide +kernel
theorem dX1_add_23 : decode cX1_add 23 = .ok (.invokestatic 55, 3) := by decide +kernel
theorem dX1_add_26 : decode cX1_add 26 = .ok (.istore 4, 2) := by decide +kernel
theorem dX1_add_28 : decode cX1_add 28 = .ok (.aload_n 0, 1) := by decide +kernel
theorem dX1_add_29 : decode cX1_add 29 = .ok (.getfield 45, 3) := by decide +kernel
theorem dX1_add_32 : decode cX1_add 32 = .ok (.istore 5, 2) := by decide +kernel
theorem dX1_add_34 : decode cX1_add 34 = .ok (.aload_n 0, 1) := by decide +kernel
theorem dX1_add_35 : decode cX1_add 35 = .ok (.getfield 29, 3) := by decide +kernel
theorem dX1_add_38 : decode cX1_add 38 = .ok (.iload 5, 2) := by decide +kernel
theorem dX1_add_40 : decode cX1_add 40 = .ok (.iload_n 1, 1) := by decide +kernel
theorem dX1_add_41 : decode cX1_add 41 = .ok (.iastore, 1) := by decide +kernel
theorem dX1_add_42 : decode cX1_add 42 = .ok (.aload_n 0, 1) := by decide +kernel
theorem dX1_add_43 : decode cX1_add 43 = .ok (.getfield 32, 3) := by decide +kernel
theorem dX1_add_46 : decode cX1_add 46 = .ok (.iload 5, 2) := by decide +kernel
theorem dX1_add_48 : decode cX1_add 48 = .ok (.iload_n 2, 1) := by decide +kernel
theorem dX1_add_49 : decode cX1_add 49 = .ok (.iastore, 1) := by decide +kernel
theorem dX1_add_50 : decode cX1_add 50 = .ok (.aload_n 0, 1) := by decide +kernel
theorem dX1_add_51 : decode cX1_add 51 = .ok (.getfield 35, 3) := by decide +kernel
theorem dX1_add_54 : decode cX1_add 54 = .ok (.iload 5, 2) := by decide +kernel
theorem dX1_add_56 : decode cX1_add 56 = .ok (.iload_n 3, 1) := by decide +kernel
theorem dX1_add_57 : decode cX1_add 57 = .ok (.iastore, 1) := by decide +kernel
theorem dX1_add_58 : decode cX1_add 58 = .ok (.aload_n 0, 1) := by decide +kernel
theorem dX1_add_59 : decode cX1_add 59 = .ok (.getfield 38, 3) := by decide +kernel
theorem dX1_add_62 : decode cX1_add 62 = .ok (.iload 5, 2) := by decide +kernel
theorem dX1_add_64 : decode cX1_add 64 = .ok (.aload_n 0, 1) := by decide +kernel
theorem dX1_add_65 : decode cX1_add 65 = .ok (.getfield 11, 3) := by decide +kernel
theorem dX1_add_68 : decode cX1_add 68 = .ok (.iload 4, 2) := by decide +kernel
theorem dX1_add_70 : decode cX1_add 70 = .ok (.iaload, 1) := by decide +kernel
theorem dX1_add_71 : decode cX1_add 71 = .ok (.iastore, 1) := by decide +kernel
theorem dX1_add_72 : decode cX1_add 72 = .ok (.aload_n 0, 1) := by decide +kernel
theorem dX1_add_73 : decode cX1_add 73 = .ok (.dup, 1) := by decide +kernel
theorem dX1_add_74 : decode cX1_add 74 = .ok (.getfield 45, 3) := by decide +kernel
theorem dX1_add_77 : decode cX1_add 77 = .ok (.iconst 1, 1) := by decide +kernel
theorem dX1_add_78 : decode cX1_add 78 = .ok (.iadd, 1) := by decide +kernel
theorem dX1_add_79 : decode cX1_add 79 = .ok (.putfield 45, 3) := by decide +kernel
theorem dX1_add_82 : decode cX1_add 82 = .ok (.aload_n 0, 1) := by decide +kernel
theorem dX1_add_83 : decode cX1_add 83 = .ok (.getfield 11, 3) := by decide +kernel
theorem dX1_add_86 : decode cX1_add 86 = .ok (.iload 4, 2) := by decide +kernel
theorem dX1_add_88 : decode cX1_add 88 = .ok (.aload_n 0, 1) := by decide +kernel
theorem dX1_add_89 : decode cX1_add 89 = .ok (.getfield 45, 3) := by decide +kernel
theorem dX1_add_92 : decode cX1_add 92 = .ok (.iastore, 1) := by decide +kernel
theorem dX1_add_93 : decode cX1_add 93 = .ok (.iload 5, 2) := by decide +kernel
theorem dX1_add_95 : decode cX1_add 95 = .ok (.ireturn, 1) := by decide +kernel
theorem dX1_chainOf_0 : decode cX1_chainOf 0 = .ok (.iload_n 0, 1) := by decide +kernel
theorem dX1_chainOf_1 : decode cX1_chainOf 1 = .ok (.sipush 331, 3) := by decide +kernel
theorem dX1_chainOf_4 : decode cX1_chainOf 4 = .ok (.imul, 1) := by decide +kernel
theorem dX1_chainOf_5 : decode cX1_chainOf 5 = .ok (.iload_n 1, 1) := by decide +kernel
theorem dX1_chainOf_6 : decode cX1_chainOf 6 = .ok (.sipush 613, 3) := by decide +kernel
theorem dX1_chainOf_9 : decode cX1_chainOf 9 = .ok (.imul, 1) := by decide +kernel
theorem dX1_chainOf_10 : decode cX1_chainOf 10 = .ok (.iadd, 1) := by decide +kernel
theorem dX1_chainOf_11 : decode cX1_chainOf 11 = .ok (.iload_n 2, 1) := by decide +kernel
theorem dX1_chainOf_12 : decode cX1_chainOf 12 = .ok (.bipush 37, 2) := by decide +kernel
theorem dX1_chainOf_14 : decode cX1_chainOf 14 = .ok (.imul, 1) := by decide +kernel
theorem dX1_chainOf_15 : decode cX1_chainOf 15 = .ok (.iadd, 1) := by decide +kernel
theorem dX1_chainOf_16 : decode cX1_chainOf 16 = .ok (.sipush 1023, 3) := by decide +kernel
theorem dX1_chainOf_19 : decode cX1_chainOf 19 = .ok (.iand, 1) := by decide +kernel
theorem dX1_chainOf_20 : decode cX1_chainOf 20 = .ok (.ireturn, 1) := by decide +kernel
theorem dX1_drop_0 : decode cX1_drop 0 = .ok (.iconst 0, 1) := by decide +kernel
theorem dX1_drop_1 : decode cX1_drop 1 = .ok (.istore_n 1, 1) := by decide +kernel
theorem dX1_drop_2 : decode cX1_drop 2 = .ok (.iload_n 1, 1) := by decide +kernel
theorem dX1_drop_3 : decode cX1_drop 3 = .ok (.aload_n 0, 1) := by decide +kernel
theorem dX1_drop_4 : decode cX1_drop 4 = .ok (.getfield 45, 3) := by decide +kernel
theorem dX1_drop_7 : decode cX1_drop 7 = .ok (.if_icmp .ge 44, 3) := by decide +kernel
theorem dX1_drop_10 : decode cX1_drop 10 = .ok (.iload_n 1, 1) := by decide +kernel
theorem dX1_drop_11 : decode cX1_drop 11 = .ok (.aload_n 0, 1) := by decide +kernel
theorem dX1_drop_12 : decode cX1_drop 12 = .ok (.getfield 25, 3) := by decide +kernel
theorem dX1_drop_15 : decode cX1_drop 15 = .ok (.if_icmp .ge 36, 3) := by decide +kernel
theorem dX1_drop_18 : decode cX1_drop 18 = .ok (.aload_n 0, 1) := by decide +kernel
theorem dX1_drop_19 : decode cX1_drop 19 = .ok (.getfield 11, 3) := by decide +kernel
theorem dX1_drop_22 : decode cX1_drop 22 = .ok (.aload_n 0, 1) := by decide +kernel
theorem dX1_drop_23 : decode cX1_drop 23 = .ok (.getfield 29, 3) := by decide +kernel
theorem dX1_drop_26 : decode cX1_drop 26 = .ok (.iload_n 1, 1) := by decide +kernel
theorem dX1_drop_27 : decode cX1_drop 27 = .ok (.iaload, 1) := by decide +kernel
theorem dX1_drop_28 : decode cX1_drop 28 = .ok (.aload_n 0, 1) := by decide +kernel
theorem dX1_drop_29 : decode cX1_drop 29 = .ok (.getfield 32, 3) := by decide +kernel
theorem dX1_drop_32 : decode cX1_drop 32 = .ok (.iload_n 1, 1) := by decide +kernel
theorem dX1_drop_33 : decode cX1_drop 33 = .ok (.iaload, 1) := by decide +kernel
theorem dX1_drop_34 : decode cX1_drop 34 = .ok (.aload_n 0, 1) := by decide +kernel
theorem dX1_drop_35 : decode cX1_drop 35 = .ok (.getfield 35, 3) := by decide +kernel
theorem dX1_drop_38 : decode cX1_drop 38 = .ok (.iload_n 1, 1) := by decide +kernel
theorem dX1_drop_39 : decode cX1_drop 39 = .ok (.iaload, 1) := by decide +kernel
theorem dX1_drop_40 : decode cX1_drop 40 = .ok (.invokestatic 55, 3) := by decide +kernel
theorem dX1_drop_43 : decode cX1_drop 43 = .ok (.iconst 0, 1) := by decide +kernel
theorem dX1_drop_44 : decode cX1_drop 44 = .ok (.iastore, 1) := by decide +kernel
theorem dX1_drop_45 : decode cX1_drop 45 = .ok (.iinc 1 1, 3) := by decide +kernel
theorem dX1_drop_48 : decode cX1_drop 48 = .ok (.goto (-46), 3) := by decide +kernel
theorem dX1_drop_51 : decode cX1_drop 51 = .ok (.aload_n 0, 1) := by decide +kernel
theorem dX1_drop_52 : decode cX1_drop 52 = .ok (.iconst 0, 1) := by decide +kernel
theorem dX1_drop_53 : decode cX1_drop 53 = .ok (.putfield 45, 3) := by decide +kernel
theorem dX1_drop_56 : decode cX1_drop 56 = .ok (.return_, 1) := by decide +kernel
theorem dX1_nameOf_0 : decode cX1_nameOf 0 = .ok (.aload_n 0, 1) := by decide +kernel
theorem dX1_nameOf_1 : decode cX1_nameOf 1 = .ok (.iload_n 1, 1) := by decide +kernel
theorem dX1_nameOf_2 : decode cX1_nameOf 2 = .ok (.invokevirtual 61, 3) := by decide +kernel
theorem dX1_nameOf_5 : decode cX1_nameOf 5 = .ok (.ifCond .eq 12, 3) := by decide +kernel
theorem dX1_nameOf_8 : decode cX1_nameOf 8 = .ok (.aload_n 0, 1) := by decide +kernel
theorem dX1_nameOf_9 : decode cX1_nameOf 9 = .ok (.getfield 15, 3) := by decide +kernel
theorem dX1_nameOf_12 : decode cX1_nameOf 12 = .ok (.iload_n 1, 1) := by decide +kernel
theorem dX1_nameOf_13 : decode cX1_nameOf 13 = .ok (.laload, 1) := by decide +kernel
theorem dX1_nameOf_14 : decode cX1_nameOf 14 = .ok (.goto 4, 3) := by decide +kernel
theorem dX1_nameOf_17 : decode cX1_nameOf 17 = .ok (.lconst 0, 1) := by decide +kernel
theorem dX1_nameOf_18 : decode cX1_nameOf 18 = .ok (.lreturn, 1) := by decide +kernel
theorem dX1_named_0 : decode cX1_named 0 = .ok (.iconst 0, 1) := by decide +kernel
theorem dX1_named_1 : decode cX1_named 1 = .ok (.istore_n 3, 1) := by decide +kernel
theorem dX1_named_2 : decode cX1_named 2 = .ok (.iload_n 3, 1) := by decide +kernel
theorem dX1_named_3 : decode cX1_named 3 = .ok (.aload_n 0, 1) := by decide +kernel
theorem dX1_named_4 : decode cX1_named 4 = .ok (.getfield 48, 3) := by decide +kernel
theorem dX1_named_7 : decode cX1_named 7 = .ok (.if_icmp .ge 34, 3) := by decide +kernel
theorem dX1_named_10 : decode cX1_named 10 = .ok (.iload_n 3, 1) := by decide +kernel
theorem dX1_named_11 : decode cX1_named 11 = .ok (.bipush 24, 2) := by decide +kernel
theorem dX1_named_13 : decode cX1_named 13 = .ok (.if_icmp .ge 28, 3) := by decide +kernel
theorem dX1_named_16 : decode cX1_named 16 = .ok (.aload_n 0, 1) := by decide +kernel
theorem dX1_named_17 : decode cX1_named 17 = .ok (.getfield 15, 3) := by decide +kernel
theorem dX1_named_20 : decode cX1_named 20 = .ok (.iload_n 3, 1) := by decide +kernel
theorem dX1_named_21 : decode cX1_named 21 = .ok (.laload, 1) := by decide +kernel
theorem dX1_named_22 : decode cX1_named 22 = .ok (.lload_n 1, 1) := by decide +kernel
theorem dX1_named_23 : decode cX1_named 23 = .ok (.lcmp, 1) := by decide +kernel
theorem dX1_named_24 : decode cX1_named 24 = .ok (.ifCond .ne 11, 3) := by decide +kernel
theorem dX1_named_27 : decode cX1_named 27 = .ok (.aload_n 0, 1) := by decide +kernel
theorem dX1_named_28 : decode cX1_named 28 = .ok (.iconst 2, 1) := by decide +kernel
theorem dX1_named_29 : decode cX1_named 29 = .ok (.iload_n 3, 1) := by decide +kernel
theorem dX1_named_30 : decode cX1_named 30 = .ok (.iconst 0, 1) := by decide +kernel
theorem dX1_named_31 : decode cX1_named 31 = .ok (.invokevirtual 58, 3) := by decide +kernel
theorem dX1_named_34 : decode cX1_named 34 = .ok (.ireturn, 1) := by decide +kernel
theorem dX1_named_35 : decode cX1_named 35 = .ok (.iinc 3 1, 3) := by decide +kernel
theorem dX1_named_38 : decode cX1_named 38 = .ok (.goto (-36), 3) := by decide +kernel
theorem dX1_named_41 : decode cX1_named 41 = .ok (.iconst (-1), 1) := by decide +kernel
theorem dX1_named_42 : decode cX1_named 42 = .ok (.ireturn, 1) := by decide +kernel
theorem dX1_hasRoomForVariable_0 : decode cX1_hasRoomForVariable 0 = .ok (.aload_n 0, 1) := by decide +kernel
theorem dX1_hasRoomForVariable_1 : decode cX1_hasRoomForVariable 1 = .ok (.getfield 48, 3) := by decide +kernel
theorem dX1_hasRoomForVariable_4 : decode cX1_hasRoomForVariable 4 = .ok (.bipush 24, 2) := by decide +kernel
theorem dX1_hasRoomForVariable_6 : decode cX1_hasRoomForVariable 6 = .ok (.if_icmp .ge 7, 3) := by decide +kernel
theorem dX1_hasRoomForVariable_9 : decode cX1_hasRoomForVariable 9 = .ok (.iconst 1, 1) := by decide +kernel
theorem dX1_hasRoomForVariable_10 : decode cX1_hasRoomForVariable 10 = .ok (.goto 4, 3) := by decide +kernel
theorem dX1_hasRoomForVariable_13 : decode cX1_hasRoomForVariable 13 = .ok (.iconst 0, 1) := by decide +kernel
theorem dX1_hasRoomForVariable_14 : decode cX1_hasRoomForVariable 14 = .ok (.ireturn, 1) := by decide +kernel
theorem dX1_addNamed_0 : decode cX1_addNamed 0 = .ok (.aload_n 0, 1) := by decide +kernel
theorem dX1_addNamed_1 : decode cX1_addNamed 1 = .ok (.getfield 48, 3) := by decide +kernel
theorem dX1_addNamed_4 : decode cX1_addNamed 4 = .ok (.ifCond .lt 12, 3) := by decide +kernel
theorem dX1_addNamed_7 : decode cX1_addNamed 7 = .ok (.aload_n 0, 1) := by decide +kernel
theorem dX1_addNamed_8 : decode cX1_addNamed 8 = .ok (.getfield 48, 3) := by decide +kernel
theorem dX1_addNamed_11 : decode cX1_addNamed 11 = .ok (.bipush 24, 2) := by decide +kernel
theorem dX1_addNamed_13 : decode cX1_addNamed 13 = .ok (.if_icmp .lt 5, 3) := by decide +kernel
theorem dX1_addNamed_16 : decode cX1_addNamed 16 = .ok (.iconst (-1), 1) := by decide +kernel
theorem dX1_addNamed_17 : decode cX1_addNamed 17 = .ok (.ireturn, 1) := by decide +kernel
theorem dX1_addNamed_18 : decode cX1_addNamed 18 = .ok (.aload_n 0, 1) := by decide +kernel
theorem dX1_addNamed_19 : decode cX1_addNamed 19 = .ok (.iconst 2, 1) := by decide +kernel
theorem dX1_addNamed_20 : decode cX1_addNamed 20 = .ok (.aload_n 0, 1) := by decide +kernel
theorem dX1_addNamed_21 : decode cX1_addNamed 21 = .ok (.getfield 48, 3) := by decide +kernel
theorem dX1_addNamed_24 : decode cX1_addNamed 24 = .ok (.iconst 0, 1) := by decide +kernel
theorem dX1_addNamed_25 : decode cX1_addNamed 25 = .ok (.invokevirtual 41, 3) := by decide +kernel
theorem dX1_addNamed_28 : decode cX1_addNamed 28 = .ok (.istore_n 3, 1) := by decide +kernel
theorem dX1_addNamed_29 : decode cX1_addNamed 29 = .ok (.iload_n 3, 1) := by decide +kernel
theorem dX1_addNamed_30 : decode cX1_addNamed 30 = .ok (.ifCond .lt 23, 3) := by decide +kernel
theorem dX1_addNamed_33 : decode cX1_addNamed 33 = .ok (.aload_n 0, 1) := by decide +kernel
theorem dX1_addNamed_34 : decode cX1_addNamed 34 = .ok (.getfield 15, 3) := by decide +kernel
theorem dX1_addNamed_37 : decode cX1_addNamed 37 = .ok (.aload_n 0, 1) := by decide +kernel
theorem dX1_addNamed_38 : decode cX1_addNamed 38 = .ok (.getfield 48, 3) := by decide +kernel
theorem dX1_addNamed_41 : decode cX1_addNamed 41 = .ok (.lload_n 1, 1) := by decide +kernel
theorem dX1_addNamed_42 : decode cX1_addNamed 42 = .ok (.lastore, 1) := by decide +kernel
theorem dX1_addNamed_43 : decode cX1_addNamed 43 = .ok (.aload_n 0, 1) := by decide +kernel
theorem dX1_addNamed_44 : decode cX1_addNamed 44 = .ok (.dup, 1) := by decide +kernel
theorem dX1_addNamed_45 : decode cX1_addNamed 45 = .ok (.getfield 48, 3) := by decide +kernel
theorem dX1_addNamed_48 : decode cX1_addNamed 48 = .ok (.iconst 1, 1) := by decide +kernel
theorem dX1_addNamed_49 : decode cX1_addNamed 49 = .ok (.iadd, 1) := by decide +kernel
theorem dX1_addNamed_50 : decode cX1_addNamed 50 = .ok (.putfield 48, 3) := by decide +kernel
theorem dX1_addNamed_53 : decode cX1_addNamed 53 = .ok (.iload_n 3, 1) := by decide +kernel
theorem dX1_addNamed_54 : decode cX1_addNamed 54 = .ok (.ireturn, 1) := by decide +kernel
