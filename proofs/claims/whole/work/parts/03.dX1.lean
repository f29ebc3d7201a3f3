theorem dX1_init_0 : decode cX1_init 0 = .ok (.aload_n 0, 1) := by decide +kernel
theorem dX1_init_1 : decode cX1_init 1 = .ok (.invokespecial 3, 3) := by decide +kernel
theorem dX1_init_4 : decode cX1_init 4 = .ok (.aload_n 0, 1) := by decide +kernel
theorem dX1_init_5 : decode cX1_init 5 = .ok (.sipush 1024, 3) := by decide +kernel
theorem dX1_init_8 : decode cX1_init 8 = .ok (.newarray .int, 2) := by decide +kernel
theorem dX1_init_10 : decode cX1_init 10 = .ok (.putfield 11, 3) := by decide +kernel
theorem dX1_init_13 : decode cX1_init 13 = .ok (.aload_n 0, 1) := by decide +kernel
theorem dX1_init_14 : decode cX1_init 14 = .ok (.bipush 24, 2) := by decide +kernel
theorem dX1_init_16 : decode cX1_init 16 = .ok (.newarray .long, 2) := by decide +kernel
theorem dX1_init_18 : decode cX1_init 18 = .ok (.putfield 15, 3) := by decide +kernel
theorem dX1_init_21 : decode cX1_init 21 = .ok (.aload_n 0, 1) := by decide +kernel
theorem dX1_init_22 : decode cX1_init 22 = .ok (.iload_n 1, 1) := by decide +kernel
theorem dX1_init_23 : decode cX1_init 23 = .ok (.iconst 0, 1) := by decide +kernel
theorem dX1_init_24 : decode cX1_init 24 = .ok (.invokestatic 19, 3) := by decide +kernel
theorem dX1_init_27 : decode cX1_init 27 = .ok (.putfield 25, 3) := by decide +kernel
theorem dX1_init_30 : decode cX1_init 30 = .ok (.aload_n 0, 1) := by decide +kernel
theorem dX1_init_31 : decode cX1_init 31 = .ok (.aload_n 0, 1) := by decide +kernel
theorem dX1_init_32 : decode cX1_init 32 = .ok (.getfield 25, 3) := by decide +kernel
theorem dX1_init_35 : decode cX1_init 35 = .ok (.newarray .int, 2) := by decide +kernel
theorem dX1_init_37 : decode cX1_init 37 = .ok (.putfield 29, 3) := by decide +kernel
theorem dX1_init_40 : decode cX1_init 40 = .ok (.aload_n 0, 1) := by decide +kernel
theorem dX1_init_41 : decode cX1_init 41 = .ok (.aload_n 0, 1) := by decide +kernel
theorem dX1_init_42 : decode cX1_init 42 = .ok (.getfield 25, 3) := by decide +kernel
theorem dX1_init_45 : decode cX1_init 45 = .ok (.newarray .int, 2) := by decide +kernel
theorem dX1_init_47 : decode cX1_init 47 = .ok (.putfield 32, 3) := by decide +kernel
theorem dX1_init_50 : decode cX1_init 50 = .ok (.aload_n 0, 1) := by decide +kernel
theorem dX1_init_51 : decode cX1_init 51 = .ok (.aload_n 0, 1) := by decide +kernel
theorem dX1_init_52 : decode cX1_init 52 = .ok (.getfield 25, 3) := by decide +kernel
theorem dX1_init_55 : decode cX1_init 55 = .ok (.newarray .int, 2) := by decide +kernel
theorem dX1_init_57 : decode cX1_init 57 = .ok (.putfield 35, 3) := by decide +kernel
theorem dX1_init_60 : decode cX1_init 60 = .ok (.aload_n 0, 1) := by decide +kernel
theorem dX1_init_61 : decode cX1_init 61 = .ok (.aload_n 0, 1) := by decide +kernel
theorem dX1_init_62 : decode cX1_init 62 = .ok (.getfield 25, 3) := by decide +kernel
theorem dX1_init_65 : decode cX1_init 65 = .ok (.newarray .int, 2) := by decide +kernel
theorem dX1_init_67 : decode cX1_init 67 = .ok (.putfield 38, 3) := by decide +kernel
theorem dX1_init_70 : decode cX1_init 70 = .ok (.aload_n 0, 1) := by decide +kernel
theorem dX1_init_71 : decode cX1_init 71 = .ok (.iconst 0, 1) := by decide +kernel
theorem dX1_init_72 : decode cX1_init 72 = .ok (.iconst 0, 1) := by decide +kernel
theorem dX1_init_73 : decode cX1_init 73 = .ok (.iconst 0, 1) := by decide +kernel
theorem dX1_init_74 : decode cX1_init 74 = .ok (.invokevirtual 41, 3) := by decide +kernel
theorem dX1_init_77 : decode cX1_init 77 = .ok (.pop, 1) := by decide +kernel
theorem dX1_init_78 : decode cX1_init 78 = .ok (.aload_n 0, 1) := by decide +kernel
theorem dX1_init_79 : decode cX1_init 79 = .ok (.iconst 1, 1) := by decide +kernel
theorem dX1_init_80 : decode cX1_init 80 = .ok (.iconst 0, 1) := by decide +kernel
theorem dX1_init_81 : decode cX1_init 81 = .ok (.iconst 0, 1) := by decide +kernel
theorem dX1_init_82 : decode cX1_init 82 = .ok (.invokevirtual 41, 3) := by decide +kernel
theorem dX1_init_85 : decode cX1_init 85 = .ok (.pop, 1) := by decide +kernel
theorem dX1_init_86 : decode cX1_init 86 = .ok (.return_, 1) := by decide +kernel
theorem dX1_many_0 : decode cX1_many 0 = .ok (.aload_n 0, 1) := by decide +kernel
theorem dX1_many_1 : decode cX1_many 1 = .ok (.getfield 45, 3) := by decide +kernel
theorem dX1_many_4 : decode cX1_many 4 = .ok (.ireturn, 1) := by decide +kernel
theorem dX1_variables_0 : decode cX1_variables 0 = .ok (.aload_n 0, 1) := by decide +kernel
theorem dX1_variables_1 : decode cX1_variables 1 = .ok (.getfield 48, 3) := by decide +kernel
theorem dX1_variables_4 : decode cX1_variables 4 = .ok (.ireturn, 1) := by decide +kernel
theorem dX1_has_0 : decode cX1_has 0 = .ok (.iload_n 1, 1) := by decide +kernel
theorem dX1_has_1 : decode cX1_has 1 = .ok (.ifCond .lt 23, 3) := by decide +kernel
theorem dX1_has_4 : decode cX1_has 4 = .ok (.iload_n 1, 1) := by decide +kernel
theorem dX1_has_5 : decode cX1_has 5 = .ok (.aload_n 0, 1) := by decide +kernel
theorem dX1_has_6 : decode cX1_has 6 = .ok (.getfield 45, 3) := by decide +kernel
theorem dX1_has_9 : decode cX1_has 9 = .ok (.if_icmp .ge 15, 3) := by decide +kernel
theorem dX1_has_12 : decode cX1_has 12 = .ok (.iload_n 1, 1) := by decide +kernel
theorem dX1_has_13 : decode cX1_has 13 = .ok (.aload_n 0, 1) := by decide +kernel
theorem dX1_has_14 : decode cX1_has 14 = .ok (.getfield 25, 3) := by decide +kernel
theorem dX1_has_17 : decode cX1_has 17 = .ok (.if_icmp .ge 7, 3) := by decide +kernel
theorem dX1_has_20 : decode cX1_has 20 = .ok (.iconst 1, 1) := by decide +kernel
theorem dX1_has_21 : decode cX1_has 21 = .ok (.goto 4, 3) := by decide +kernel
theorem dX1_has_24 : decode cX1_has 24 = .ok (.iconst 0, 1) := by decide +kernel
theorem dX1_has_25 : decode cX1_has 25 = .ok (.ireturn, 1) := by decide +kernel
theorem dX1_hasVariable_0 : decode cX1_hasVariable 0 = .ok (.iload_n 1, 1) := by decide +kernel
theorem dX1_hasVariable_1 : decode cX1_hasVariable 1 = .ok (.ifCond .lt 21, 3) := by decide +kernel
theorem dX1_hasVariable_4 : decode cX1_hasVariable 4 = .ok (.iload_n 1, 1) := by decide +kernel
theorem dX1_hasVariable_5 : decode cX1_hasVariable 5 = .ok (.aload_n 0, 1) := by decide +kernel
theorem dX1_hasVariable_6 : decode cX1_hasVariable 6 = .ok (.getfield 48, 3) := by decide +kernel
theorem dX1_hasVariable_9 : decode cX1_hasVariable 9 = .ok (.if_icmp .ge 13, 3) := by decide +kernel
theorem dX1_hasVariable_12 : decode cX1_hasVariable 12 = .ok (.iload_n 1, 1) := by decide +kernel
theorem dX1_hasVariable_13 : decode cX1_hasVariable 13 = .ok (.bipush 24, 2) := by decide +kernel
theorem dX1_hasVariable_15 : decode cX1_hasVariable 15 = .ok (.if_icmp .ge 7, 3) := by decide +kernel
theorem dX1_hasVariable_18 : decode cX1_hasVariable 18 = .ok (.iconst 1, 1) := by decide +kernel
theorem dX1_hasVariable_19 : decode cX1_hasVariable 19 = .ok (.goto 4, 3) := by decide +kernel
theorem dX1_hasVariable_22 : decode cX1_hasVariable 22 = .ok (.iconst 0, 1) := by decide +kernel
theorem dX1_hasVariable_23 : decode cX1_hasVariable 23 = .ok (.ireturn, 1) := by decide +kernel
theorem dX1_kindOf_0 : decode cX1_kindOf 0 = .ok (.aload_n 0, 1) := by decide +kernel
theorem dX1_kindOf_1 : decode cX1_kindOf 1 = .ok (.iload_n 1, 1) := by decide +kernel
theorem dX1_kindOf_2 : decode cX1_kindOf 2 = .ok (.invokevirtual 51, 3) := by decide +kernel
theorem dX1_kindOf_5 : decode cX1_kindOf 5 = .ok (.ifCond .eq 12, 3) := by decide +kernel
theorem dX1_kindOf_8 : decode cX1_kindOf 8 = .ok (.aload_n 0, 1) := by decide +kernel
theorem dX1_kindOf_9 : decode cX1_kindOf 9 = .ok (.getfield 29, 3) := by decide +kernel
theorem dX1_kindOf_12 : decode cX1_kindOf 12 = .ok (.iload_n 1, 1) := by decide +kernel
theorem dX1_kindOf_13 : decode cX1_kindOf 13 = .ok (.iaload, 1) := by decide +kernel
theorem dX1_kindOf_14 : decode cX1_kindOf 14 = .ok (.goto 4, 3) := by decide +kernel
theorem dX1_kindOf_17 : decode cX1_kindOf 17 = .ok (.iconst (-1), 1) := by decide +kernel
theorem dX1_kindOf_18 : decode cX1_kindOf 18 = .ok (.ireturn, 1) := by decide +kernel
theorem dX1_firstOf_0 : decode cX1_firstOf 0 = .ok (.aload_n 0, 1) := by decide +kernel
theorem dX1_firstOf_1 : decode cX1_firstOf 1 = .ok (.iload_n 1, 1) := by decide +kernel
theorem dX1_firstOf_2 : decode cX1_firstOf 2 = .ok (.invokevirtual 51, 3) := by decide +kernel
theorem dX1_firstOf_5 : decode cX1_firstOf 5 = .ok (.ifCond .eq 12, 3) := by decide +kernel
theorem dX1_firstOf_8 : decode cX1_firstOf 8 = .ok (.aload_n 0, 1) := by decide +kernel
theorem dX1_firstOf_9 : decode cX1_firstOf 9 = .ok (.getfield 32, 3) := by decide +kernel
theorem dX1_firstOf_12 : decode cX1_firstOf 12 = .ok (.iload_n 1, 1) := by decide +kernel
theorem dX1_firstOf_13 : decode cX1_firstOf 13 = .ok (.iaload, 1) := by decide +kernel
theorem dX1_firstOf_14 : decode cX1_firstOf 14 = .ok (.goto 4, 3) := by decide +kernel
theorem dX1_firstOf_17 : decode cX1_firstOf 17 = .ok (.iconst (-1), 1) := by decide +kernel
theorem dX1_firstOf_18 : decode cX1_firstOf 18 = .ok (.ireturn, 1) := by decide +kernel
theorem dX1_secondOf_0 : decode cX1_secondOf 0 = .ok (.aload_n 0, 1) := by decide +kernel
theorem dX1_secondOf_1 : decode cX1_secondOf 1 = .ok (.iload_n 1, 1) := by decide +kernel
theorem dX1_secondOf_2 : decode cX1_secondOf 2 = .ok (.invokevirtual 51, 3) := by decide +kernel
theorem dX1_secondOf_5 : decode cX1_secondOf 5 = .ok (.ifCond .eq 12, 3) := by decide +kernel
theorem dX1_secondOf_8 : decode cX1_secondOf 8 = .ok (.aload_n 0, 1) := by decide +kernel
theorem dX1_secondOf_9 : decode cX1_secondOf 9 = .ok (.getfield 35, 3) := by decide +kernel
theorem dX1_secondOf_12 : decode cX1_secondOf 12 = .ok (.iload_n 1, 1) := by decide +kernel
theorem dX1_secondOf_13 : decode cX1_secondOf 13 = .ok (.iaload, 1) := by decide +kernel
theorem dX1_secondOf_14 : decode cX1_secondOf 14 = .ok (.goto 4, 3) := by decide +kernel
theorem dX1_secondOf_17 : decode cX1_secondOf 17 = .ok (.iconst (-1), 1) := by decide +kernel
theorem dX1_secondOf_18 : decode cX1_secondOf 18 = .ok (.ireturn, 1) := by decide +kernel
theorem dX1_find_0 : decode cX1_find 0 = .ok (.aload_n 0, 1) := by decide +kernel
theorem dX1_find_1 : decode cX1_find 1 = .ok (.iload_n 1, 1) := by decide +kernel
theorem dX1_find_2 : decode cX1_find 2 = .ok (.iload_n 2, 1) := by decide +kernel
theorem dX1_find_3 : decode cX1_find 3 = .ok (.iload_n 3, 1) := by decide +kernel
theorem dX1_find_4 : decode cX1_find 4 = .ok (.invokestatic 55, 3) := by decide +kernel
theorem dX1_find_7 : decode cX1_find 7 = .ok (.iload_n 1, 1) := by decide +kernel
theorem dX1_find_8 : decode cX1_find 8 = .ok (.iload_n 2, 1) := by decide +kernel
theorem dX1_find_9 : decode cX1_find 9 = .ok (.iload_n 3, 1) := by decide +kernel
theorem dX1_find_10 : decode cX1_find 10 = .ok (.invokevirtual 58, 3) := by decide +kernel
theorem dX1_find_13 : decode cX1_find 13 = .ok (.ireturn, 1) := by decide +kernel
theorem dX1_joined_0 : decode cX1_joined 0 = .ok (.iload_n 1, 1) := by decide +kernel
theorem dX1_joined_1 : decode cX1_joined 1 = .ok (.iload_n 2, 1) := by decide +kernel
theorem dX1_joined_2 : decode cX1_joined 2 = .ok (.iload_n 3, 1) := by decide +kernel
theorem dX1_joined_3 : decode cX1_joined 3 = .ok (.invokestatic 55, 3) := by decide +kernel
theorem dX1_joined_6 : decode cX1_joined 6 = .ok (.istore 4, 2) := by decide +kernel
theorem dX1_joined_8 : decode cX1_joined 8 = .ok (.aload_n 0, 1) := by decide +kernel
theorem dX1_joined_9 : decode cX1_joined 9 = .ok (.iload 4, 2) := by decide +kernel
theorem dX1_joined_11 : decode cX1_joined 11 = .ok (.iload_n 1, 1) := by decide +kernel
theorem dX1_joined_12 : decode cX1_joined 12 = .ok (.iload_n 2, 1) := by decide +kernel
theorem dX1_joined_13 : decode cX1_joined 13 = .ok (.iload_n 3, 1) := by decide +kernel
theorem dX1_joined_14 : decode cX1_joined 14 = .ok (.invokevirtual 58, 3) := by decide +kernel
theorem dX1_joined_17 : decode cX1_joined 17 = .ok (.istore 5, 2) := by decide +kernel
theorem dX1_joined_19 : decode cX1_joined 19 = .ok (.iload 5, 2) := by decide +kernel
theorem dX1_joined_21 : decode cX1_joined 21 = .ok (.ifCond .lt 8, 3) := by decide +kernel
theorem dX1_joined_24 : decode cX1_joined 24 = .ok (.iload 5, 2) := by decide +kernel
theorem dX1_joined_26 : decode cX1_joined 26 = .ok (.goto 12, 3) := by decide +kernel
theorem dX1_joined_29 : decode cX1_joined 29 = .ok (.aload_n 0, 1) := by decide +kernel
theorem dX1_joined_30 : decode cX1_joined 30 = .ok (.iload 4, 2) := by decide +kernel
theorem dX1_joined_32 : decode cX1_joined 32 = .ok (.iload_n 1, 1) := by decide +kernel
theorem dX1_joined_33 : decode cX1_joined 33 = .ok (.iload_n 2, 1) := by decide +kernel
theorem dX1_joined_34 : decode cX1_joined 34 = .ok (.iload_n 3, 1) := by decide +kernel
theorem dX1_joined_35 : decode cX1_joined 35 = .ok (.invokevirtual 62, 3) := by decide +kernel
theorem dX1_joined_38 : decode cX1_joined 38 = .ok (.ireturn, 1) := by decide +kernel
theorem dX1_findIn_0 : decode cX1_findIn 0 = .ok (.aload_n 0, 1) := by decide +kernel
theorem dX1_findIn_1 : decode cX1_findIn 1 = .ok (.getfield 11, 3) := by decide +kernel
theorem dX1_findIn_4 : decode cX1_findIn 4 = .ok (.iload_n 1, 1) := by decide +kernel
theorem dX1_findIn_5 : decode cX1_findIn 5 = .ok (.sipush 1023, 3) := by decide +kernel
theorem dX1_findIn_8 : decode cX1_findIn 8 = .ok (.iand, 1) := by decide +kernel
theorem dX1_findIn_9 : decode cX1_findIn 9 = .ok (.iaload, 1) := by decide +kernel
theorem dX1_findIn_10 : decode cX1_findIn 10 = .ok (.iconst 1, 1) := by decide +kernel
theorem dX1_findIn_11 : decode cX1_findIn 11 = .ok (.isub, 1) := by decide +kernel
theorem dX1_findIn_12 : decode cX1_findIn 12 = .ok (.istore 5, 2) := by decide +kernel
theorem dX1_findIn_14 : decode cX1_findIn 14 = .ok (.iconst 0, 1) := by decide +kernel
theorem dX1_findIn_15 : decode cX1_findIn 15 = .ok (.istore 6, 2) := by decide +kernel
theorem dX1_findIn_17 : decode cX1_findIn 17 = .ok (.iload 6, 2) := by decide +kernel
theorem dX1_findIn_19 : decode cX1_findIn 19 = .ok (.aload_n 0, 1) := by decide +kernel
theorem dX1_findIn_20 : decode cX1_findIn 20 = .ok (.getfield 45, 3) := by decide +kernel
theorem dX1_findIn_23 : decode cX1_findIn 23 = .ok (.if_icmp .ge 71, 3) := by decide +kernel
theorem dX1_findIn_26 : decode cX1_findIn 26 = .ok (.iload 5, 2) := by decide +kernel
theorem dX1_findIn_28 : decode cX1_findIn 28 = .ok (.ifCond .lt 66, 3) := by decide +kernel
theorem dX1_findIn_31 : decode cX1_findIn 31 = .ok (.iload 5, 2) := by decide +kernel
theorem dX1_findIn_33 : decode cX1_findIn 33 = .ok (.aload_n 0, 1) := by decide +kernel
theorem dX1_findIn_34 : decode cX1_findIn 34 = .ok (.getfield 25, 3) := by decide +kernel
theorem dX1_findIn_37 : decode cX1_findIn 37 = .ok (.if_icmp .ge 57, 3) := by decide +kernel
theorem dX1_findIn_40 : decode cX1_findIn 40 = .ok (.aload_n 0, 1) := by decide +kernel
theorem dX1_findIn_41 : decode cX1_findIn 41 = .ok (.getfield 29, 3) := by decide +kernel
theorem dX1_findIn_44 : decode cX1_findIn 44 = .ok (.iload 5, 2) := by decide +kernel
theorem dX1_findIn_46 : decode cX1_findIn 46 = .ok (.iaload, 1) := by decide +kernel
theorem dX1_findIn_47 : decode cX1_findIn 47 = .ok (.iload_n 2, 1) := by decide +kernel
theorem dX1_findIn_48 : decode cX1_findIn 48 = .ok (.if_icmp .ne 29, 3) := by decide +kernel
theorem dX1_findIn_51 : decode cX1_findIn 51 = .ok (.aload_n 0, 1) := by decide +kernel
theorem dX1_findIn_52 : decode cX1_findIn 52 = .ok (.getfield 32, 3) := by decide +kernel
theorem dX1_findIn_55 : decode cX1_findIn 55 = .ok (.iload 5, 2) := by decide +kernel
theorem dX1_findIn_57 : decode cX1_findIn 57 = .ok (.iaload, 1) := by decide +kernel
theorem dX1_findIn_58 : decode cX1_findIn 58 = .ok (.iload_n 3, 1) := by decide +kernel
theorem dX1_findIn_59 : decode cX1_findIn 59 = .ok (.if_icmp .ne 18, 3) := by decide +kernel
theorem dX1_findIn_62 : decode cX1_findIn 62 = .ok (.aload_n 0, 1) := by decide +kernel
theorem dX1_findIn_63 : decode cX1_findIn 63 = .ok (.getfield 35, 3) := by decide +kernel
theorem dX1_findIn_66 : decode cX1_findIn 66 = .ok (.iload 5, 2) := by decide +kernel
theorem dX1_findIn_68 : decode cX1_findIn 68 = .ok (.iaload, 1) := by decide +kernel
theorem dX1_findIn_69 : decode cX1_findIn 69 = .ok (.iload 4, 2) := by decide +kernel
theorem dX1_findIn_71 : decode cX1_findIn 71 = .ok (.if_icmp .ne 6, 3) := by decide +kernel
theorem dX1_findIn_74 : decode cX1_findIn 74 = .ok (.iload 5, 2) := by decide +kernel
theorem dX1_findIn_76 : decode cX1_findIn 76 = .ok (.ireturn, 1) := by decide +kernel
theorem dX1_findIn_77 : decode cX1_findIn 77 = .ok (.aload_n 0, 1) := by decide +kernel
theorem dX1_findIn_78 : decode cX1_findIn 78 = .ok (.getfield 38, 3) := by decide +kernel
theorem dX1_findIn_81 : decode cX1_findIn 81 = .ok (.iload 5, 2) := by decide +kernel
theorem dX1_findIn_83 : decode cX1_findIn 83 = .ok (.iaload, 1) := by decide +kernel
theorem dX1_findIn_84 : decode cX1_findIn 84 = .ok (.iconst 1, 1) := by decide +kernel
theorem dX1_findIn_85 : decode cX1_findIn 85 = .ok (.isub, 1) := by decide +kernel
theorem dX1_findIn_86 : decode cX1_findIn 86 = .ok (.istore 5, 2) := by decide +kernel
theorem dX1_findIn_88 : decode cX1_findIn 88 = .ok (.iinc 6 1, 3) := by decide +kernel
theorem dX1_findIn_91 : decode cX1_findIn 91 = .ok (.goto (-74), 3) := by decide +kernel
theorem dX1_findIn_94 : decode cX1_findIn 94 = .ok (.iconst (-1), 1) := by decide +kernel
theorem dX1_findIn_95 : decode cX1_findIn 95 = .ok (.ireturn, 1) := by decide +kernel
theorem dX1_addTo_0 : decode cX1_addTo 0 = .ok (.aload_n 0, 1) := by decide +kernel
theorem dX1_addTo_1 : decode cX1_addTo 1 = .ok (.getfield 45, 3) := by decide +kernel
theorem dX1_addTo_4 : decode cX1_addTo 4 = .ok (.ifCond .lt 14, 3) := by decide +kernel
theorem dX1_addTo_7 : decode cX1_addTo 7 = .ok (.aload_n 0, 1) := by decide +kernel
theorem dX1_addTo_8 : decode cX1_addTo 8 = .ok (.getfield 45, 3) := by decide +kernel
theorem dX1_addTo_11 : decode cX1_addTo 11 = .ok (.aload_n 0, 1) := by decide +kernel
theorem dX1_addTo_12 : decode cX1_addTo 12 = .ok (.getfield 25, 3) := by decide +kernel
theorem dX1_addTo_15 : decode cX1_addTo 15 = .ok (.if_icmp .lt 5, 3) := by decide +kernel
theorem dX1_addTo_18 : decode cX1_addTo 18 = .ok (.iconst (-1), 1) := by decide +kernel
theorem dX1_addTo_19 : decode cX1_addTo 19 = .ok (.ireturn, 1) := by decide +kernel
theorem dX1_addTo_20 : decode cX1_addTo 20 = .ok (.iload_n 1, 1) := by decide +kernel
theorem dX1_addTo_21 : decode cX1_addTo 21 = .ok (.sipush 1023, 3) := by decide +kernel
theorem dX1_addTo_24 : decode cX1_addTo 24 = .ok (.iand, 1) := by decide +kernel
theorem dX1_addTo_25 : decode cX1_addTo 25 = .ok (.istore 5, 2) := by decide +kernel
theorem dX1_addTo_27 : decode cX1_addTo 27 = .ok (.aload_n 0, 1) := by decide +kernel
theorem dX1_addTo_28 : decode cX1_addTo 28 = .ok (.getfield 45, 3) := by decide +kernel
theorem dX1_addTo_31 : decode cX1_addTo 31 = .ok (.istore 6, 2) := by decide +kernel
theorem dX1_addTo_33 : decode cX1_addTo 33 = .ok (.aload_n 0, 1) := by decide +kernel
theorem dX1_addTo_34 : decode cX1_addTo 34 = .ok (.getfield 29, 3) := by decide +kernel
theorem dX1_addTo_37 : decode cX1_addTo 37 = .ok (.iload 6, 2) := by decide +kernel
theorem dX1_addTo_39 : decode cX1_addTo 39 = .ok (.iload_n 2, 1) := by decide +kernel
theorem dX1_addTo_40 : decode cX1_addTo 40 = .ok (.iastore, 1) := by decide +kernel
theorem dX1_addTo_41 : decode cX1_addTo 41 = .ok (.aload_n 0, 1) := by decide +kernel
theorem dX1_addTo_42 : decode cX1_addTo 42 = .ok (.getfield 32, 3) := by decide +kernel
theorem dX1_addTo_45 : decode cX1_addTo 45 = .ok (.iload 6, 2) := by decide +kernel
theorem dX1_addTo_47 : decode cX1_addTo 47 = .ok (.iload_n 3, 1) := by decide +kernel
theorem dX1_addTo_48 : decode cX1_addTo 48 = .ok (.iastore, 1) := by decide +kernel
theorem dX1_addTo_49 : decode cX1_addTo 49 = .ok (.aload_n 0, 1) := by decide +kernel
theorem dX1_addTo_50 : decode cX1_addTo 50 = .ok (.getfield 35, 3) := by decide +kernel
theorem dX1_addTo_53 : decode cX1_addTo 53 = .ok (.iload 6, 2) := by decide +kernel
theorem dX1_addTo_55 : decode cX1_addTo 55 = .ok (.iload 4, 2) := by decide +kernel
theorem dX1_addTo_57 : decode cX1_addTo 57 = .ok (.iastore, 1) := by decide +kernel
theorem dX1_addTo_58 : decode cX1_addTo 58 = .ok (.aload_n 0, 1) := by decide +kernel
theorem dX1_addTo_59 : decode cX1_addTo 59 = .ok (.getfield 38, 3) := by decide +kernel
theorem dX1_addTo_62 : decode cX1_addTo 62 = .ok (.iload 6, 2) := by decide +kernel
theorem dX1_addTo_64 : decode cX1_addTo 64 = .ok (.aload_n 0, 1) := by decide +kernel
theorem dX1_addTo_65 : decode cX1_addTo 65 = .ok (.getfield 11, 3) := by decide +kernel
theorem dX1_addTo_68 : decode cX1_addTo 68 = .ok (.iload 5, 2) := by decide +kernel
theorem dX1_addTo_70 : decode cX1_addTo 70 = .ok (.iaload, 1) := by decide +kernel
theorem dX1_addTo_71 : decode cX1_addTo 71 = .ok (.iastore, 1) := by decide +kernel
theorem dX1_addTo_72 : decode cX1_addTo 72 = .ok (.aload_n 0, 1) := by decide +kernel
theorem dX1_addTo_73 : decode cX1_addTo 73 = .ok (.dup, 1) := by decide +kernel
theorem dX1_addTo_74 : decode cX1_addTo 74 = .ok (.getfield 45, 3) := by decide +kernel
theorem dX1_addTo_77 : decode cX1_addTo 77 = .ok (.iconst 1, 1) := by decide +kernel
theorem dX1_addTo_78 : decode cX1_addTo 78 = .ok (.iadd, 1) := by decide +kernel
theorem dX1_addTo_79 : decode cX1_addTo 79 = .ok (.putfield 45, 3) := by decide +kernel
theorem dX1_addTo_82 : decode cX1_addTo 82 = .ok (.aload_n 0, 1) := by decide +kernel
theorem dX1_addTo_83 : decode cX1_addTo 83 = .ok (.getfield 11, 3) := by decide +kernel
theorem dX1_addTo_86 : decode cX1_addTo 86 = .ok (.iload 5, 2) := by decide +kernel
theorem dX1_addTo_88 : decode cX1_addTo 88 = .ok (.aload_n 0, 1) := by decide +kernel
theorem dX1_addTo_89 : decode cX1_addTo 89 = .ok (.getfield 45, 3) := by decide +kernel
theorem dX1_addTo_92 : decode cX1_addTo 92 = .ok (.iastore, 1) := by decide +kernel
theorem dX1_addTo_93 : decode cX1_addTo 93 = .ok (.iload 6, 2) := by decide +kernel
theorem dX1_addTo_95 : decode cX1_addTo 95 = .ok (.ireturn, 1) := by decide +kernel
theorem dX1_chainOf_0 : decode cX1_chainOf 0 = .ok (.iload_n 0, 1) := by decide +kernel
theorem dX1_chainOf_1 : decode cX1_chainOf 1 = .ok (.sipush 331, 3) := by decide +kernel
theorem dX1_chainOf_4 : decode cX1_chainOf 4 = .ok (.imul, 1) := by decide +kernel
theorem dX1_chainOf_5 : decode cX1_chainOf 5 = .ok (.iload_n 1, 1) := by decide +kernel
theorem dX1_chainOf_6 : decode cX1_chainOf 6 = .ok (.sipush 613, 3) := by decide +kernel
theorem dX1_chainOf_9 : decode cX1_chainOf 9 = .ok (.imul, 1) := by decide +kernel
theorem dX1_chainOf_10 : decode cX1_chainOf 10 = .ok (.iadd, 1) := by decide +kernel
theorem dX1_chainOf_11 : decode cX1_chainOf 11 = .ok (.iload_n 2, 1) := by decide +kernel
theorem dX1_chainOf_12 : decode cX1_chainOf 12 = .ok (.bipush 37, 2) := by decide +kernel
theorem dX1_chainOf_14 : decode cX1_chainOf 14 = .ok (.imul, 1) := by decide +kernel
theorem dX1_chainOf_15 : decode cX1_chainOf 15 = .ok (.iadd, 1) := by decide +kernel
theorem dX1_chainOf_16 : decode cX1_chainOf 16 = .ok (.sipush 1023, 3) := by decide +kernel
theorem dX1_chainOf_19 : decode cX1_chainOf 19 = .ok (.iand, 1) := by decide +kernel
theorem dX1_chainOf_20 : decode cX1_chainOf 20 = .ok (.ireturn, 1) := by decide +kernel
theorem dX1_drop_0 : decode cX1_drop 0 = .ok (.iconst 0, 1) := by decide +kernel
theorem dX1_drop_1 : decode cX1_drop 1 = .ok (.istore_n 1, 1) := by decide +kernel
theorem dX1_drop_2 : decode cX1_drop 2 = .ok (.iload_n 1, 1) := by decide +kernel
theorem dX1_drop_3 : decode cX1_drop 3 = .ok (.aload_n 0, 1) := by decide +kernel
theorem dX1_drop_4 : decode cX1_drop 4 = .ok (.getfield 45, 3) := by decide +kernel
theorem dX1_drop_7 : decode cX1_drop 7 = .ok (.if_icmp .ge 44, 3) := by decide +kernel
theorem dX1_drop_10 : decode cX1_drop 10 = .ok (.iload_n 1, 1) := by decide +kernel
theorem dX1_drop_11 : decode cX1_drop 11 = .ok (.aload_n 0, 1) := by decide +kernel
theorem dX1_drop_12 : decode cX1_drop 12 = .ok (.getfield 25, 3) := by decide +kernel
theorem dX1_drop_15 : decode cX1_drop 15 = .ok (.if_icmp .ge 36, 3) := by decide +kernel
theorem dX1_drop_18 : decode cX1_drop 18 = .ok (.aload_n 0, 1) := by decide +kernel
theorem dX1_drop_19 : decode cX1_drop 19 = .ok (.getfield 11, 3) := by decide +kernel
theorem dX1_drop_22 : decode cX1_drop 22 = .ok (.aload_n 0, 1) := by decide +kernel
theorem dX1_drop_23 : decode cX1_drop 23 = .ok (.getfield 29, 3) := by decide +kernel
theorem dX1_drop_26 : decode cX1_drop 26 = .ok (.iload_n 1, 1) := by decide +kernel
theorem dX1_drop_27 : decode cX1_drop 27 = .ok (.iaload, 1) := by decide +kernel
theorem dX1_drop_28 : decode cX1_drop 28 = .ok (.aload_n 0, 1) := by decide +kernel
theorem dX1_drop_29 : decode cX1_drop 29 = .ok (.getfield 32, 3) := by decide +kernel
theorem dX1_drop_32 : decode cX1_drop 32 = .ok (.iload_n 1, 1) := by decide +kernel
theorem dX1_drop_33 : decode cX1_drop 33 = .ok (.iaload, 1) := by decide +kernel
theorem dX1_drop_34 : decode cX1_drop 34 = .ok (.aload_n 0, 1) := by decide +kernel
theorem dX1_drop_35 : decode cX1_drop 35 = .ok (.getfield 35, 3) := by decide +kernel
theorem dX1_drop_38 : decode cX1_drop 38 = .ok (.iload_n 1, 1) := by decide +kernel
theorem dX1_drop_39 : decode cX1_drop 39 = .ok (.iaload, 1) := by decide +kernel
theorem dX1_drop_40 : decode cX1_drop 40 = .ok (.invokestatic 55, 3) := by decide +kernel
theorem dX1_drop_43 : decode cX1_drop 43 = .ok (.iconst 0, 1) := by decide +kernel
theorem dX1_drop_44 : decode cX1_drop 44 = .ok (.iastore, 1) := by decide +kernel
theorem dX1_drop_45 : decode cX1_drop 45 = .ok (.iinc 1 1, 3) := by decide +kernel
theorem dX1_drop_48 : decode cX1_drop 48 = .ok (.goto (-46), 3) := by decide +kernel
theorem dX1_drop_51 : decode cX1_drop 51 = .ok (.aload_n 0, 1) := by decide +kernel
theorem dX1_drop_52 : decode cX1_drop 52 = .ok (.iconst 0, 1) := by decide +kernel
theorem dX1_drop_53 : decode cX1_drop 53 = .ok (.putfield 45, 3) := by decide +kernel
theorem dX1_drop_56 : decode cX1_drop 56 = .ok (.return_, 1) := by decide +kernel
theorem dX1_nameOf_0 : decode cX1_nameOf 0 = .ok (.aload_n 0, 1) := by decide +kernel
theorem dX1_nameOf_1 : decode cX1_nameOf 1 = .ok (.iload_n 1, 1) := by decide +kernel
theorem dX1_nameOf_2 : decode cX1_nameOf 2 = .ok (.invokevirtual 65, 3) := by decide +kernel
theorem dX1_nameOf_5 : decode cX1_nameOf 5 = .ok (.ifCond .eq 12, 3) := by decide +kernel
theorem dX1_nameOf_8 : decode cX1_nameOf 8 = .ok (.aload_n 0, 1) := by decide +kernel
theorem dX1_nameOf_9 : decode cX1_nameOf 9 = .ok (.getfield 15, 3) := by decide +kernel
theorem dX1_nameOf_12 : decode cX1_nameOf 12 = .ok (.iload_n 1, 1) := by decide +kernel
theorem dX1_nameOf_13 : decode cX1_nameOf 13 = .ok (.laload, 1) := by decide +kernel
theorem dX1_nameOf_14 : decode cX1_nameOf 14 = .ok (.goto 4, 3) := by decide +kernel
theorem dX1_nameOf_17 : decode cX1_nameOf 17 = .ok (.lconst 0, 1) := by decide +kernel
theorem dX1_nameOf_18 : decode cX1_nameOf 18 = .ok (.lreturn, 1) := by decide +kernel
theorem dX1_named_0 : decode cX1_named 0 = .ok (.iconst 0, 1) := by decide +kernel
theorem dX1_named_1 : decode cX1_named 1 = .ok (.istore_n 3, 1) := by decide +kernel
theorem dX1_named_2 : decode cX1_named 2 = .ok (.iload_n 3, 1) := by decide +kernel
theorem dX1_named_3 : decode cX1_named 3 = .ok (.aload_n 0, 1) := by decide +kernel
theorem dX1_named_4 : decode cX1_named 4 = .ok (.getfield 48, 3) := by decide +kernel
theorem dX1_named_7 : decode cX1_named 7 = .ok (.if_icmp .ge 34, 3) := by decide +kernel
theorem dX1_named_10 : decode cX1_named 10 = .ok (.iload_n 3, 1) := by decide +kernel
theorem dX1_named_11 : decode cX1_named 11 = .ok (.bipush 24, 2) := by decide +kernel
theorem dX1_named_13 : decode cX1_named 13 = .ok (.if_icmp .ge 28, 3) := by decide +kernel
theorem dX1_named_16 : decode cX1_named 16 = .ok (.aload_n 0, 1) := by decide +kernel
theorem dX1_named_17 : decode cX1_named 17 = .ok (.getfield 15, 3) := by decide +kernel
theorem dX1_named_20 : decode cX1_named 20 = .ok (.iload_n 3, 1) := by decide +kernel
theorem dX1_named_21 : decode cX1_named 21 = .ok (.laload, 1) := by decide +kernel
theorem dX1_named_22 : decode cX1_named 22 = .ok (.lload_n 1, 1) := by decide +kernel
theorem dX1_named_23 : decode cX1_named 23 = .ok (.lcmp, 1) := by decide +kernel
theorem dX1_named_24 : decode cX1_named 24 = .ok (.ifCond .ne 11, 3) := by decide +kernel
theorem dX1_named_27 : decode cX1_named 27 = .ok (.aload_n 0, 1) := by decide +kernel
theorem dX1_named_28 : decode cX1_named 28 = .ok (.iconst 2, 1) := by decide +kernel
theorem dX1_named_29 : decode cX1_named 29 = .ok (.iload_n 3, 1) := by decide +kernel
theorem dX1_named_30 : decode cX1_named 30 = .ok (.iconst 0, 1) := by decide +kernel
theorem dX1_named_31 : decode cX1_named 31 = .ok (.invokevirtual 68, 3) := by decide +kernel
theorem dX1_named_34 : decode cX1_named 34 = .ok (.ireturn, 1) := by decide +kernel
theorem dX1_named_35 : decode cX1_named 35 = .ok (.iinc 3 1, 3) := by decide +kernel
theorem dX1_named_38 : decode cX1_named 38 = .ok (.goto (-36), 3) := by decide +kernel
theorem dX1_named_41 : decode cX1_named 41 = .ok (.iconst (-1), 1) := by decide +kernel
theorem dX1_named_42 : decode cX1_named 42 = .ok (.ireturn, 1) := by decide +kernel
theorem dX1_hasRoomForVariable_0 : decode cX1_hasRoomForVariable 0 = .ok (.aload_n 0, 1) := by decide +kernel
theorem dX1_hasRoomForVariable_1 : decode cX1_hasRoomForVariable 1 = .ok (.getfield 48, 3) := by decide +kernel
theorem dX1_hasRoomForVariable_4 : decode cX1_hasRoomForVariable 4 = .ok (.bipush 24, 2) := by decide +kernel
theorem dX1_hasRoomForVariable_6 : decode cX1_hasRoomForVariable 6 = .ok (.if_icmp .ge 7, 3) := by decide +kernel
theorem dX1_hasRoomForVariable_9 : decode cX1_hasRoomForVariable 9 = .ok (.iconst 1, 1) := by decide +kernel
theorem dX1_hasRoomForVariable_10 : decode cX1_hasRoomForVariable 10 = .ok (.goto 4, 3) := by decide +kernel
theorem dX1_hasRoomForVariable_13 : decode cX1_hasRoomForVariable 13 = .ok (.iconst 0, 1) := by decide +kernel
theorem dX1_hasRoomForVariable_14 : decode cX1_hasRoomForVariable 14 = .ok (.ireturn, 1) := by decide +kernel
theorem dX1_addNamed_0 : decode cX1_addNamed 0 = .ok (.aload_n 0, 1) := by decide +kernel
theorem dX1_addNamed_1 : decode cX1_addNamed 1 = .ok (.getfield 48, 3) := by decide +kernel
theorem dX1_addNamed_4 : decode cX1_addNamed 4 = .ok (.ifCond .lt 12, 3) := by decide +kernel
theorem dX1_addNamed_7 : decode cX1_addNamed 7 = .ok (.aload_n 0, 1) := by decide +kernel
theorem dX1_addNamed_8 : decode cX1_addNamed 8 = .ok (.getfield 48, 3) := by decide +kernel
theorem dX1_addNamed_11 : decode cX1_addNamed 11 = .ok (.bipush 24, 2) := by decide +kernel
theorem dX1_addNamed_13 : decode cX1_addNamed 13 = .ok (.if_icmp .lt 5, 3) := by decide +kernel
theorem dX1_addNamed_16 : decode cX1_addNamed 16 = .ok (.iconst (-1), 1) := by decide +kernel
theorem dX1_addNamed_17 : decode cX1_addNamed 17 = .ok (.ireturn, 1) := by decide +kernel
theorem dX1_addNamed_18 : decode cX1_addNamed 18 = .ok (.aload_n 0, 1) := by decide +kernel
theorem dX1_addNamed_19 : decode cX1_addNamed 19 = .ok (.iconst 2, 1) := by decide +kernel
theorem dX1_addNamed_20 : decode cX1_addNamed 20 = .ok (.aload_n 0, 1) := by decide +kernel
theorem dX1_addNamed_21 : decode cX1_addNamed 21 = .ok (.getfield 48, 3) := by decide +kernel
theorem dX1_addNamed_24 : decode cX1_addNamed 24 = .ok (.iconst 0, 1) := by decide +kernel
theorem dX1_addNamed_25 : decode cX1_addNamed 25 = .ok (.invokestatic 55, 3) := by decide +kernel
theorem dX1_addNamed_28 : decode cX1_addNamed 28 = .ok (.iconst 2, 1) := by decide +kernel
theorem dX1_addNamed_29 : decode cX1_addNamed 29 = .ok (.aload_n 0, 1) := by decide +kernel
theorem dX1_addNamed_30 : decode cX1_addNamed 30 = .ok (.getfield 48, 3) := by decide +kernel
theorem dX1_addNamed_33 : decode cX1_addNamed 33 = .ok (.iconst 0, 1) := by decide +kernel
theorem dX1_addNamed_34 : decode cX1_addNamed 34 = .ok (.invokevirtual 62, 3) := by decide +kernel
theorem dX1_addNamed_37 : decode cX1_addNamed 37 = .ok (.istore_n 3, 1) := by decide +kernel
theorem dX1_addNamed_38 : decode cX1_addNamed 38 = .ok (.iload_n 3, 1) := by decide +kernel
theorem dX1_addNamed_39 : decode cX1_addNamed 39 = .ok (.ifCond .lt 23, 3) := by decide +kernel
theorem dX1_addNamed_42 : decode cX1_addNamed 42 = .ok (.aload_n 0, 1) := by decide +kernel
theorem dX1_addNamed_43 : decode cX1_addNamed 43 = .ok (.getfield 15, 3) := by decide +kernel
theorem dX1_addNamed_46 : decode cX1_addNamed 46 = .ok (.aload_n 0, 1) := by decide +kernel
theorem dX1_addNamed_47 : decode cX1_addNamed 47 = .ok (.getfield 48, 3) := by decide +kernel
theorem dX1_addNamed_50 : decode cX1_addNamed 50 = .ok (.lload_n 1, 1) := by decide +kernel
theorem dX1_addNamed_51 : decode cX1_addNamed 51 = .ok (.lastore, 1) := by decide +kernel
theorem dX1_addNamed_52 : decode cX1_addNamed 52 = .ok (.aload_n 0, 1) := by decide +kernel
theorem dX1_addNamed_53 : decode cX1_addNamed 53 = .ok (.dup, 1) := by decide +kernel
theorem dX1_addNamed_54 : decode cX1_addNamed 54 = .ok (.getfield 48, 3) := by decide +kernel
theorem dX1_addNamed_57 : decode cX1_addNamed 57 = .ok (.iconst 1, 1) := by decide +kernel
theorem dX1_addNamed_58 : decode cX1_addNamed 58 = .ok (.iadd, 1) := by decide +kernel
theorem dX1_addNamed_59 : decode cX1_addNamed 59 = .ok (.putfield 48, 3) := by decide +kernel
theorem dX1_addNamed_62 : decode cX1_addNamed 62 = .ok (.iload_n 3, 1) := by decide +kernel
theorem dX1_addNamed_63 : decode cX1_addNamed 63 = .ok (.ireturn, 1) := by decide +kernel
