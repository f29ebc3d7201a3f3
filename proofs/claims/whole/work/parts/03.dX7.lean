theorem dX7_init_0 : decode cX7_init 0 = .ok (.aload_n 0, 1) := by decide +kernel
theorem dX7_init_1 : decode cX7_init 1 = .ok (.invokespecial 3, 3) := by decide +kernel
theorem dX7_init_4 : decode cX7_init 4 = .ok (.aload_n 0, 1) := by decide +kernel
theorem dX7_init_5 : decode cX7_init 5 = .ok (.iload_n 1, 1) := by decide +kernel
theorem dX7_init_6 : decode cX7_init 6 = .ok (.iconst 0, 1) := by decide +kernel
theorem dX7_init_7 : decode cX7_init 7 = .ok (.invokestatic 9, 3) := by decide +kernel
theorem dX7_init_10 : decode cX7_init 10 = .ok (.putfield 15, 3) := by decide +kernel
theorem dX7_init_13 : decode cX7_init 13 = .ok (.aload_n 0, 1) := by decide +kernel
theorem dX7_init_14 : decode cX7_init 14 = .ok (.aload_n 0, 1) := by decide +kernel
theorem dX7_init_15 : decode cX7_init 15 = .ok (.getfield 15, 3) := by decide +kernel
theorem dX7_init_18 : decode cX7_init 18 = .ok (.newarray .int, 2) := by decide +kernel
theorem dX7_init_20 : decode cX7_init 20 = .ok (.putfield 21, 3) := by decide +kernel
theorem dX7_init_23 : decode cX7_init 23 = .ok (.aload_n 0, 1) := by decide +kernel
theorem dX7_init_24 : decode cX7_init 24 = .ok (.aload_n 0, 1) := by decide +kernel
theorem dX7_init_25 : decode cX7_init 25 = .ok (.getfield 15, 3) := by decide +kernel
theorem dX7_init_28 : decode cX7_init 28 = .ok (.newarray .int, 2) := by decide +kernel
theorem dX7_init_30 : decode cX7_init 30 = .ok (.putfield 25, 3) := by decide +kernel
theorem dX7_init_33 : decode cX7_init 33 = .ok (.aload_n 0, 1) := by decide +kernel
theorem dX7_init_34 : decode cX7_init 34 = .ok (.aload_n 0, 1) := by decide +kernel
theorem dX7_init_35 : decode cX7_init 35 = .ok (.getfield 15, 3) := by decide +kernel
theorem dX7_init_38 : decode cX7_init 38 = .ok (.newarray .int, 2) := by decide +kernel
theorem dX7_init_40 : decode cX7_init 40 = .ok (.putfield 28, 3) := by decide +kernel
theorem dX7_init_43 : decode cX7_init 43 = .ok (.aload_n 0, 1) := by decide +kernel
theorem dX7_init_44 : decode cX7_init 44 = .ok (.aload_n 0, 1) := by decide +kernel
theorem dX7_init_45 : decode cX7_init 45 = .ok (.getfield 15, 3) := by decide +kernel
theorem dX7_init_48 : decode cX7_init 48 = .ok (.newarray .int, 2) := by decide +kernel
theorem dX7_init_50 : decode cX7_init 50 = .ok (.putfield 31, 3) := by decide +kernel
theorem dX7_init_53 : decode cX7_init 53 = .ok (.aload_n 0, 1) := by decide +kernel
theorem dX7_init_54 : decode cX7_init 54 = .ok (.aload_n 0, 1) := by decide +kernel
theorem dX7_init_55 : decode cX7_init 55 = .ok (.getfield 15, 3) := by decide +kernel
theorem dX7_init_58 : decode cX7_init 58 = .ok (.newarray .int, 2) := by decide +kernel
theorem dX7_init_60 : decode cX7_init 60 = .ok (.putfield 34, 3) := by decide +kernel
theorem dX7_init_63 : decode cX7_init 63 = .ok (.return_, 1) := by decide +kernel
theorem dX7_partsOf_0 : decode cX7_partsOf 0 = .ok (.iload_n 0, 1) := by decide +kernel
theorem dX7_partsOf_1 : decode cX7_partsOf 1 = .ok (.tableswitch 117 65 88 #[113, 117, 111, 117, 117, 115, 117, 117, 115, 115, 117, 115, 117, 117, 117, 113, 117, 117, 115, 117, 117, 117, 117, 115], 111) := by decide +kernel
theorem dX7_partsOf_112 : decode cX7_partsOf 112 = .ok (.iconst 3, 1) := by decide +kernel
theorem dX7_partsOf_113 : decode cX7_partsOf 113 = .ok (.ireturn, 1) := by decide +kernel
theorem dX7_partsOf_114 : decode cX7_partsOf 114 = .ok (.iconst 2, 1) := by decide +kernel
theorem dX7_partsOf_115 : decode cX7_partsOf 115 = .ok (.ireturn, 1) := by decide +kernel
theorem dX7_partsOf_116 : decode cX7_partsOf 116 = .ok (.iconst 1, 1) := by decide +kernel
theorem dX7_partsOf_117 : decode cX7_partsOf 117 = .ok (.ireturn, 1) := by decide +kernel
theorem dX7_partsOf_118 : decode cX7_partsOf 118 = .ok (.iconst 0, 1) := by decide +kernel
theorem dX7_partsOf_119 : decode cX7_partsOf 119 = .ok (.ireturn, 1) := by decide +kernel
theorem dX7_binds_0 : decode cX7_binds 0 = .ok (.iload_n 0, 1) := by decide +kernel
theorem dX7_binds_1 : decode cX7_binds 1 = .ok (.bipush 76, 2) := by decide +kernel
theorem dX7_binds_3 : decode cX7_binds 3 = .ok (.if_icmp .eq 13, 3) := by decide +kernel
theorem dX7_binds_6 : decode cX7_binds 6 = .ok (.iload_n 0, 1) := by decide +kernel
theorem dX7_binds_7 : decode cX7_binds 7 = .ok (.bipush 67, 2) := by decide +kernel
theorem dX7_binds_9 : decode cX7_binds 9 = .ok (.if_icmp .ne 11, 3) := by decide +kernel
theorem dX7_binds_12 : decode cX7_binds 12 = .ok (.iload_n 1, 1) := by decide +kernel
theorem dX7_binds_13 : decode cX7_binds 13 = .ok (.ifCond .le 7, 3) := by decide +kernel
theorem dX7_binds_16 : decode cX7_binds 16 = .ok (.iconst 1, 1) := by decide +kernel
theorem dX7_binds_17 : decode cX7_binds 17 = .ok (.goto 4, 3) := by decide +kernel
theorem dX7_binds_20 : decode cX7_binds 20 = .ok (.iconst 0, 1) := by decide +kernel
theorem dX7_binds_21 : decode cX7_binds 21 = .ok (.ireturn, 1) := by decide +kernel
theorem dX7_drop_0 : decode cX7_drop 0 = .ok (.aload_n 0, 1) := by decide +kernel
theorem dX7_drop_1 : decode cX7_drop 1 = .ok (.iconst 0, 1) := by decide +kernel
theorem dX7_drop_2 : decode cX7_drop 2 = .ok (.putfield 37, 3) := by decide +kernel
theorem dX7_drop_5 : decode cX7_drop 5 = .ok (.return_, 1) := by decide +kernel
theorem dX7_add_0 : decode cX7_add 0 = .ok (.aload_n 0, 1) := by decide +kernel
theorem dX7_add_1 : decode cX7_add 1 = .ok (.getfield 37, 3) := by decide +kernel
theorem dX7_add_4 : decode cX7_add 4 = .ok (.ifCond .lt 14, 3) := by decide +kernel
theorem dX7_add_7 : decode cX7_add 7 = .ok (.aload_n 0, 1) := by decide +kernel
theorem dX7_add_8 : decode cX7_add 8 = .ok (.getfield 37, 3) := by decide +kernel
theorem dX7_add_11 : decode cX7_add 11 = .ok (.aload_n 0, 1) := by decide +kernel
theorem dX7_add_12 : decode cX7_add 12 = .ok (.getfield 15, 3) := by decide +kernel
theorem dX7_add_15 : decode cX7_add 15 = .ok (.if_icmp .lt 5, 3) := by decide +kernel
theorem dX7_add_18 : decode cX7_add 18 = .ok (.iconst (-1), 1) := by decide +kernel
theorem dX7_add_19 : decode cX7_add 19 = .ok (.ireturn, 1) := by decide +kernel
theorem dX7_add_20 : decode cX7_add 20 = .ok (.aload_n 0, 1) := by decide +kernel
theorem dX7_add_21 : decode cX7_add 21 = .ok (.getfield 37, 3) := by decide +kernel
theorem dX7_add_24 : decode cX7_add 24 = .ok (.istore 6, 2) := by decide +kernel
theorem dX7_add_26 : decode cX7_add 26 = .ok (.aload_n 0, 1) := by decide +kernel
theorem dX7_add_27 : decode cX7_add 27 = .ok (.getfield 21, 3) := by decide +kernel
theorem dX7_add_30 : decode cX7_add 30 = .ok (.iload 6, 2) := by decide +kernel
theorem dX7_add_32 : decode cX7_add 32 = .ok (.iload_n 1, 1) := by decide +kernel
theorem dX7_add_33 : decode cX7_add 33 = .ok (.iastore, 1) := by decide +kernel
theorem dX7_add_34 : decode cX7_add 34 = .ok (.aload_n 0, 1) := by decide +kernel
theorem dX7_add_35 : decode cX7_add 35 = .ok (.getfield 25, 3) := by decide +kernel
theorem dX7_add_38 : decode cX7_add 38 = .ok (.iload 6, 2) := by decide +kernel
theorem dX7_add_40 : decode cX7_add 40 = .ok (.iload_n 2, 1) := by decide +kernel
theorem dX7_add_41 : decode cX7_add 41 = .ok (.iastore, 1) := by decide +kernel
theorem dX7_add_42 : decode cX7_add 42 = .ok (.aload_n 0, 1) := by decide +kernel
theorem dX7_add_43 : decode cX7_add 43 = .ok (.getfield 28, 3) := by decide +kernel
theorem dX7_add_46 : decode cX7_add 46 = .ok (.iload 6, 2) := by decide +kernel
theorem dX7_add_48 : decode cX7_add 48 = .ok (.iload_n 3, 1) := by decide +kernel
theorem dX7_add_49 : decode cX7_add 49 = .ok (.iastore, 1) := by decide +kernel
theorem dX7_add_50 : decode cX7_add 50 = .ok (.aload_n 0, 1) := by decide +kernel
theorem dX7_add_51 : decode cX7_add 51 = .ok (.getfield 31, 3) := by decide +kernel
theorem dX7_add_54 : decode cX7_add 54 = .ok (.iload 6, 2) := by decide +kernel
theorem dX7_add_56 : decode cX7_add 56 = .ok (.iload 4, 2) := by decide +kernel
theorem dX7_add_58 : decode cX7_add 58 = .ok (.iastore, 1) := by decide +kernel
theorem dX7_add_59 : decode cX7_add 59 = .ok (.aload_n 0, 1) := by decide +kernel
theorem dX7_add_60 : decode cX7_add 60 = .ok (.getfield 34, 3) := by decide +kernel
theorem dX7_add_63 : decode cX7_add 63 = .ok (.iload 6, 2) := by decide +kernel
theorem dX7_add_65 : decode cX7_add 65 = .ok (.iload 5, 2) := by decide +kernel
theorem dX7_add_67 : decode cX7_add 67 = .ok (.iastore, 1) := by decide +kernel
theorem dX7_add_68 : decode cX7_add 68 = .ok (.aload_n 0, 1) := by decide +kernel
theorem dX7_add_69 : decode cX7_add 69 = .ok (.dup, 1) := by decide +kernel
theorem dX7_add_70 : decode cX7_add 70 = .ok (.getfield 37, 3) := by decide +kernel
theorem dX7_add_73 : decode cX7_add 73 = .ok (.iconst 1, 1) := by decide +kernel
theorem dX7_add_74 : decode cX7_add 74 = .ok (.iadd, 1) := by decide +kernel
theorem dX7_add_75 : decode cX7_add 75 = .ok (.putfield 37, 3) := by decide +kernel
theorem dX7_add_78 : decode cX7_add 78 = .ok (.iload 6, 2) := by decide +kernel
theorem dX7_add_80 : decode cX7_add 80 = .ok (.ireturn, 1) := by decide +kernel
theorem dX7_hypothesis_0 : decode cX7_hypothesis 0 = .ok (.aload_n 0, 1) := by decide +kernel
theorem dX7_hypothesis_1 : decode cX7_hypothesis 1 = .ok (.bipush 104, 2) := by decide +kernel
theorem dX7_hypothesis_3 : decode cX7_hypothesis 3 = .ok (.iload_n 1, 1) := by decide +kernel
theorem dX7_hypothesis_4 : decode cX7_hypothesis 4 = .ok (.iconst 0, 1) := by decide +kernel
theorem dX7_hypothesis_5 : decode cX7_hypothesis 5 = .ok (.iconst 0, 1) := by decide +kernel
theorem dX7_hypothesis_6 : decode cX7_hypothesis 6 = .ok (.iconst (-1), 1) := by decide +kernel
theorem dX7_hypothesis_7 : decode cX7_hypothesis 7 = .ok (.invokevirtual 40, 3) := by decide +kernel
theorem dX7_hypothesis_10 : decode cX7_hypothesis 10 = .ok (.ireturn, 1) := by decide +kernel
theorem dX7_unit_0 : decode cX7_unit 0 = .ok (.aload_n 0, 1) := by decide +kernel
theorem dX7_unit_1 : decode cX7_unit 1 = .ok (.bipush 84, 2) := by decide +kernel
theorem dX7_unit_3 : decode cX7_unit 3 = .ok (.iconst 0, 1) := by decide +kernel
theorem dX7_unit_4 : decode cX7_unit 4 = .ok (.iconst 0, 1) := by decide +kernel
theorem dX7_unit_5 : decode cX7_unit 5 = .ok (.iconst 0, 1) := by decide +kernel
theorem dX7_unit_6 : decode cX7_unit 6 = .ok (.iconst (-1), 1) := by decide +kernel
theorem dX7_unit_7 : decode cX7_unit 7 = .ok (.invokevirtual 40, 3) := by decide +kernel
theorem dX7_unit_10 : decode cX7_unit 10 = .ok (.ireturn, 1) := by decide +kernel
theorem dX7_lambda_0 : decode cX7_lambda 0 = .ok (.aload_n 0, 1) := by decide +kernel
theorem dX7_lambda_1 : decode cX7_lambda 1 = .ok (.bipush 76, 2) := by decide +kernel
theorem dX7_lambda_3 : decode cX7_lambda 3 = .ok (.iload_n 2, 1) := by decide +kernel
theorem dX7_lambda_4 : decode cX7_lambda 4 = .ok (.iload_n 1, 1) := by decide +kernel
theorem dX7_lambda_5 : decode cX7_lambda 5 = .ok (.iconst 0, 1) := by decide +kernel
theorem dX7_lambda_6 : decode cX7_lambda 6 = .ok (.iload_n 3, 1) := by decide +kernel
theorem dX7_lambda_7 : decode cX7_lambda 7 = .ok (.invokevirtual 40, 3) := by decide +kernel
theorem dX7_lambda_10 : decode cX7_lambda 10 = .ok (.ireturn, 1) := by decide +kernel
theorem dX7_one_0 : decode cX7_one 0 = .ok (.aload_n 0, 1) := by decide +kernel
theorem dX7_one_1 : decode cX7_one 1 = .ok (.iload_n 1, 1) := by decide +kernel
theorem dX7_one_2 : decode cX7_one 2 = .ok (.iload_n 2, 1) := by decide +kernel
theorem dX7_one_3 : decode cX7_one 3 = .ok (.iconst 0, 1) := by decide +kernel
theorem dX7_one_4 : decode cX7_one 4 = .ok (.iconst 0, 1) := by decide +kernel
theorem dX7_one_5 : decode cX7_one 5 = .ok (.iconst (-1), 1) := by decide +kernel
theorem dX7_one_6 : decode cX7_one 6 = .ok (.invokevirtual 40, 3) := by decide +kernel
theorem dX7_one_9 : decode cX7_one 9 = .ok (.ireturn, 1) := by decide +kernel
theorem dX7_two_0 : decode cX7_two 0 = .ok (.aload_n 0, 1) := by decide +kernel
theorem dX7_two_1 : decode cX7_two 1 = .ok (.iload_n 1, 1) := by decide +kernel
theorem dX7_two_2 : decode cX7_two 2 = .ok (.iload_n 2, 1) := by decide +kernel
theorem dX7_two_3 : decode cX7_two 3 = .ok (.iload_n 3, 1) := by decide +kernel
theorem dX7_two_4 : decode cX7_two 4 = .ok (.iconst 0, 1) := by decide +kernel
theorem dX7_two_5 : decode cX7_two 5 = .ok (.iconst (-1), 1) := by decide +kernel
theorem dX7_two_6 : decode cX7_two 6 = .ok (.invokevirtual 40, 3) := by decide +kernel
theorem dX7_two_9 : decode cX7_two 9 = .ok (.ireturn, 1) := by decide +kernel
theorem dX7_has_0 : decode cX7_has 0 = .ok (.iload_n 1, 1) := by decide +kernel
theorem dX7_has_1 : decode cX7_has 1 = .ok (.ifCond .lt 23, 3) := by decide +kernel
theorem dX7_has_4 : decode cX7_has 4 = .ok (.iload_n 1, 1) := by decide +kernel
theorem dX7_has_5 : decode cX7_has 5 = .ok (.aload_n 0, 1) := by decide +kernel
theorem dX7_has_6 : decode cX7_has 6 = .ok (.getfield 37, 3) := by decide +kernel
theorem dX7_has_9 : decode cX7_has 9 = .ok (.if_icmp .ge 15, 3) := by decide +kernel
theorem dX7_has_12 : decode cX7_has 12 = .ok (.iload_n 1, 1) := by decide +kernel
theorem dX7_has_13 : decode cX7_has 13 = .ok (.aload_n 0, 1) := by decide +kernel
theorem dX7_has_14 : decode cX7_has 14 = .ok (.getfield 15, 3) := by decide +kernel
theorem dX7_has_17 : decode cX7_has 17 = .ok (.if_icmp .ge 7, 3) := by decide +kernel
theorem dX7_has_20 : decode cX7_has 20 = .ok (.iconst 1, 1) := by decide +kernel
theorem dX7_has_21 : decode cX7_has 21 = .ok (.goto 4, 3) := by decide +kernel
theorem dX7_has_24 : decode cX7_has 24 = .ok (.iconst 0, 1) := by decide +kernel
theorem dX7_has_25 : decode cX7_has 25 = .ok (.ireturn, 1) := by decide +kernel
theorem dX7_kindOf_0 : decode cX7_kindOf 0 = .ok (.aload_n 0, 1) := by decide +kernel
theorem dX7_kindOf_1 : decode cX7_kindOf 1 = .ok (.iload_n 1, 1) := by decide +kernel
theorem dX7_kindOf_2 : decode cX7_kindOf 2 = .ok (.invokevirtual 44, 3) := by decide +kernel
theorem dX7_kindOf_5 : decode cX7_kindOf 5 = .ok (.ifCond .eq 12, 3) := by decide +kernel
theorem dX7_kindOf_8 : decode cX7_kindOf 8 = .ok (.aload_n 0, 1) := by decide +kernel
theorem dX7_kindOf_9 : decode cX7_kindOf 9 = .ok (.getfield 21, 3) := by decide +kernel
theorem dX7_kindOf_12 : decode cX7_kindOf 12 = .ok (.iload_n 1, 1) := by decide +kernel
theorem dX7_kindOf_13 : decode cX7_kindOf 13 = .ok (.iaload, 1) := by decide +kernel
theorem dX7_kindOf_14 : decode cX7_kindOf 14 = .ok (.goto 4, 3) := by decide +kernel
theorem dX7_kindOf_17 : decode cX7_kindOf 17 = .ok (.iconst (-1), 1) := by decide +kernel
theorem dX7_kindOf_18 : decode cX7_kindOf 18 = .ok (.ireturn, 1) := by decide +kernel
theorem dX7_partOf_0 : decode cX7_partOf 0 = .ok (.aload_n 0, 1) := by decide +kernel
theorem dX7_partOf_1 : decode cX7_partOf 1 = .ok (.iload_n 1, 1) := by decide +kernel
theorem dX7_partOf_2 : decode cX7_partOf 2 = .ok (.invokevirtual 44, 3) := by decide +kernel
theorem dX7_partOf_5 : decode cX7_partOf 5 = .ok (.ifCond .ne 5, 3) := by decide +kernel
theorem dX7_partOf_8 : decode cX7_partOf 8 = .ok (.iconst (-1), 1) := by decide +kernel
theorem dX7_partOf_9 : decode cX7_partOf 9 = .ok (.ireturn, 1) := by decide +kernel
theorem dX7_partOf_10 : decode cX7_partOf 10 = .ok (.iload_n 2, 1) := by decide +kernel
theorem dX7_partOf_11 : decode cX7_partOf 11 = .ok (.ifCond .ne 12, 3) := by decide +kernel
theorem dX7_partOf_14 : decode cX7_partOf 14 = .ok (.aload_n 0, 1) := by decide +kernel
theorem dX7_partOf_15 : decode cX7_partOf 15 = .ok (.getfield 25, 3) := by decide +kernel
theorem dX7_partOf_18 : decode cX7_partOf 18 = .ok (.iload_n 1, 1) := by decide +kernel
theorem dX7_partOf_19 : decode cX7_partOf 19 = .ok (.iaload, 1) := by decide +kernel
theorem dX7_partOf_20 : decode cX7_partOf 20 = .ok (.goto 23, 3) := by decide +kernel
theorem dX7_partOf_23 : decode cX7_partOf 23 = .ok (.iload_n 2, 1) := by decide +kernel
theorem dX7_partOf_24 : decode cX7_partOf 24 = .ok (.iconst 1, 1) := by decide +kernel
theorem dX7_partOf_25 : decode cX7_partOf 25 = .ok (.if_icmp .ne 12, 3) := by decide +kernel
theorem dX7_partOf_28 : decode cX7_partOf 28 = .ok (.aload_n 0, 1) := by decide +kernel
theorem dX7_partOf_29 : decode cX7_partOf 29 = .ok (.getfield 28, 3) := by decide +kernel
theorem dX7_partOf_32 : decode cX7_partOf 32 = .ok (.iload_n 1, 1) := by decide +kernel
theorem dX7_partOf_33 : decode cX7_partOf 33 = .ok (.iaload, 1) := by decide +kernel
theorem dX7_partOf_34 : decode cX7_partOf 34 = .ok (.goto 9, 3) := by decide +kernel
theorem dX7_partOf_37 : decode cX7_partOf 37 = .ok (.aload_n 0, 1) := by decide +kernel
theorem dX7_partOf_38 : decode cX7_partOf 38 = .ok (.getfield 31, 3) := by decide +kernel
theorem dX7_partOf_41 : decode cX7_partOf 41 = .ok (.iload_n 1, 1) := by decide +kernel
theorem dX7_partOf_42 : decode cX7_partOf 42 = .ok (.iaload, 1) := by decide +kernel
theorem dX7_partOf_43 : decode cX7_partOf 43 = .ok (.ireturn, 1) := by decide +kernel
theorem dX7_numberOf_0 : decode cX7_numberOf 0 = .ok (.aload_n 0, 1) := by decide +kernel
theorem dX7_numberOf_1 : decode cX7_numberOf 1 = .ok (.iload_n 1, 1) := by decide +kernel
theorem dX7_numberOf_2 : decode cX7_numberOf 2 = .ok (.iconst 0, 1) := by decide +kernel
theorem dX7_numberOf_3 : decode cX7_numberOf 3 = .ok (.invokevirtual 48, 3) := by decide +kernel
theorem dX7_numberOf_6 : decode cX7_numberOf 6 = .ok (.ireturn, 1) := by decide +kernel
theorem dX7_formulaOf_0 : decode cX7_formulaOf 0 = .ok (.aload_n 0, 1) := by decide +kernel
theorem dX7_formulaOf_1 : decode cX7_formulaOf 1 = .ok (.iload_n 1, 1) := by decide +kernel
theorem dX7_formulaOf_2 : decode cX7_formulaOf 2 = .ok (.iconst 1, 1) := by decide +kernel
theorem dX7_formulaOf_3 : decode cX7_formulaOf 3 = .ok (.invokevirtual 48, 3) := by decide +kernel
theorem dX7_formulaOf_6 : decode cX7_formulaOf 6 = .ok (.ireturn, 1) := by decide +kernel
theorem dX7_numberBound_0 : decode cX7_numberBound 0 = .ok (.aload_n 0, 1) := by decide +kernel
theorem dX7_numberBound_1 : decode cX7_numberBound 1 = .ok (.iload_n 1, 1) := by decide +kernel
theorem dX7_numberBound_2 : decode cX7_numberBound 2 = .ok (.invokevirtual 44, 3) := by decide +kernel
theorem dX7_numberBound_5 : decode cX7_numberBound 5 = .ok (.ifCond .eq 12, 3) := by decide +kernel
theorem dX7_numberBound_8 : decode cX7_numberBound 8 = .ok (.aload_n 0, 1) := by decide +kernel
theorem dX7_numberBound_9 : decode cX7_numberBound 9 = .ok (.getfield 34, 3) := by decide +kernel
theorem dX7_numberBound_12 : decode cX7_numberBound 12 = .ok (.iload_n 1, 1) := by decide +kernel
theorem dX7_numberBound_13 : decode cX7_numberBound 13 = .ok (.iaload, 1) := by decide +kernel
theorem dX7_numberBound_14 : decode cX7_numberBound 14 = .ok (.goto 4, 3) := by decide +kernel
theorem dX7_numberBound_17 : decode cX7_numberBound 17 = .ok (.iconst (-1), 1) := by decide +kernel
theorem dX7_numberBound_18 : decode cX7_numberBound 18 = .ok (.istore_n 3, 1) := by decide +kernel
theorem dX7_numberBound_19 : decode cX7_numberBound 19 = .ok (.aload_n 0, 1) := by decide +kernel
theorem dX7_numberBound_20 : decode cX7_numberBound 20 = .ok (.iload_n 3, 1) := by decide +kernel
theorem dX7_numberBound_21 : decode cX7_numberBound 21 = .ok (.invokevirtual 44, 3) := by decide +kernel
theorem dX7_numberBound_24 : decode cX7_numberBound 24 = .ok (.ifCond .eq 10, 3) := by decide +kernel
theorem dX7_numberBound_27 : decode cX7_numberBound 27 = .ok (.aload_n 0, 1) := by decide +kernel
theorem dX7_numberBound_28 : decode cX7_numberBound 28 = .ok (.getfield 25, 3) := by decide +kernel
theorem dX7_numberBound_31 : decode cX7_numberBound 31 = .ok (.iload_n 3, 1) := by decide +kernel
theorem dX7_numberBound_32 : decode cX7_numberBound 32 = .ok (.iload_n 2, 1) := by decide +kernel
theorem dX7_numberBound_33 : decode cX7_numberBound 33 = .ok (.iastore, 1) := by decide +kernel
theorem dX7_numberBound_34 : decode cX7_numberBound 34 = .ok (.return_, 1) := by decide +kernel
