theorem dX3_init_0 : decode cX3_init 0 = .ok (.aload_n 0, 1) := by decide +kernel
theorem dX3_init_1 : decode cX3_init 1 = .ok (.invokespecial 3, 3) := by decide +kernel
theorem dX3_init_4 : decode cX3_init 4 = .ok (.aload_n 0, 1) := by decide +kernel
theorem dX3_init_5 : decode cX3_init 5 = .ok (.new 9, 3) := by decide +kernel
theorem dX3_init_8 : decode cX3_init 8 = .ok (.dup, 1) := by decide +kernel
theorem dX3_init_9 : decode cX3_init 9 = .ok (.sipush 3000, 3) := by decide +kernel
theorem dX3_init_12 : decode cX3_init 12 = .ok (.invokespecial 11, 3) := by decide +kernel
theorem dX3_init_15 : decode cX3_init 15 = .ok (.putfield 14, 3) := by decide +kernel
theorem dX3_init_18 : decode cX3_init 18 = .ok (.aload_n 0, 1) := by decide +kernel
theorem dX3_init_19 : decode cX3_init 19 = .ok (.iconst (-1), 1) := by decide +kernel
theorem dX3_init_20 : decode cX3_init 20 = .ok (.putfield 20, 3) := by decide +kernel
theorem dX3_init_23 : decode cX3_init 23 = .ok (.aload_n 0, 1) := by decide +kernel
theorem dX3_init_24 : decode cX3_init 24 = .ok (.aload_n 1, 1) := by decide +kernel
theorem dX3_init_25 : decode cX3_init 25 = .ok (.putfield 24, 3) := by decide +kernel
theorem dX3_init_28 : decode cX3_init 28 = .ok (.aload_n 0, 1) := by decide +kernel
theorem dX3_init_29 : decode cX3_init 29 = .ok (.aload_n 2, 1) := by decide +kernel
theorem dX3_init_30 : decode cX3_init 30 = .ok (.putfield 28, 3) := by decide +kernel
theorem dX3_init_33 : decode cX3_init 33 = .ok (.return_, 1) := by decide +kernel
theorem dX3_wholeFormula_0 : decode cX3_wholeFormula 0 = .ok (.aload_n 0, 1) := by decide +kernel
theorem dX3_wholeFormula_1 : decode cX3_wholeFormula 1 = .ok (.iconst 0, 1) := by decide +kernel
theorem dX3_wholeFormula_2 : decode cX3_wholeFormula 2 = .ok (.invokevirtual 32, 3) := by decide +kernel
theorem dX3_wholeFormula_5 : decode cX3_wholeFormula 5 = .ok (.aload_n 0, 1) := by decide +kernel
theorem dX3_wholeFormula_6 : decode cX3_wholeFormula 6 = .ok (.invokevirtual 36, 3) := by decide +kernel
theorem dX3_wholeFormula_9 : decode cX3_wholeFormula 9 = .ok (.istore_n 1, 1) := by decide +kernel
theorem dX3_wholeFormula_10 : decode cX3_wholeFormula 10 = .ok (.aload_n 0, 1) := by decide +kernel
theorem dX3_wholeFormula_11 : decode cX3_wholeFormula 11 = .ok (.iconst 0, 1) := by decide +kernel
theorem dX3_wholeFormula_12 : decode cX3_wholeFormula 12 = .ok (.invokevirtual 42, 3) := by decide +kernel
theorem dX3_wholeFormula_15 : decode cX3_wholeFormula 15 = .ok (.iload_n 1, 1) := by decide +kernel
theorem dX3_wholeFormula_16 : decode cX3_wholeFormula 16 = .ok (.ireturn, 1) := by decide +kernel
theorem dX3_wholeTerm_0 : decode cX3_wholeTerm 0 = .ok (.aload_n 0, 1) := by decide +kernel
theorem dX3_wholeTerm_1 : decode cX3_wholeTerm 1 = .ok (.iconst 1, 1) := by decide +kernel
theorem dX3_wholeTerm_2 : decode cX3_wholeTerm 2 = .ok (.invokevirtual 32, 3) := by decide +kernel
theorem dX3_wholeTerm_5 : decode cX3_wholeTerm 5 = .ok (.aload_n 0, 1) := by decide +kernel
theorem dX3_wholeTerm_6 : decode cX3_wholeTerm 6 = .ok (.getfield 14, 3) := by decide +kernel
theorem dX3_wholeTerm_9 : decode cX3_wholeTerm 9 = .ok (.invokevirtual 45, 3) := by decide +kernel
theorem dX3_wholeTerm_12 : decode cX3_wholeTerm 12 = .ok (.aload_n 0, 1) := by decide +kernel
theorem dX3_wholeTerm_13 : decode cX3_wholeTerm 13 = .ok (.iload_n 1, 1) := by decide +kernel
theorem dX3_wholeTerm_14 : decode cX3_wholeTerm 14 = .ok (.invokevirtual 48, 3) := by decide +kernel
theorem dX3_wholeTerm_17 : decode cX3_wholeTerm 17 = .ok (.istore_n 2, 1) := by decide +kernel
theorem dX3_wholeTerm_18 : decode cX3_wholeTerm 18 = .ok (.aload_n 0, 1) := by decide +kernel
theorem dX3_wholeTerm_19 : decode cX3_wholeTerm 19 = .ok (.iconst 0, 1) := by decide +kernel
theorem dX3_wholeTerm_20 : decode cX3_wholeTerm 20 = .ok (.invokevirtual 42, 3) := by decide +kernel
theorem dX3_wholeTerm_23 : decode cX3_wholeTerm 23 = .ok (.iload_n 2, 1) := by decide +kernel
theorem dX3_wholeTerm_24 : decode cX3_wholeTerm 24 = .ok (.ireturn, 1) := by decide +kernel
theorem dX3_begin_0 : decode cX3_begin 0 = .ok (.aload_n 0, 1) := by decide +kernel
theorem dX3_begin_1 : decode cX3_begin 1 = .ok (.getfield 24, 3) := by decide +kernel
theorem dX3_begin_4 : decode cX3_begin 4 = .ok (.iload_n 1, 1) := by decide +kernel
theorem dX3_begin_5 : decode cX3_begin 5 = .ok (.invokevirtual 52, 3) := by decide +kernel
theorem dX3_begin_8 : decode cX3_begin 8 = .ok (.aload_n 0, 1) := by decide +kernel
theorem dX3_begin_9 : decode cX3_begin 9 = .ok (.iconst 0, 1) := by decide +kernel
theorem dX3_begin_10 : decode cX3_begin 10 = .ok (.putfield 53, 3) := by decide +kernel
theorem dX3_begin_13 : decode cX3_begin 13 = .ok (.aload_n 0, 1) := by decide +kernel
theorem dX3_begin_14 : decode cX3_begin 14 = .ok (.iconst 0, 1) := by decide +kernel
theorem dX3_begin_15 : decode cX3_begin 15 = .ok (.putfield 56, 3) := by decide +kernel
theorem dX3_begin_18 : decode cX3_begin 18 = .ok (.aload_n 0, 1) := by decide +kernel
theorem dX3_begin_19 : decode cX3_begin 19 = .ok (.iconst (-1), 1) := by decide +kernel
theorem dX3_begin_20 : decode cX3_begin 20 = .ok (.putfield 20, 3) := by decide +kernel
theorem dX3_begin_23 : decode cX3_begin 23 = .ok (.return_, 1) := by decide +kernel
theorem dX3_fail_0 : decode cX3_fail 0 = .ok (.aload_n 0, 1) := by decide +kernel
theorem dX3_fail_1 : decode cX3_fail 1 = .ok (.getfield 56, 3) := by decide +kernel
theorem dX3_fail_4 : decode cX3_fail 4 = .ok (.ifCond .ne 13, 3) := by decide +kernel
theorem dX3_fail_7 : decode cX3_fail 7 = .ok (.aload_n 0, 1) := by decide +kernel
theorem dX3_fail_8 : decode cX3_fail 8 = .ok (.iload_n 1, 1) := by decide +kernel
theorem dX3_fail_9 : decode cX3_fail 9 = .ok (.putfield 56, 3) := by decide +kernel
theorem dX3_fail_12 : decode cX3_fail 12 = .ok (.aload_n 0, 1) := by decide +kernel
theorem dX3_fail_13 : decode cX3_fail 13 = .ok (.iload_n 2, 1) := by decide +kernel
theorem dX3_fail_14 : decode cX3_fail 14 = .ok (.putfield 20, 3) := by decide +kernel
theorem dX3_fail_17 : decode cX3_fail 17 = .ok (.iconst (-1), 1) := by decide +kernel
theorem dX3_fail_18 : decode cX3_fail 18 = .ok (.ireturn, 1) := by decide +kernel
theorem dX3_look_0 : decode cX3_look 0 = .ok (.aload_n 0, 1) := by decide +kernel
theorem dX3_look_1 : decode cX3_look 1 = .ok (.getfield 56, 3) := by decide +kernel
theorem dX3_look_4 : decode cX3_look 4 = .ok (.ifCond .eq 5, 3) := by decide +kernel
theorem dX3_look_7 : decode cX3_look 7 = .ok (.iconst (-1), 1) := by decide +kernel
theorem dX3_look_8 : decode cX3_look 8 = .ok (.ireturn, 1) := by decide +kernel
theorem dX3_look_9 : decode cX3_look 9 = .ok (.aload_n 0, 1) := by decide +kernel
theorem dX3_look_10 : decode cX3_look 10 = .ok (.getfield 24, 3) := by decide +kernel
theorem dX3_look_13 : decode cX3_look 13 = .ok (.invokevirtual 59, 3) := by decide +kernel
theorem dX3_look_16 : decode cX3_look 16 = .ok (.istore_n 1, 1) := by decide +kernel
theorem dX3_look_17 : decode cX3_look 17 = .ok (.iload_n 1, 1) := by decide +kernel
theorem dX3_look_18 : decode cX3_look 18 = .ok (.iconst (-1), 1) := by decide +kernel
theorem dX3_look_19 : decode cX3_look 19 = .ok (.if_icmp .ne 16, 3) := by decide +kernel
theorem dX3_look_22 : decode cX3_look 22 = .ok (.aload_n 0, 1) := by decide +kernel
theorem dX3_look_23 : decode cX3_look 23 = .ok (.iconst 1, 1) := by decide +kernel
theorem dX3_look_24 : decode cX3_look 24 = .ok (.aload_n 0, 1) := by decide +kernel
theorem dX3_look_25 : decode cX3_look 25 = .ok (.getfield 24, 3) := by decide +kernel
theorem dX3_look_28 : decode cX3_look 28 = .ok (.invokevirtual 62, 3) := by decide +kernel
theorem dX3_look_31 : decode cX3_look 31 = .ok (.invokevirtual 65, 3) := by decide +kernel
theorem dX3_look_34 : decode cX3_look 34 = .ok (.pop, 1) := by decide +kernel
theorem dX3_look_35 : decode cX3_look 35 = .ok (.iload_n 1, 1) := by decide +kernel
theorem dX3_look_36 : decode cX3_look 36 = .ok (.ireturn, 1) := by decide +kernel
theorem dX3_expect_0 : decode cX3_expect 0 = .ok (.aload_n 0, 1) := by decide +kernel
theorem dX3_expect_1 : decode cX3_expect 1 = .ok (.invokevirtual 69, 3) := by decide +kernel
theorem dX3_expect_4 : decode cX3_expect 4 = .ok (.iload_n 1, 1) := by decide +kernel
theorem dX3_expect_5 : decode cX3_expect 5 = .ok (.if_icmp .ne 13, 3) := by decide +kernel
theorem dX3_expect_8 : decode cX3_expect 8 = .ok (.aload_n 0, 1) := by decide +kernel
theorem dX3_expect_9 : decode cX3_expect 9 = .ok (.getfield 24, 3) := by decide +kernel
theorem dX3_expect_12 : decode cX3_expect 12 = .ok (.invokevirtual 70, 3) := by decide +kernel
theorem dX3_expect_15 : decode cX3_expect 15 = .ok (.goto 16, 3) := by decide +kernel
theorem dX3_expect_18 : decode cX3_expect 18 = .ok (.aload_n 0, 1) := by decide +kernel
theorem dX3_expect_19 : decode cX3_expect 19 = .ok (.iconst 2, 1) := by decide +kernel
theorem dX3_expect_20 : decode cX3_expect 20 = .ok (.aload_n 0, 1) := by decide +kernel
theorem dX3_expect_21 : decode cX3_expect 21 = .ok (.getfield 24, 3) := by decide +kernel
theorem dX3_expect_24 : decode cX3_expect 24 = .ok (.invokevirtual 62, 3) := by decide +kernel
theorem dX3_expect_27 : decode cX3_expect 27 = .ok (.invokevirtual 65, 3) := by decide +kernel
theorem dX3_expect_30 : decode cX3_expect 30 = .ok (.pop, 1) := by decide +kernel
theorem dX3_expect_31 : decode cX3_expect 31 = .ok (.return_, 1) := by decide +kernel
theorem dX3_opens_0 : decode cX3_opens 0 = .ok (.aload_n 0, 1) := by decide +kernel
theorem dX3_opens_1 : decode cX3_opens 1 = .ok (.getfield 53, 3) := by decide +kernel
theorem dX3_opens_4 : decode cX3_opens 4 = .ok (.bipush 40, 2) := by decide +kernel
theorem dX3_opens_6 : decode cX3_opens 6 = .ok (.if_icmp .lt 18, 3) := by decide +kernel
theorem dX3_opens_9 : decode cX3_opens 9 = .ok (.aload_n 0, 1) := by decide +kernel
theorem dX3_opens_10 : decode cX3_opens 10 = .ok (.iconst 3, 1) := by decide +kernel
theorem dX3_opens_11 : decode cX3_opens 11 = .ok (.aload_n 0, 1) := by decide +kernel
theorem dX3_opens_12 : decode cX3_opens 12 = .ok (.getfield 24, 3) := by decide +kernel
theorem dX3_opens_15 : decode cX3_opens 15 = .ok (.invokevirtual 62, 3) := by decide +kernel
theorem dX3_opens_18 : decode cX3_opens 18 = .ok (.invokevirtual 65, 3) := by decide +kernel
theorem dX3_opens_21 : decode cX3_opens 21 = .ok (.pop, 1) := by decide +kernel
theorem dX3_opens_22 : decode cX3_opens 22 = .ok (.iconst 0, 1) := by decide +kernel
theorem dX3_opens_23 : decode cX3_opens 23 = .ok (.ireturn, 1) := by decide +kernel
theorem dX3_opens_24 : decode cX3_opens 24 = .ok (.aload_n 0, 1) := by decide +kernel
theorem dX3_opens_25 : decode cX3_opens 25 = .ok (.dup, 1) := by decide +kernel
theorem dX3_opens_26 : decode cX3_opens 26 = .ok (.getfield 53, 3) := by decide +kernel
theorem dX3_opens_29 : decode cX3_opens 29 = .ok (.iconst 1, 1) := by decide +kernel
theorem dX3_opens_30 : decode cX3_opens 30 = .ok (.iadd, 1) := by decide +kernel
theorem dX3_opens_31 : decode cX3_opens 31 = .ok (.putfield 53, 3) := by decide +kernel
theorem dX3_opens_34 : decode cX3_opens 34 = .ok (.aload_n 0, 1) := by decide +kernel
theorem dX3_opens_35 : decode cX3_opens 35 = .ok (.getfield 24, 3) := by decide +kernel
theorem dX3_opens_38 : decode cX3_opens 38 = .ok (.invokevirtual 70, 3) := by decide +kernel
theorem dX3_opens_41 : decode cX3_opens 41 = .ok (.iconst 1, 1) := by decide +kernel
theorem dX3_opens_42 : decode cX3_opens 42 = .ok (.ireturn, 1) := by decide +kernel
theorem dX3_join_0 : decode cX3_join 0 = .ok (.aload_n 0, 1) := by decide +kernel
theorem dX3_join_1 : decode cX3_join 1 = .ok (.getfield 56, 3) := by decide +kernel
theorem dX3_join_4 : decode cX3_join 4 = .ok (.ifCond .eq 5, 3) := by decide +kernel
theorem dX3_join_7 : decode cX3_join 7 = .ok (.iconst (-1), 1) := by decide +kernel
theorem dX3_join_8 : decode cX3_join 8 = .ok (.ireturn, 1) := by decide +kernel
theorem dX3_join_9 : decode cX3_join 9 = .ok (.aload_n 0, 1) := by decide +kernel
theorem dX3_join_10 : decode cX3_join 10 = .ok (.getfield 28, 3) := by decide +kernel
theorem dX3_join_13 : decode cX3_join 13 = .ok (.iload_n 1, 1) := by decide +kernel
theorem dX3_join_14 : decode cX3_join 14 = .ok (.iload_n 2, 1) := by decide +kernel
theorem dX3_join_15 : decode cX3_join 15 = .ok (.iload_n 3, 1) := by decide +kernel
theorem dX3_join_16 : decode cX3_join 16 = .ok (.invokevirtual 73, 3) := by decide +kernel
theorem dX3_join_19 : decode cX3_join 19 = .ok (.istore 5, 2) := by decide +kernel
theorem dX3_join_21 : decode cX3_join 21 = .ok (.iload 5, 2) := by decide +kernel
theorem dX3_join_23 : decode cX3_join 23 = .ok (.ifCond .lt 8, 3) := by decide +kernel
theorem dX3_join_26 : decode cX3_join 26 = .ok (.iload 5, 2) := by decide +kernel
theorem dX3_join_28 : decode cX3_join 28 = .ok (.goto 10, 3) := by decide +kernel
theorem dX3_join_31 : decode cX3_join 31 = .ok (.aload_n 0, 1) := by decide +kernel
theorem dX3_join_32 : decode cX3_join 32 = .ok (.iconst 5, 1) := by decide +kernel
theorem dX3_join_33 : decode cX3_join 33 = .ok (.iload 4, 2) := by decide +kernel
theorem dX3_join_35 : decode cX3_join 35 = .ok (.invokevirtual 65, 3) := by decide +kernel
theorem dX3_join_38 : decode cX3_join 38 = .ok (.ireturn, 1) := by decide +kernel
theorem dX3_readBothWays_0 : decode cX3_readBothWays 0 = .ok (.aload_n 0, 1) := by decide +kernel
theorem dX3_readBothWays_1 : decode cX3_readBothWays 1 = .ok (.invokevirtual 79, 3) := by decide +kernel
theorem dX3_readBothWays_4 : decode cX3_readBothWays 4 = .ok (.istore_n 1, 1) := by decide +kernel
theorem dX3_readBothWays_5 : decode cX3_readBothWays 5 = .ok (.aload_n 0, 1) := by decide +kernel
theorem dX3_readBothWays_6 : decode cX3_readBothWays 6 = .ok (.invokevirtual 69, 3) := by decide +kernel
theorem dX3_readBothWays_9 : decode cX3_readBothWays 9 = .ok (.bipush 61, 2) := by decide +kernel
theorem dX3_readBothWays_11 : decode cX3_readBothWays 11 = .ok (.if_icmp .eq 5, 3) := by decide +kernel
theorem dX3_readBothWays_14 : decode cX3_readBothWays 14 = .ok (.iload_n 1, 1) := by decide +kernel
theorem dX3_readBothWays_15 : decode cX3_readBothWays 15 = .ok (.ireturn, 1) := by decide +kernel
theorem dX3_readBothWays_16 : decode cX3_readBothWays 16 = .ok (.aload_n 0, 1) := by decide +kernel
theorem dX3_readBothWays_17 : decode cX3_readBothWays 17 = .ok (.getfield 24, 3) := by decide +kernel
theorem dX3_readBothWays_20 : decode cX3_readBothWays 20 = .ok (.invokevirtual 62, 3) := by decide +kernel
theorem dX3_readBothWays_23 : decode cX3_readBothWays 23 = .ok (.istore_n 2, 1) := by decide +kernel
theorem dX3_readBothWays_24 : decode cX3_readBothWays 24 = .ok (.aload_n 0, 1) := by decide +kernel
theorem dX3_readBothWays_25 : decode cX3_readBothWays 25 = .ok (.invokevirtual 82, 3) := by decide +kernel
theorem dX3_readBothWays_28 : decode cX3_readBothWays 28 = .ok (.ifCond .ne 5, 3) := by decide +kernel
theorem dX3_readBothWays_31 : decode cX3_readBothWays 31 = .ok (.iconst (-1), 1) := by decide +kernel
theorem dX3_readBothWays_32 : decode cX3_readBothWays 32 = .ok (.ireturn, 1) := by decide +kernel
theorem dX3_readBothWays_33 : decode cX3_readBothWays 33 = .ok (.aload_n 0, 1) := by decide +kernel
theorem dX3_readBothWays_34 : decode cX3_readBothWays 34 = .ok (.invokevirtual 79, 3) := by decide +kernel
theorem dX3_readBothWays_37 : decode cX3_readBothWays 37 = .ok (.istore_n 3, 1) := by decide +kernel
theorem dX3_readBothWays_38 : decode cX3_readBothWays 38 = .ok (.aload_n 0, 1) := by decide +kernel
theorem dX3_readBothWays_39 : decode cX3_readBothWays 39 = .ok (.dup, 1) := by decide +kernel
theorem dX3_readBothWays_40 : decode cX3_readBothWays 40 = .ok (.getfield 53, 3) := by decide +kernel
theorem dX3_readBothWays_43 : decode cX3_readBothWays 43 = .ok (.iconst 1, 1) := by decide +kernel
theorem dX3_readBothWays_44 : decode cX3_readBothWays 44 = .ok (.isub, 1) := by decide +kernel
theorem dX3_readBothWays_45 : decode cX3_readBothWays 45 = .ok (.putfield 53, 3) := by decide +kernel
theorem dX3_readBothWays_48 : decode cX3_readBothWays 48 = .ok (.aload_n 0, 1) := by decide +kernel
theorem dX3_readBothWays_49 : decode cX3_readBothWays 49 = .ok (.iconst 5, 1) := by decide +kernel
theorem dX3_readBothWays_50 : decode cX3_readBothWays 50 = .ok (.iload_n 1, 1) := by decide +kernel
theorem dX3_readBothWays_51 : decode cX3_readBothWays 51 = .ok (.iload_n 3, 1) := by decide +kernel
theorem dX3_readBothWays_52 : decode cX3_readBothWays 52 = .ok (.iload_n 2, 1) := by decide +kernel
theorem dX3_readBothWays_53 : decode cX3_readBothWays 53 = .ok (.invokevirtual 86, 3) := by decide +kernel
theorem dX3_readBothWays_56 : decode cX3_readBothWays 56 = .ok (.istore 4, 2) := by decide +kernel
theorem dX3_readBothWays_58 : decode cX3_readBothWays 58 = .ok (.aload_n 0, 1) := by decide +kernel
theorem dX3_readBothWays_59 : decode cX3_readBothWays 59 = .ok (.iconst 5, 1) := by decide +kernel
theorem dX3_readBothWays_60 : decode cX3_readBothWays 60 = .ok (.iload_n 3, 1) := by decide +kernel
theorem dX3_readBothWays_61 : decode cX3_readBothWays 61 = .ok (.iload_n 1, 1) := by decide +kernel
theorem dX3_readBothWays_62 : decode cX3_readBothWays 62 = .ok (.iload_n 2, 1) := by decide +kernel
theorem dX3_readBothWays_63 : decode cX3_readBothWays 63 = .ok (.invokevirtual 86, 3) := by decide +kernel
theorem dX3_readBothWays_66 : decode cX3_readBothWays 66 = .ok (.istore 5, 2) := by decide +kernel
theorem dX3_readBothWays_68 : decode cX3_readBothWays 68 = .ok (.aload_n 0, 1) := by decide +kernel
theorem dX3_readBothWays_69 : decode cX3_readBothWays 69 = .ok (.iconst 3, 1) := by decide +kernel
theorem dX3_readBothWays_70 : decode cX3_readBothWays 70 = .ok (.iload 4, 2) := by decide +kernel
theorem dX3_readBothWays_72 : decode cX3_readBothWays 72 = .ok (.iload 5, 2) := by decide +kernel
theorem dX3_readBothWays_74 : decode cX3_readBothWays 74 = .ok (.iload_n 2, 1) := by decide +kernel
theorem dX3_readBothWays_75 : decode cX3_readBothWays 75 = .ok (.invokevirtual 86, 3) := by decide +kernel
theorem dX3_readBothWays_78 : decode cX3_readBothWays 78 = .ok (.ireturn, 1) := by decide +kernel
theorem dX3_readImplication_0 : decode cX3_readImplication 0 = .ok (.aload_n 0, 1) := by decide +kernel
theorem dX3_readImplication_1 : decode cX3_readImplication 1 = .ok (.invokevirtual 90, 3) := by decide +kernel
theorem dX3_readImplication_4 : decode cX3_readImplication 4 = .ok (.istore_n 1, 1) := by decide +kernel
theorem dX3_readImplication_5 : decode cX3_readImplication 5 = .ok (.aload_n 0, 1) := by decide +kernel
theorem dX3_readImplication_6 : decode cX3_readImplication 6 = .ok (.invokevirtual 69, 3) := by decide +kernel
theorem dX3_readImplication_9 : decode cX3_readImplication 9 = .ok (.bipush 62, 2) := by decide +kernel
theorem dX3_readImplication_11 : decode cX3_readImplication 11 = .ok (.if_icmp .eq 5, 3) := by decide +kernel
theorem dX3_readImplication_14 : decode cX3_readImplication 14 = .ok (.iload_n 1, 1) := by decide +kernel
theorem dX3_readImplication_15 : decode cX3_readImplication 15 = .ok (.ireturn, 1) := by decide +kernel
theorem dX3_readImplication_16 : decode cX3_readImplication 16 = .ok (.aload_n 0, 1) := by decide +kernel
theorem dX3_readImplication_17 : decode cX3_readImplication 17 = .ok (.getfield 24, 3) := by decide +kernel
theorem dX3_readImplication_20 : decode cX3_readImplication 20 = .ok (.invokevirtual 62, 3) := by decide +kernel
theorem dX3_readImplication_23 : decode cX3_readImplication 23 = .ok (.istore_n 2, 1) := by decide +kernel
theorem dX3_readImplication_24 : decode cX3_readImplication 24 = .ok (.aload_n 0, 1) := by decide +kernel
theorem dX3_readImplication_25 : decode cX3_readImplication 25 = .ok (.invokevirtual 82, 3) := by decide +kernel
theorem dX3_readImplication_28 : decode cX3_readImplication 28 = .ok (.ifCond .ne 5, 3) := by decide +kernel
theorem dX3_readImplication_31 : decode cX3_readImplication 31 = .ok (.iconst (-1), 1) := by decide +kernel
theorem dX3_readImplication_32 : decode cX3_readImplication 32 = .ok (.ireturn, 1) := by decide +kernel
theorem dX3_readImplication_33 : decode cX3_readImplication 33 = .ok (.aload_n 0, 1) := by decide +kernel
theorem dX3_readImplication_34 : decode cX3_readImplication 34 = .ok (.invokevirtual 79, 3) := by decide +kernel
theorem dX3_readImplication_37 : decode cX3_readImplication 37 = .ok (.istore_n 3, 1) := by decide +kernel
theorem dX3_readImplication_38 : decode cX3_readImplication 38 = .ok (.aload_n 0, 1) := by decide +kernel
theorem dX3_readImplication_39 : decode cX3_readImplication 39 = .ok (.dup, 1) := by decide +kernel
theorem dX3_readImplication_40 : decode cX3_readImplication 40 = .ok (.getfield 53, 3) := by decide +kernel
theorem dX3_readImplication_43 : decode cX3_readImplication 43 = .ok (.iconst 1, 1) := by decide +kernel
theorem dX3_readImplication_44 : decode cX3_readImplication 44 = .ok (.isub, 1) := by decide +kernel
theorem dX3_readImplication_45 : decode cX3_readImplication 45 = .ok (.putfield 53, 3) := by decide +kernel
theorem dX3_readImplication_48 : decode cX3_readImplication 48 = .ok (.aload_n 0, 1) := by decide +kernel
theorem dX3_readImplication_49 : decode cX3_readImplication 49 = .ok (.iconst 5, 1) := by decide +kernel
theorem dX3_readImplication_50 : decode cX3_readImplication 50 = .ok (.iload_n 1, 1) := by decide +kernel
theorem dX3_readImplication_51 : decode cX3_readImplication 51 = .ok (.iload_n 3, 1) := by decide +kernel
theorem dX3_readImplication_52 : decode cX3_readImplication 52 = .ok (.iload_n 2, 1) := by decide +kernel
theorem dX3_readImplication_53 : decode cX3_readImplication 53 = .ok (.invokevirtual 86, 3) := by decide +kernel
theorem dX3_readImplication_56 : decode cX3_readImplication 56 = .ok (.ireturn, 1) := by decide +kernel
theorem dX3_readOr_0 : decode cX3_readOr 0 = .ok (.aload_n 0, 1) := by decide +kernel
theorem dX3_readOr_1 : decode cX3_readOr 1 = .ok (.invokevirtual 93, 3) := by decide +kernel
theorem dX3_readOr_4 : decode cX3_readOr 4 = .ok (.istore_n 1, 1) := by decide +kernel
theorem dX3_readOr_5 : decode cX3_readOr 5 = .ok (.iconst 0, 1) := by decide +kernel
theorem dX3_readOr_6 : decode cX3_readOr 6 = .ok (.istore_n 2, 1) := by decide +kernel
theorem dX3_readOr_7 : decode cX3_readOr 7 = .ok (.iload_n 2, 1) := by decide +kernel
theorem dX3_readOr_8 : decode cX3_readOr 8 = .ok (.sipush 3000, 3) := by decide +kernel
theorem dX3_readOr_11 : decode cX3_readOr 11 = .ok (.if_icmp .ge 45, 3) := by decide +kernel
theorem dX3_readOr_14 : decode cX3_readOr 14 = .ok (.aload_n 0, 1) := by decide +kernel
theorem dX3_readOr_15 : decode cX3_readOr 15 = .ok (.invokevirtual 69, 3) := by decide +kernel
theorem dX3_readOr_18 : decode cX3_readOr 18 = .ok (.bipush 124, 2) := by decide +kernel
theorem dX3_readOr_20 : decode cX3_readOr 20 = .ok (.if_icmp .ne 36, 3) := by decide +kernel
theorem dX3_readOr_23 : decode cX3_readOr 23 = .ok (.aload_n 0, 1) := by decide +kernel
theorem dX3_readOr_24 : decode cX3_readOr 24 = .ok (.getfield 24, 3) := by decide +kernel
theorem dX3_readOr_27 : decode cX3_readOr 27 = .ok (.invokevirtual 62, 3) := by decide +kernel
theorem dX3_readOr_30 : decode cX3_readOr 30 = .ok (.istore_n 3, 1) := by decide +kernel
theorem dX3_readOr_31 : decode cX3_readOr 31 = .ok (.aload_n 0, 1) := by decide +kernel
theorem dX3_readOr_32 : decode cX3_readOr 32 = .ok (.getfield 24, 3) := by decide +kernel
theorem dX3_readOr_35 : decode cX3_readOr 35 = .ok (.invokevirtual 70, 3) := by decide +kernel
theorem dX3_readOr_38 : decode cX3_readOr 38 = .ok (.aload_n 0, 1) := by decide +kernel
theorem dX3_readOr_39 : decode cX3_readOr 39 = .ok (.iconst 4, 1) := by decide +kernel
theorem dX3_readOr_40 : decode cX3_readOr 40 = .ok (.iload_n 1, 1) := by decide +kernel
theorem dX3_readOr_41 : decode cX3_readOr 41 = .ok (.aload_n 0, 1) := by decide +kernel
theorem dX3_readOr_42 : decode cX3_readOr 42 = .ok (.invokevirtual 93, 3) := by decide +kernel
theorem dX3_readOr_45 : decode cX3_readOr 45 = .ok (.iload_n 3, 1) := by decide +kernel
theorem dX3_readOr_46 : decode cX3_readOr 46 = .ok (.invokevirtual 86, 3) := by decide +kernel
theorem dX3_readOr_49 : decode cX3_readOr 49 = .ok (.istore_n 1, 1) := by decide +kernel
theorem dX3_readOr_50 : decode cX3_readOr 50 = .ok (.iinc 2 1, 3) := by decide +kernel
theorem dX3_readOr_53 : decode cX3_readOr 53 = .ok (.goto (-46), 3) := by decide +kernel
theorem dX3_readOr_56 : decode cX3_readOr 56 = .ok (.iload_n 1, 1) := by decide +kernel
theorem dX3_readOr_57 : decode cX3_readOr 57 = .ok (.ireturn, 1) := by decide +kernel
theorem dX3_readAnd_0 : decode cX3_readAnd 0 = .ok (.aload_n 0, 1) := by decide +kernel
theorem dX3_readAnd_1 : decode cX3_readAnd 1 = .ok (.invokevirtual 96, 3) := by decide +kernel
theorem dX3_readAnd_4 : decode cX3_readAnd 4 = .ok (.istore_n 1, 1) := by decide +kernel
theorem dX3_readAnd_5 : decode cX3_readAnd 5 = .ok (.iconst 0, 1) := by decide +kernel
theorem dX3_readAnd_6 : decode cX3_readAnd 6 = .ok (.istore_n 2, 1) := by decide +kernel
theorem dX3_readAnd_7 : decode cX3_readAnd 7 = .ok (.iload_n 2, 1) := by decide +kernel
theorem dX3_readAnd_8 : decode cX3_readAnd 8 = .ok (.sipush 3000, 3) := by decide +kernel
theorem dX3_readAnd_11 : decode cX3_readAnd 11 = .ok (.if_icmp .ge 45, 3) := by decide +kernel
theorem dX3_readAnd_14 : decode cX3_readAnd 14 = .ok (.aload_n 0, 1) := by decide +kernel
theorem dX3_readAnd_15 : decode cX3_readAnd 15 = .ok (.invokevirtual 69, 3) := by decide +kernel
theorem dX3_readAnd_18 : decode cX3_readAnd 18 = .ok (.bipush 38, 2) := by decide +kernel
theorem dX3_readAnd_20 : decode cX3_readAnd 20 = .ok (.if_icmp .ne 36, 3) := by decide +kernel
theorem dX3_readAnd_23 : decode cX3_readAnd 23 = .ok (.aload_n 0, 1) := by decide +kernel
theorem dX3_readAnd_24 : decode cX3_readAnd 24 = .ok (.getfield 24, 3) := by decide +kernel
theorem dX3_readAnd_27 : decode cX3_readAnd 27 = .ok (.invokevirtual 62, 3) := by decide +kernel
theorem dX3_readAnd_30 : decode cX3_readAnd 30 = .ok (.istore_n 3, 1) := by decide +kernel
theorem dX3_readAnd_31 : decode cX3_readAnd 31 = .ok (.aload_n 0, 1) := by decide +kernel
theorem dX3_readAnd_32 : decode cX3_readAnd 32 = .ok (.getfield 24, 3) := by decide +kernel
theorem dX3_readAnd_35 : decode cX3_readAnd 35 = .ok (.invokevirtual 70, 3) := by decide +kernel
theorem dX3_readAnd_38 : decode cX3_readAnd 38 = .ok (.aload_n 0, 1) := by decide +kernel
theorem dX3_readAnd_39 : decode cX3_readAnd 39 = .ok (.iconst 3, 1) := by decide +kernel
theorem dX3_readAnd_40 : decode cX3_readAnd 40 = .ok (.iload_n 1, 1) := by decide +kernel
theorem dX3_readAnd_41 : decode cX3_readAnd 41 = .ok (.aload_n 0, 1) := by decide +kernel
theorem dX3_readAnd_42 : decode cX3_readAnd 42 = .ok (.invokevirtual 96, 3) := by decide +kernel
theorem dX3_readAnd_45 : decode cX3_readAnd 45 = .ok (.iload_n 3, 1) := by decide +kernel
theorem dX3_readAnd_46 : decode cX3_readAnd 46 = .ok (.invokevirtual 86, 3) := by decide +kernel
theorem dX3_readAnd_49 : decode cX3_readAnd 49 = .ok (.istore_n 1, 1) := by decide +kernel
theorem dX3_readAnd_50 : decode cX3_readAnd 50 = .ok (.iinc 2 1, 3) := by decide +kernel
theorem dX3_readAnd_53 : decode cX3_readAnd 53 = .ok (.goto (-46), 3) := by decide +kernel
theorem dX3_readAnd_56 : decode cX3_readAnd 56 = .ok (.iload_n 1, 1) := by decide +kernel
theorem dX3_readAnd_57 : decode cX3_readAnd 57 = .ok (.ireturn, 1) := by decide +kernel
theorem dX3_readNot_0 : decode cX3_readNot 0 = .ok (.aload_n 0, 1) := by decide +kernel
theorem dX3_readNot_1 : decode cX3_readNot 1 = .ok (.invokevirtual 69, 3) := by decide +kernel
theorem dX3_readNot_4 : decode cX3_readNot 4 = .ok (.istore_n 1, 1) := by decide +kernel
theorem dX3_readNot_5 : decode cX3_readNot 5 = .ok (.iload_n 1, 1) := by decide +kernel
theorem dX3_readNot_6 : decode cX3_readNot 6 = .ok (.bipush 126, 2) := by decide +kernel
theorem dX3_readNot_8 : decode cX3_readNot 8 = .ok (.if_icmp .eq 15, 3) := by decide +kernel
theorem dX3_readNot_11 : decode cX3_readNot 11 = .ok (.iload_n 1, 1) := by decide +kernel
theorem dX3_readNot_12 : decode cX3_readNot 12 = .ok (.bipush 40, 2) := by decide +kernel
theorem dX3_readNot_14 : decode cX3_readNot 14 = .ok (.if_icmp .eq 9, 3) := by decide +kernel
theorem dX3_readNot_17 : decode cX3_readNot 17 = .ok (.aload_n 0, 1) := by decide +kernel
theorem dX3_readNot_18 : decode cX3_readNot 18 = .ok (.iload_n 1, 1) := by decide +kernel
theorem dX3_readNot_19 : decode cX3_readNot 19 = .ok (.invokevirtual 99, 3) := by decide +kernel
theorem dX3_readNot_22 : decode cX3_readNot 22 = .ok (.ireturn, 1) := by decide +kernel
theorem dX3_readNot_23 : decode cX3_readNot 23 = .ok (.aload_n 0, 1) := by decide +kernel
theorem dX3_readNot_24 : decode cX3_readNot 24 = .ok (.getfield 24, 3) := by decide +kernel
theorem dX3_readNot_27 : decode cX3_readNot 27 = .ok (.invokevirtual 62, 3) := by decide +kernel
theorem dX3_readNot_30 : decode cX3_readNot 30 = .ok (.istore_n 2, 1) := by decide +kernel
theorem dX3_readNot_31 : decode cX3_readNot 31 = .ok (.aload_n 0, 1) := by decide +kernel
theorem dX3_readNot_32 : decode cX3_readNot 32 = .ok (.invokevirtual 82, 3) := by decide +kernel
theorem dX3_readNot_35 : decode cX3_readNot 35 = .ok (.ifCond .ne 5, 3) := by decide +kernel
theorem dX3_readNot_38 : decode cX3_readNot 38 = .ok (.iconst (-1), 1) := by decide +kernel
theorem dX3_readNot_39 : decode cX3_readNot 39 = .ok (.ireturn, 1) := by decide +kernel
theorem dX3_readNot_40 : decode cX3_readNot 40 = .ok (.iload_n 1, 1) := by decide +kernel
theorem dX3_readNot_41 : decode cX3_readNot 41 = .ok (.bipush 126, 2) := by decide +kernel
theorem dX3_readNot_43 : decode cX3_readNot 43 = .ok (.if_icmp .ne 18, 3) := by decide +kernel
theorem dX3_readNot_46 : decode cX3_readNot 46 = .ok (.aload_n 0, 1) := by decide +kernel
theorem dX3_readNot_47 : decode cX3_readNot 47 = .ok (.iconst 5, 1) := by decide +kernel
theorem dX3_readNot_48 : decode cX3_readNot 48 = .ok (.aload_n 0, 1) := by decide +kernel
theorem dX3_readNot_49 : decode cX3_readNot 49 = .ok (.invokevirtual 96, 3) := by decide +kernel
theorem dX3_readNot_52 : decode cX3_readNot 52 = .ok (.iconst 0, 1) := by decide +kernel
theorem dX3_readNot_53 : decode cX3_readNot 53 = .ok (.iload_n 2, 1) := by decide +kernel
theorem dX3_readNot_54 : decode cX3_readNot 54 = .ok (.invokevirtual 86, 3) := by decide +kernel
theorem dX3_readNot_57 : decode cX3_readNot 57 = .ok (.istore_n 3, 1) := by decide +kernel
theorem dX3_readNot_58 : decode cX3_readNot 58 = .ok (.goto 14, 3) := by decide +kernel
theorem dX3_readNot_61 : decode cX3_readNot 61 = .ok (.aload_n 0, 1) := by decide +kernel
theorem dX3_readNot_62 : decode cX3_readNot 62 = .ok (.invokevirtual 36, 3) := by decide +kernel
theorem dX3_readNot_65 : decode cX3_readNot 65 = .ok (.istore_n 3, 1) := by decide +kernel
theorem dX3_readNot_66 : decode cX3_readNot 66 = .ok (.aload_n 0, 1) := by decide +kernel
theorem dX3_readNot_67 : decode cX3_readNot 67 = .ok (.bipush 41, 2) := by decide +kernel
theorem dX3_readNot_69 : decode cX3_readNot 69 = .ok (.invokevirtual 42, 3) := by decide +kernel
theorem dX3_readNot_72 : decode cX3_readNot 72 = .ok (.aload_n 0, 1) := by decide +kernel
theorem dX3_readNot_73 : decode cX3_readNot 73 = .ok (.dup, 1) := by decide +kernel
theorem dX3_readNot_74 : decode cX3_readNot 74 = .ok (.getfield 53, 3) := by decide +kernel
theorem dX3_readNot_77 : decode cX3_readNot 77 = .ok (.iconst 1, 1) := by decide +kernel
theorem dX3_readNot_78 : decode cX3_readNot 78 = .ok (.isub, 1) := by decide +kernel
theorem dX3_readNot_79 : decode cX3_readNot 79 = .ok (.putfield 53, 3) := by decide +kernel
theorem dX3_readNot_82 : decode cX3_readNot 82 = .ok (.iload_n 3, 1) := by decide +kernel
theorem dX3_readNot_83 : decode cX3_readNot 83 = .ok (.ireturn, 1) := by decide +kernel
theorem dX3_readLeaf_0 : decode cX3_readLeaf 0 = .ok (.iload_n 1, 1) := by decide +kernel
theorem dX3_readLeaf_1 : decode cX3_readLeaf 1 = .ok (.lookupswitch 58 #[(102, 49), (110, 35), (116, 40)], 35) := by decide +kernel
theorem dX3_readLeaf_36 : decode cX3_readLeaf 36 = .ok (.aload_n 0, 1) := by decide +kernel
theorem dX3_readLeaf_37 : decode cX3_readLeaf 37 = .ok (.invokevirtual 102, 3) := by decide +kernel
theorem dX3_readLeaf_40 : decode cX3_readLeaf 40 = .ok (.ireturn, 1) := by decide +kernel
theorem dX3_readLeaf_41 : decode cX3_readLeaf 41 = .ok (.aload_n 0, 1) := by decide +kernel
theorem dX3_readLeaf_42 : decode cX3_readLeaf 42 = .ok (.getfield 24, 3) := by decide +kernel
theorem dX3_readLeaf_45 : decode cX3_readLeaf 45 = .ok (.invokevirtual 70, 3) := by decide +kernel
theorem dX3_readLeaf_48 : decode cX3_readLeaf 48 = .ok (.iconst 1, 1) := by decide +kernel
theorem dX3_readLeaf_49 : decode cX3_readLeaf 49 = .ok (.ireturn, 1) := by decide +kernel
theorem dX3_readLeaf_50 : decode cX3_readLeaf 50 = .ok (.aload_n 0, 1) := by decide +kernel
theorem dX3_readLeaf_51 : decode cX3_readLeaf 51 = .ok (.getfield 24, 3) := by decide +kernel
theorem dX3_readLeaf_54 : decode cX3_readLeaf 54 = .ok (.invokevirtual 70, 3) := by decide +kernel
theorem dX3_readLeaf_57 : decode cX3_readLeaf 57 = .ok (.iconst 0, 1) := by decide +kernel
theorem dX3_readLeaf_58 : decode cX3_readLeaf 58 = .ok (.ireturn, 1) := by decide +kernel
theorem dX3_readLeaf_59 : decode cX3_readLeaf 59 = .ok (.aload_n 0, 1) := by decide +kernel
theorem dX3_readLeaf_60 : decode cX3_readLeaf 60 = .ok (.iconst 2, 1) := by decide +kernel
theorem dX3_readLeaf_61 : decode cX3_readLeaf 61 = .ok (.aload_n 0, 1) := by decide +kernel
theorem dX3_readLeaf_62 : decode cX3_readLeaf 62 = .ok (.getfield 24, 3) := by decide +kernel
theorem dX3_readLeaf_65 : decode cX3_readLeaf 65 = .ok (.invokevirtual 62, 3) := by decide +kernel
theorem dX3_readLeaf_68 : decode cX3_readLeaf 68 = .ok (.invokevirtual 65, 3) := by decide +kernel
theorem dX3_readLeaf_71 : decode cX3_readLeaf 71 = .ok (.ireturn, 1) := by decide +kernel
theorem dX3_readVariable_0 : decode cX3_readVariable 0 = .ok (.aload_n 0, 1) := by decide +kernel
theorem dX3_readVariable_1 : decode cX3_readVariable 1 = .ok (.getfield 28, 3) := by decide +kernel
theorem dX3_readVariable_4 : decode cX3_readVariable 4 = .ok (.aload_n 0, 1) := by decide +kernel
theorem dX3_readVariable_5 : decode cX3_readVariable 5 = .ok (.getfield 24, 3) := by decide +kernel
theorem dX3_readVariable_8 : decode cX3_readVariable 8 = .ok (.invokevirtual 105, 3) := by decide +kernel
theorem dX3_readVariable_11 : decode cX3_readVariable 11 = .ok (.invokevirtual 109, 3) := by decide +kernel
theorem dX3_readVariable_14 : decode cX3_readVariable 14 = .ok (.istore_n 1, 1) := by decide +kernel
theorem dX3_readVariable_15 : decode cX3_readVariable 15 = .ok (.iload_n 1, 1) := by decide +kernel
theorem dX3_readVariable_16 : decode cX3_readVariable 16 = .ok (.ifCond .ge 58, 3) := by decide +kernel
theorem dX3_readVariable_19 : decode cX3_readVariable 19 = .ok (.aload_n 0, 1) := by decide +kernel
theorem dX3_readVariable_20 : decode cX3_readVariable 20 = .ok (.getfield 28, 3) := by decide +kernel
theorem dX3_readVariable_23 : decode cX3_readVariable 23 = .ok (.invokevirtual 113, 3) := by decide +kernel
theorem dX3_readVariable_26 : decode cX3_readVariable 26 = .ok (.ifCond .ne 16, 3) := by decide +kernel
theorem dX3_readVariable_29 : decode cX3_readVariable 29 = .ok (.aload_n 0, 1) := by decide +kernel
theorem dX3_readVariable_30 : decode cX3_readVariable 30 = .ok (.iconst 4, 1) := by decide +kernel
theorem dX3_readVariable_31 : decode cX3_readVariable 31 = .ok (.aload_n 0, 1) := by decide +kernel
theorem dX3_readVariable_32 : decode cX3_readVariable 32 = .ok (.getfield 24, 3) := by decide +kernel
theorem dX3_readVariable_35 : decode cX3_readVariable 35 = .ok (.invokevirtual 62, 3) := by decide +kernel
theorem dX3_readVariable_38 : decode cX3_readVariable 38 = .ok (.invokevirtual 65, 3) := by decide +kernel
theorem dX3_readVariable_41 : decode cX3_readVariable 41 = .ok (.ireturn, 1) := by decide +kernel
theorem dX3_readVariable_42 : decode cX3_readVariable 42 = .ok (.aload_n 0, 1) := by decide +kernel
theorem dX3_readVariable_43 : decode cX3_readVariable 43 = .ok (.getfield 28, 3) := by decide +kernel
theorem dX3_readVariable_46 : decode cX3_readVariable 46 = .ok (.aload_n 0, 1) := by decide +kernel
theorem dX3_readVariable_47 : decode cX3_readVariable 47 = .ok (.getfield 24, 3) := by decide +kernel
theorem dX3_readVariable_50 : decode cX3_readVariable 50 = .ok (.invokevirtual 105, 3) := by decide +kernel
theorem dX3_readVariable_53 : decode cX3_readVariable 53 = .ok (.invokevirtual 116, 3) := by decide +kernel
theorem dX3_readVariable_56 : decode cX3_readVariable 56 = .ok (.istore_n 1, 1) := by decide +kernel
theorem dX3_readVariable_57 : decode cX3_readVariable 57 = .ok (.iload_n 1, 1) := by decide +kernel
theorem dX3_readVariable_58 : decode cX3_readVariable 58 = .ok (.ifCond .ge 16, 3) := by decide +kernel
theorem dX3_readVariable_61 : decode cX3_readVariable 61 = .ok (.aload_n 0, 1) := by decide +kernel
theorem dX3_readVariable_62 : decode cX3_readVariable 62 = .ok (.iconst 5, 1) := by decide +kernel
theorem dX3_readVariable_63 : decode cX3_readVariable 63 = .ok (.aload_n 0, 1) := by decide +kernel
theorem dX3_readVariable_64 : decode cX3_readVariable 64 = .ok (.getfield 24, 3) := by decide +kernel
theorem dX3_readVariable_67 : decode cX3_readVariable 67 = .ok (.invokevirtual 62, 3) := by decide +kernel
theorem dX3_readVariable_70 : decode cX3_readVariable 70 = .ok (.invokevirtual 65, 3) := by decide +kernel
theorem dX3_readVariable_73 : decode cX3_readVariable 73 = .ok (.ireturn, 1) := by decide +kernel
theorem dX3_readVariable_74 : decode cX3_readVariable 74 = .ok (.aload_n 0, 1) := by decide +kernel
theorem dX3_readVariable_75 : decode cX3_readVariable 75 = .ok (.getfield 24, 3) := by decide +kernel
theorem dX3_readVariable_78 : decode cX3_readVariable 78 = .ok (.invokevirtual 70, 3) := by decide +kernel
theorem dX3_readVariable_81 : decode cX3_readVariable 81 = .ok (.iload_n 1, 1) := by decide +kernel
theorem dX3_readVariable_82 : decode cX3_readVariable 82 = .ok (.ireturn, 1) := by decide +kernel
theorem dX3_readTerm_0 : decode cX3_readTerm 0 = .ok (.aload_n 0, 1) := by decide +kernel
theorem dX3_readTerm_1 : decode cX3_readTerm 1 = .ok (.invokevirtual 69, 3) := by decide +kernel
theorem dX3_readTerm_4 : decode cX3_readTerm 4 = .ok (.istore_n 2, 1) := by decide +kernel
theorem dX3_readTerm_5 : decode cX3_readTerm 5 = .ok (.iload_n 2, 1) := by decide +kernel
theorem dX3_readTerm_6 : decode cX3_readTerm 6 = .ok (.bipush 110, 2) := by decide +kernel
theorem dX3_readTerm_8 : decode cX3_readTerm 8 = .ok (.if_icmp .ne 9, 3) := by decide +kernel
theorem dX3_readTerm_11 : decode cX3_readTerm 11 = .ok (.aload_n 0, 1) := by decide +kernel
theorem dX3_readTerm_12 : decode cX3_readTerm 12 = .ok (.iload_n 1, 1) := by decide +kernel
theorem dX3_readTerm_13 : decode cX3_readTerm 13 = .ok (.invokevirtual 119, 3) := by decide +kernel
theorem dX3_readTerm_16 : decode cX3_readTerm 16 = .ok (.ireturn, 1) := by decide +kernel
theorem dX3_readTerm_17 : decode cX3_readTerm 17 = .ok (.iload_n 2, 1) := by decide +kernel
theorem dX3_readTerm_18 : decode cX3_readTerm 18 = .ok (.bipush 84, 2) := by decide +kernel
theorem dX3_readTerm_20 : decode cX3_readTerm 20 = .ok (.if_icmp .ne 18, 3) := by decide +kernel
theorem dX3_readTerm_23 : decode cX3_readTerm 23 = .ok (.aload_n 0, 1) := by decide +kernel
theorem dX3_readTerm_24 : decode cX3_readTerm 24 = .ok (.getfield 24, 3) := by decide +kernel
theorem dX3_readTerm_27 : decode cX3_readTerm 27 = .ok (.invokevirtual 70, 3) := by decide +kernel
theorem dX3_readTerm_30 : decode cX3_readTerm 30 = .ok (.aload_n 0, 1) := by decide +kernel
theorem dX3_readTerm_31 : decode cX3_readTerm 31 = .ok (.getfield 14, 3) := by decide +kernel
theorem dX3_readTerm_34 : decode cX3_readTerm 34 = .ok (.invokevirtual 122, 3) := by decide +kernel
theorem dX3_readTerm_37 : decode cX3_readTerm 37 = .ok (.ireturn, 1) := by decide +kernel
theorem dX3_readTerm_38 : decode cX3_readTerm 38 = .ok (.iload_n 2, 1) := by decide +kernel
theorem dX3_readTerm_39 : decode cX3_readTerm 39 = .ok (.invokestatic 125, 3) := by decide +kernel
theorem dX3_readTerm_42 : decode cX3_readTerm 42 = .ok (.ifCond .ne 16, 3) := by decide +kernel
theorem dX3_readTerm_45 : decode cX3_readTerm 45 = .ok (.aload_n 0, 1) := by decide +kernel
theorem dX3_readTerm_46 : decode cX3_readTerm 46 = .ok (.iconst 2, 1) := by decide +kernel
theorem dX3_readTerm_47 : decode cX3_readTerm 47 = .ok (.aload_n 0, 1) := by decide +kernel
theorem dX3_readTerm_48 : decode cX3_readTerm 48 = .ok (.getfield 24, 3) := by decide +kernel
theorem dX3_readTerm_51 : decode cX3_readTerm 51 = .ok (.invokevirtual 62, 3) := by decide +kernel
theorem dX3_readTerm_54 : decode cX3_readTerm 54 = .ok (.invokevirtual 65, 3) := by decide +kernel
theorem dX3_readTerm_57 : decode cX3_readTerm 57 = .ok (.ireturn, 1) := by decide +kernel
theorem dX3_readTerm_58 : decode cX3_readTerm 58 = .ok (.aload_n 0, 1) := by decide +kernel
theorem dX3_readTerm_59 : decode cX3_readTerm 59 = .ok (.invokevirtual 82, 3) := by decide +kernel
theorem dX3_readTerm_62 : decode cX3_readTerm 62 = .ok (.ifCond .ne 5, 3) := by decide +kernel
theorem dX3_readTerm_65 : decode cX3_readTerm 65 = .ok (.iconst (-1), 1) := by decide +kernel
theorem dX3_readTerm_66 : decode cX3_readTerm 66 = .ok (.ireturn, 1) := by decide +kernel
theorem dX3_readTerm_67 : decode cX3_readTerm 67 = .ok (.aload_n 0, 1) := by decide +kernel
theorem dX3_readTerm_68 : decode cX3_readTerm 68 = .ok (.bipush 40, 2) := by decide +kernel
theorem dX3_readTerm_70 : decode cX3_readTerm 70 = .ok (.invokevirtual 42, 3) := by decide +kernel
theorem dX3_readTerm_73 : decode cX3_readTerm 73 = .ok (.iconst 0, 1) := by decide +kernel
theorem dX3_readTerm_74 : decode cX3_readTerm 74 = .ok (.istore_n 3, 1) := by decide +kernel
theorem dX3_readTerm_75 : decode cX3_readTerm 75 = .ok (.iload_n 2, 1) := by decide +kernel
theorem dX3_readTerm_76 : decode cX3_readTerm 76 = .ok (.bipush 76, 2) := by decide +kernel
theorem dX3_readTerm_78 : decode cX3_readTerm 78 = .ok (.if_icmp .ne 14, 3) := by decide +kernel
theorem dX3_readTerm_81 : decode cX3_readTerm 81 = .ok (.aload_n 0, 1) := by decide +kernel
theorem dX3_readTerm_82 : decode cX3_readTerm 82 = .ok (.invokevirtual 36, 3) := by decide +kernel
theorem dX3_readTerm_85 : decode cX3_readTerm 85 = .ok (.istore_n 3, 1) := by decide +kernel
theorem dX3_readTerm_86 : decode cX3_readTerm 86 = .ok (.aload_n 0, 1) := by decide +kernel
theorem dX3_readTerm_87 : decode cX3_readTerm 87 = .ok (.bipush 44, 2) := by decide +kernel
theorem dX3_readTerm_89 : decode cX3_readTerm 89 = .ok (.invokevirtual 42, 3) := by decide +kernel
theorem dX3_readTerm_92 : decode cX3_readTerm 92 = .ok (.aload_n 0, 1) := by decide +kernel
theorem dX3_readTerm_93 : decode cX3_readTerm 93 = .ok (.iload_n 2, 1) := by decide +kernel
theorem dX3_readTerm_94 : decode cX3_readTerm 94 = .ok (.iconst 0, 1) := by decide +kernel
theorem dX3_readTerm_95 : decode cX3_readTerm 95 = .ok (.iload_n 1, 1) := by decide +kernel
theorem dX3_readTerm_96 : decode cX3_readTerm 96 = .ok (.invokevirtual 128, 3) := by decide +kernel
theorem dX3_readTerm_99 : decode cX3_readTerm 99 = .ok (.istore 4, 2) := by decide +kernel
theorem dX3_readTerm_101 : decode cX3_readTerm 101 = .ok (.aload_n 0, 1) := by decide +kernel
theorem dX3_readTerm_102 : decode cX3_readTerm 102 = .ok (.iload_n 2, 1) := by decide +kernel
theorem dX3_readTerm_103 : decode cX3_readTerm 103 = .ok (.iconst 1, 1) := by decide +kernel
theorem dX3_readTerm_104 : decode cX3_readTerm 104 = .ok (.iload_n 1, 1) := by decide +kernel
theorem dX3_readTerm_105 : decode cX3_readTerm 105 = .ok (.invokevirtual 128, 3) := by decide +kernel
theorem dX3_readTerm_108 : decode cX3_readTerm 108 = .ok (.istore 5, 2) := by decide +kernel
theorem dX3_readTerm_110 : decode cX3_readTerm 110 = .ok (.aload_n 0, 1) := by decide +kernel
theorem dX3_readTerm_111 : decode cX3_readTerm 111 = .ok (.iload_n 2, 1) := by decide +kernel
theorem dX3_readTerm_112 : decode cX3_readTerm 112 = .ok (.iconst 2, 1) := by decide +kernel
theorem dX3_readTerm_113 : decode cX3_readTerm 113 = .ok (.iload_n 1, 1) := by decide +kernel
theorem dX3_readTerm_114 : decode cX3_readTerm 114 = .ok (.invokevirtual 128, 3) := by decide +kernel
theorem dX3_readTerm_117 : decode cX3_readTerm 117 = .ok (.istore 6, 2) := by decide +kernel
theorem dX3_readTerm_119 : decode cX3_readTerm 119 = .ok (.aload_n 0, 1) := by decide +kernel
theorem dX3_readTerm_120 : decode cX3_readTerm 120 = .ok (.bipush 41, 2) := by decide +kernel
theorem dX3_readTerm_122 : decode cX3_readTerm 122 = .ok (.invokevirtual 42, 3) := by decide +kernel
theorem dX3_readTerm_125 : decode cX3_readTerm 125 = .ok (.aload_n 0, 1) := by decide +kernel
theorem dX3_readTerm_126 : decode cX3_readTerm 126 = .ok (.dup, 1) := by decide +kernel
theorem dX3_readTerm_127 : decode cX3_readTerm 127 = .ok (.getfield 53, 3) := by decide +kernel
theorem dX3_readTerm_130 : decode cX3_readTerm 130 = .ok (.iconst 1, 1) := by decide +kernel
theorem dX3_readTerm_131 : decode cX3_readTerm 131 = .ok (.isub, 1) := by decide +kernel
theorem dX3_readTerm_132 : decode cX3_readTerm 132 = .ok (.putfield 53, 3) := by decide +kernel
theorem dX3_readTerm_135 : decode cX3_readTerm 135 = .ok (.aload_n 0, 1) := by decide +kernel
theorem dX3_readTerm_136 : decode cX3_readTerm 136 = .ok (.getfield 14, 3) := by decide +kernel
theorem dX3_readTerm_139 : decode cX3_readTerm 139 = .ok (.iload_n 2, 1) := by decide +kernel
theorem dX3_readTerm_140 : decode cX3_readTerm 140 = .ok (.iload 4, 2) := by decide +kernel
theorem dX3_readTerm_142 : decode cX3_readTerm 142 = .ok (.iload_n 2, 1) := by decide +kernel
theorem dX3_readTerm_143 : decode cX3_readTerm 143 = .ok (.bipush 76, 2) := by decide +kernel
theorem dX3_readTerm_145 : decode cX3_readTerm 145 = .ok (.if_icmp .ne 7, 3) := by decide +kernel
theorem dX3_readTerm_148 : decode cX3_readTerm 148 = .ok (.iload_n 3, 1) := by decide +kernel
theorem dX3_readTerm_149 : decode cX3_readTerm 149 = .ok (.goto 5, 3) := by decide +kernel
theorem dX3_readTerm_152 : decode cX3_readTerm 152 = .ok (.iload 5, 2) := by decide +kernel
theorem dX3_readTerm_154 : decode cX3_readTerm 154 = .ok (.iload 6, 2) := by decide +kernel
theorem dX3_readTerm_156 : decode cX3_readTerm 156 = .ok (.iconst (-1), 1) := by decide +kernel
theorem dX3_readTerm_157 : decode cX3_readTerm 157 = .ok (.invokevirtual 131, 3) := by decide +kernel
theorem dX3_readTerm_160 : decode cX3_readTerm 160 = .ok (.ireturn, 1) := by decide +kernel
theorem dX3_readPart_0 : decode cX3_readPart 0 = .ok (.iload_n 2, 1) := by decide +kernel
theorem dX3_readPart_1 : decode cX3_readPart 1 = .ok (.iload_n 1, 1) := by decide +kernel
theorem dX3_readPart_2 : decode cX3_readPart 2 = .ok (.invokestatic 125, 3) := by decide +kernel
theorem dX3_readPart_5 : decode cX3_readPart 5 = .ok (.if_icmp .lt 5, 3) := by decide +kernel
theorem dX3_readPart_8 : decode cX3_readPart 8 = .ok (.iconst 0, 1) := by decide +kernel
theorem dX3_readPart_9 : decode cX3_readPart 9 = .ok (.ireturn, 1) := by decide +kernel
theorem dX3_readPart_10 : decode cX3_readPart 10 = .ok (.iload_n 2, 1) := by decide +kernel
theorem dX3_readPart_11 : decode cX3_readPart 11 = .ok (.ifCond .le 9, 3) := by decide +kernel
theorem dX3_readPart_14 : decode cX3_readPart 14 = .ok (.aload_n 0, 1) := by decide +kernel
theorem dX3_readPart_15 : decode cX3_readPart 15 = .ok (.bipush 44, 2) := by decide +kernel
theorem dX3_readPart_17 : decode cX3_readPart 17 = .ok (.invokevirtual 42, 3) := by decide +kernel
theorem dX3_readPart_20 : decode cX3_readPart 20 = .ok (.aload_n 0, 1) := by decide +kernel
theorem dX3_readPart_21 : decode cX3_readPart 21 = .ok (.iload_n 1, 1) := by decide +kernel
theorem dX3_readPart_22 : decode cX3_readPart 22 = .ok (.iload_n 2, 1) := by decide +kernel
theorem dX3_readPart_23 : decode cX3_readPart 23 = .ok (.invokestatic 135, 3) := by decide +kernel
theorem dX3_readPart_26 : decode cX3_readPart 26 = .ok (.ifCond .eq 9, 3) := by decide +kernel
theorem dX3_readPart_29 : decode cX3_readPart 29 = .ok (.iload_n 3, 1) := by decide +kernel
theorem dX3_readPart_30 : decode cX3_readPart 30 = .ok (.iconst 1, 1) := by decide +kernel
theorem dX3_readPart_31 : decode cX3_readPart 31 = .ok (.iadd, 1) := by decide +kernel
theorem dX3_readPart_32 : decode cX3_readPart 32 = .ok (.goto 4, 3) := by decide +kernel
theorem dX3_readPart_35 : decode cX3_readPart 35 = .ok (.iload_n 3, 1) := by decide +kernel
theorem dX3_readPart_36 : decode cX3_readPart 36 = .ok (.invokevirtual 48, 3) := by decide +kernel
theorem dX3_readPart_39 : decode cX3_readPart 39 = .ok (.ireturn, 1) := by decide +kernel
theorem dX3_readHypothesis_0 : decode cX3_readHypothesis 0 = .ok (.aload_n 0, 1) := by decide +kernel
theorem dX3_readHypothesis_1 : decode cX3_readHypothesis 1 = .ok (.getfield 24, 3) := by decide +kernel
theorem dX3_readHypothesis_4 : decode cX3_readHypothesis 4 = .ok (.invokevirtual 139, 3) := by decide +kernel
theorem dX3_readHypothesis_7 : decode cX3_readHypothesis 7 = .ok (.istore_n 2, 1) := by decide +kernel
theorem dX3_readHypothesis_8 : decode cX3_readHypothesis 8 = .ok (.iload_n 2, 1) := by decide +kernel
theorem dX3_readHypothesis_9 : decode cX3_readHypothesis 9 = .ok (.ifCond .ge 16, 3) := by decide +kernel
theorem dX3_readHypothesis_12 : decode cX3_readHypothesis 12 = .ok (.aload_n 0, 1) := by decide +kernel
theorem dX3_readHypothesis_13 : decode cX3_readHypothesis 13 = .ok (.iconst 2, 1) := by decide +kernel
theorem dX3_readHypothesis_14 : decode cX3_readHypothesis 14 = .ok (.aload_n 0, 1) := by decide +kernel
theorem dX3_readHypothesis_15 : decode cX3_readHypothesis 15 = .ok (.getfield 24, 3) := by decide +kernel
theorem dX3_readHypothesis_18 : decode cX3_readHypothesis 18 = .ok (.invokevirtual 62, 3) := by decide +kernel
theorem dX3_readHypothesis_21 : decode cX3_readHypothesis 21 = .ok (.invokevirtual 65, 3) := by decide +kernel
theorem dX3_readHypothesis_24 : decode cX3_readHypothesis 24 = .ok (.ireturn, 1) := by decide +kernel
theorem dX3_readHypothesis_25 : decode cX3_readHypothesis 25 = .ok (.iload_n 2, 1) := by decide +kernel
theorem dX3_readHypothesis_26 : decode cX3_readHypothesis 26 = .ok (.iload_n 1, 1) := by decide +kernel
theorem dX3_readHypothesis_27 : decode cX3_readHypothesis 27 = .ok (.if_icmp .lt 17, 3) := by decide +kernel
theorem dX3_readHypothesis_30 : decode cX3_readHypothesis 30 = .ok (.aload_n 0, 1) := by decide +kernel
theorem dX3_readHypothesis_31 : decode cX3_readHypothesis 31 = .ok (.bipush 6, 2) := by decide +kernel
theorem dX3_readHypothesis_33 : decode cX3_readHypothesis 33 = .ok (.aload_n 0, 1) := by decide +kernel
theorem dX3_readHypothesis_34 : decode cX3_readHypothesis 34 = .ok (.getfield 24, 3) := by decide +kernel
theorem dX3_readHypothesis_37 : decode cX3_readHypothesis 37 = .ok (.invokevirtual 62, 3) := by decide +kernel
theorem dX3_readHypothesis_40 : decode cX3_readHypothesis 40 = .ok (.invokevirtual 65, 3) := by decide +kernel
theorem dX3_readHypothesis_43 : decode cX3_readHypothesis 43 = .ok (.ireturn, 1) := by decide +kernel
theorem dX3_readHypothesis_44 : decode cX3_readHypothesis 44 = .ok (.aload_n 0, 1) := by decide +kernel
theorem dX3_readHypothesis_45 : decode cX3_readHypothesis 45 = .ok (.getfield 24, 3) := by decide +kernel
theorem dX3_readHypothesis_48 : decode cX3_readHypothesis 48 = .ok (.invokevirtual 70, 3) := by decide +kernel
theorem dX3_readHypothesis_51 : decode cX3_readHypothesis 51 = .ok (.aload_n 0, 1) := by decide +kernel
theorem dX3_readHypothesis_52 : decode cX3_readHypothesis 52 = .ok (.getfield 14, 3) := by decide +kernel
theorem dX3_readHypothesis_55 : decode cX3_readHypothesis 55 = .ok (.iload_n 2, 1) := by decide +kernel
theorem dX3_readHypothesis_56 : decode cX3_readHypothesis 56 = .ok (.invokevirtual 142, 3) := by decide +kernel
theorem dX3_readHypothesis_59 : decode cX3_readHypothesis 59 = .ok (.ireturn, 1) := by decide +kernel
