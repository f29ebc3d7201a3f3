theorem dX10_init_0 : decode cX10_init 0 = .ok (.aload_n 0, 1) := by decide +kernel
theorem dX10_init_1 : decode cX10_init 1 = .ok (.invokespecial 3, 3) := by decide +kernel
theorem dX10_init_4 : decode cX10_init 4 = .ok (.aload_n 0, 1) := by decide +kernel
theorem dX10_init_5 : decode cX10_init 5 = .ok (.sipush 8000, 3) := by decide +kernel
theorem dX10_init_8 : decode cX10_init 8 = .ok (.newarray .byte, 2) := by decide +kernel
theorem dX10_init_10 : decode cX10_init 10 = .ok (.putfield 9, 3) := by decide +kernel
theorem dX10_init_13 : decode cX10_init 13 = .ok (.aload_n 0, 1) := by decide +kernel
theorem dX10_init_14 : decode cX10_init 14 = .ok (.sipush 8000, 3) := by decide +kernel
theorem dX10_init_17 : decode cX10_init 17 = .ok (.newarray .byte, 2) := by decide +kernel
theorem dX10_init_19 : decode cX10_init 19 = .ok (.putfield 15, 3) := by decide +kernel
theorem dX10_init_22 : decode cX10_init 22 = .ok (.aload_n 0, 1) := by decide +kernel
theorem dX10_init_23 : decode cX10_init 23 = .ok (.sipush 2000, 3) := by decide +kernel
theorem dX10_init_26 : decode cX10_init 26 = .ok (.newarray .int, 2) := by decide +kernel
theorem dX10_init_28 : decode cX10_init 28 = .ok (.putfield 18, 3) := by decide +kernel
theorem dX10_init_31 : decode cX10_init 31 = .ok (.aload_n 0, 1) := by decide +kernel
theorem dX10_init_32 : decode cX10_init 32 = .ok (.sipush 4008, 3) := by decide +kernel
theorem dX10_init_35 : decode cX10_init 35 = .ok (.newarray .int, 2) := by decide +kernel
theorem dX10_init_37 : decode cX10_init 37 = .ok (.putfield 22, 3) := by decide +kernel
theorem dX10_init_40 : decode cX10_init 40 = .ok (.aload_n 0, 1) := by decide +kernel
theorem dX10_init_41 : decode cX10_init 41 = .ok (.aload_n 1, 1) := by decide +kernel
theorem dX10_init_42 : decode cX10_init 42 = .ok (.putfield 25, 3) := by decide +kernel
theorem dX10_init_45 : decode cX10_init 45 = .ok (.return_, 1) := by decide +kernel
theorem dX10_latestByte_0 : decode cX10_latestByte 0 = .ok (.iload_n 1, 1) := by decide +kernel
theorem dX10_latestByte_1 : decode cX10_latestByte 1 = .ok (.ifCond .lt 33, 3) := by decide +kernel
theorem dX10_latestByte_4 : decode cX10_latestByte 4 = .ok (.iload_n 1, 1) := by decide +kernel
theorem dX10_latestByte_5 : decode cX10_latestByte 5 = .ok (.aload_n 0, 1) := by decide +kernel
theorem dX10_latestByte_6 : decode cX10_latestByte 6 = .ok (.getfield 29, 3) := by decide +kernel
theorem dX10_latestByte_9 : decode cX10_latestByte 9 = .ok (.if_icmp .ge 25, 3) := by decide +kernel
theorem dX10_latestByte_12 : decode cX10_latestByte 12 = .ok (.iload_n 1, 1) := by decide +kernel
theorem dX10_latestByte_13 : decode cX10_latestByte 13 = .ok (.aload_n 0, 1) := by decide +kernel
theorem dX10_latestByte_14 : decode cX10_latestByte 14 = .ok (.getfield 9, 3) := by decide +kernel
theorem dX10_latestByte_17 : decode cX10_latestByte 17 = .ok (.arraylength, 1) := by decide +kernel
theorem dX10_latestByte_18 : decode cX10_latestByte 18 = .ok (.if_icmp .ge 16, 3) := by decide +kernel
theorem dX10_latestByte_21 : decode cX10_latestByte 21 = .ok (.aload_n 0, 1) := by decide +kernel
theorem dX10_latestByte_22 : decode cX10_latestByte 22 = .ok (.getfield 9, 3) := by decide +kernel
theorem dX10_latestByte_25 : decode cX10_latestByte 25 = .ok (.iload_n 1, 1) := by decide +kernel
theorem dX10_latestByte_26 : decode cX10_latestByte 26 = .ok (.baload, 1) := by decide +kernel
theorem dX10_latestByte_27 : decode cX10_latestByte 27 = .ok (.sipush 255, 3) := by decide +kernel
theorem dX10_latestByte_30 : decode cX10_latestByte 30 = .ok (.iand, 1) := by decide +kernel
theorem dX10_latestByte_31 : decode cX10_latestByte 31 = .ok (.goto 4, 3) := by decide +kernel
theorem dX10_latestByte_34 : decode cX10_latestByte 34 = .ok (.iconst (-1), 1) := by decide +kernel
theorem dX10_latestByte_35 : decode cX10_latestByte 35 = .ok (.ireturn, 1) := by decide +kernel
theorem dX10_wholeFormula_0 : decode cX10_wholeFormula 0 = .ok (.aload_n 0, 1) := by decide +kernel
theorem dX10_wholeFormula_1 : decode cX10_wholeFormula 1 = .ok (.iconst 0, 1) := by decide +kernel
theorem dX10_wholeFormula_2 : decode cX10_wholeFormula 2 = .ok (.putfield 33, 3) := by decide +kernel
theorem dX10_wholeFormula_5 : decode cX10_wholeFormula 5 = .ok (.aload_n 0, 1) := by decide +kernel
theorem dX10_wholeFormula_6 : decode cX10_wholeFormula 6 = .ok (.iload_n 1, 1) := by decide +kernel
theorem dX10_wholeFormula_7 : decode cX10_wholeFormula 7 = .ok (.invokevirtual 36, 3) := by decide +kernel
theorem dX10_wholeFormula_10 : decode cX10_wholeFormula 10 = .ok (.aload_n 0, 1) := by decide +kernel
theorem dX10_wholeFormula_11 : decode cX10_wholeFormula 11 = .ok (.invokevirtual 40, 3) := by decide +kernel
theorem dX10_wholeFormula_14 : decode cX10_wholeFormula 14 = .ok (.ireturn, 1) := by decide +kernel
theorem dX10_wholeTerm_0 : decode cX10_wholeTerm 0 = .ok (.aload_n 0, 1) := by decide +kernel
theorem dX10_wholeTerm_1 : decode cX10_wholeTerm 1 = .ok (.iconst 0, 1) := by decide +kernel
theorem dX10_wholeTerm_2 : decode cX10_wholeTerm 2 = .ok (.putfield 33, 3) := by decide +kernel
theorem dX10_wholeTerm_5 : decode cX10_wholeTerm 5 = .ok (.aload_n 0, 1) := by decide +kernel
theorem dX10_wholeTerm_6 : decode cX10_wholeTerm 6 = .ok (.iload_n 3, 1) := by decide +kernel
theorem dX10_wholeTerm_7 : decode cX10_wholeTerm 7 = .ok (.putfield 44, 3) := by decide +kernel
theorem dX10_wholeTerm_10 : decode cX10_wholeTerm 10 = .ok (.aload_n 0, 1) := by decide +kernel
theorem dX10_wholeTerm_11 : decode cX10_wholeTerm 11 = .ok (.aload_n 1, 1) := by decide +kernel
theorem dX10_wholeTerm_12 : decode cX10_wholeTerm 12 = .ok (.iload_n 2, 1) := by decide +kernel
theorem dX10_wholeTerm_13 : decode cX10_wholeTerm 13 = .ok (.invokevirtual 47, 3) := by decide +kernel
theorem dX10_wholeTerm_16 : decode cX10_wholeTerm 16 = .ok (.aload_n 0, 1) := by decide +kernel
theorem dX10_wholeTerm_17 : decode cX10_wholeTerm 17 = .ok (.invokevirtual 40, 3) := by decide +kernel
theorem dX10_wholeTerm_20 : decode cX10_wholeTerm 20 = .ok (.ireturn, 1) := by decide +kernel
theorem dX10_finish_0 : decode cX10_finish 0 = .ok (.aload_n 0, 1) := by decide +kernel
theorem dX10_finish_1 : decode cX10_finish 1 = .ok (.invokevirtual 51, 3) := by decide +kernel
theorem dX10_finish_4 : decode cX10_finish 4 = .ok (.ifCond .eq 6, 3) := by decide +kernel
theorem dX10_finish_7 : decode cX10_finish 7 = .ok (.bipush (-4), 2) := by decide +kernel
theorem dX10_finish_9 : decode cX10_finish 9 = .ok (.ireturn, 1) := by decide +kernel
theorem dX10_finish_10 : decode cX10_finish 10 = .ok (.aload_n 0, 1) := by decide +kernel
theorem dX10_finish_11 : decode cX10_finish 11 = .ok (.getfield 9, 3) := by decide +kernel
theorem dX10_finish_14 : decode cX10_finish 14 = .ok (.astore_n 1, 1) := by decide +kernel
theorem dX10_finish_15 : decode cX10_finish 15 = .ok (.aload_n 0, 1) := by decide +kernel
theorem dX10_finish_16 : decode cX10_finish 16 = .ok (.aload_n 0, 1) := by decide +kernel
theorem dX10_finish_17 : decode cX10_finish 17 = .ok (.getfield 15, 3) := by decide +kernel
theorem dX10_finish_20 : decode cX10_finish 20 = .ok (.putfield 9, 3) := by decide +kernel
theorem dX10_finish_23 : decode cX10_finish 23 = .ok (.aload_n 0, 1) := by decide +kernel
theorem dX10_finish_24 : decode cX10_finish 24 = .ok (.aload_n 1, 1) := by decide +kernel
theorem dX10_finish_25 : decode cX10_finish 25 = .ok (.putfield 15, 3) := by decide +kernel
theorem dX10_finish_28 : decode cX10_finish 28 = .ok (.aload_n 0, 1) := by decide +kernel
theorem dX10_finish_29 : decode cX10_finish 29 = .ok (.aload_n 0, 1) := by decide +kernel
theorem dX10_finish_30 : decode cX10_finish 30 = .ok (.getfield 33, 3) := by decide +kernel
theorem dX10_finish_33 : decode cX10_finish 33 = .ok (.putfield 29, 3) := by decide +kernel
theorem dX10_finish_36 : decode cX10_finish 36 = .ok (.aload_n 0, 1) := by decide +kernel
theorem dX10_finish_37 : decode cX10_finish 37 = .ok (.getfield 33, 3) := by decide +kernel
theorem dX10_finish_40 : decode cX10_finish 40 = .ok (.ireturn, 1) := by decide +kernel
theorem dX10_overflows_0 : decode cX10_overflows 0 = .ok (.aload_n 0, 1) := by decide +kernel
theorem dX10_overflows_1 : decode cX10_overflows 1 = .ok (.getfield 33, 3) := by decide +kernel
theorem dX10_overflows_4 : decode cX10_overflows 4 = .ok (.sipush 8000, 3) := by decide +kernel
theorem dX10_overflows_7 : decode cX10_overflows 7 = .ok (.if_icmp .le 7, 3) := by decide +kernel
theorem dX10_overflows_10 : decode cX10_overflows 10 = .ok (.iconst 1, 1) := by decide +kernel
theorem dX10_overflows_11 : decode cX10_overflows 11 = .ok (.goto 4, 3) := by decide +kernel
theorem dX10_overflows_14 : decode cX10_overflows 14 = .ok (.iconst 0, 1) := by decide +kernel
theorem dX10_overflows_15 : decode cX10_overflows 15 = .ok (.ireturn, 1) := by decide +kernel
theorem dX10_put_0 : decode cX10_put 0 = .ok (.aload_n 0, 1) := by decide +kernel
theorem dX10_put_1 : decode cX10_put 1 = .ok (.getfield 33, 3) := by decide +kernel
theorem dX10_put_4 : decode cX10_put 4 = .ok (.ifCond .lt 26, 3) := by decide +kernel
theorem dX10_put_7 : decode cX10_put 7 = .ok (.aload_n 0, 1) := by decide +kernel
theorem dX10_put_8 : decode cX10_put 8 = .ok (.getfield 33, 3) := by decide +kernel
theorem dX10_put_11 : decode cX10_put 11 = .ok (.aload_n 0, 1) := by decide +kernel
theorem dX10_put_12 : decode cX10_put 12 = .ok (.getfield 15, 3) := by decide +kernel
theorem dX10_put_15 : decode cX10_put 15 = .ok (.arraylength, 1) := by decide +kernel
theorem dX10_put_16 : decode cX10_put 16 = .ok (.if_icmp .ge 14, 3) := by decide +kernel
theorem dX10_put_19 : decode cX10_put 19 = .ok (.aload_n 0, 1) := by decide +kernel
theorem dX10_put_20 : decode cX10_put 20 = .ok (.getfield 15, 3) := by decide +kernel
theorem dX10_put_23 : decode cX10_put 23 = .ok (.aload_n 0, 1) := by decide +kernel
theorem dX10_put_24 : decode cX10_put 24 = .ok (.getfield 33, 3) := by decide +kernel
theorem dX10_put_27 : decode cX10_put 27 = .ok (.iload_n 1, 1) := by decide +kernel
theorem dX10_put_28 : decode cX10_put 28 = .ok (.i2b, 1) := by decide +kernel
theorem dX10_put_29 : decode cX10_put 29 = .ok (.bastore, 1) := by decide +kernel
theorem dX10_put_30 : decode cX10_put 30 = .ok (.aload_n 0, 1) := by decide +kernel
theorem dX10_put_31 : decode cX10_put 31 = .ok (.aload_n 0, 1) := by decide +kernel
theorem dX10_put_32 : decode cX10_put 32 = .ok (.getfield 33, 3) := by decide +kernel
theorem dX10_put_35 : decode cX10_put 35 = .ok (.iconst 1, 1) := by decide +kernel
theorem dX10_put_36 : decode cX10_put 36 = .ok (.iadd, 1) := by decide +kernel
theorem dX10_put_37 : decode cX10_put 37 = .ok (.sipush 8001, 3) := by decide +kernel
theorem dX10_put_40 : decode cX10_put 40 = .ok (.invokestatic 55, 3) := by decide +kernel
theorem dX10_put_43 : decode cX10_put 43 = .ok (.putfield 33, 3) := by decide +kernel
theorem dX10_put_46 : decode cX10_put 46 = .ok (.return_, 1) := by decide +kernel
theorem dX10_putWord_0 : decode cX10_putWord 0 = .ok (.iconst 0, 1) := by decide +kernel
theorem dX10_putWord_1 : decode cX10_putWord 1 = .ok (.istore_n 2, 1) := by decide +kernel
theorem dX10_putWord_2 : decode cX10_putWord 2 = .ok (.iload_n 2, 1) := by decide +kernel
theorem dX10_putWord_3 : decode cX10_putWord 3 = .ok (.aload_n 1, 1) := by decide +kernel
theorem dX10_putWord_4 : decode cX10_putWord 4 = .ok (.invokevirtual 61, 3) := by decide +kernel
theorem dX10_putWord_7 : decode cX10_putWord 7 = .ok (.if_icmp .ge 18, 3) := by decide +kernel
theorem dX10_putWord_10 : decode cX10_putWord 10 = .ok (.aload_n 0, 1) := by decide +kernel
theorem dX10_putWord_11 : decode cX10_putWord 11 = .ok (.aload_n 1, 1) := by decide +kernel
theorem dX10_putWord_12 : decode cX10_putWord 12 = .ok (.iload_n 2, 1) := by decide +kernel
theorem dX10_putWord_13 : decode cX10_putWord 13 = .ok (.invokevirtual 66, 3) := by decide +kernel
theorem dX10_putWord_16 : decode cX10_putWord 16 = .ok (.invokevirtual 70, 3) := by decide +kernel
theorem dX10_putWord_19 : decode cX10_putWord 19 = .ok (.iinc 2 1, 3) := by decide +kernel
theorem dX10_putWord_22 : decode cX10_putWord 22 = .ok (.goto (-20), 3) := by decide +kernel
theorem dX10_putWord_25 : decode cX10_putWord 25 = .ok (.return_, 1) := by decide +kernel
theorem dX10_putNumber_0 : decode cX10_putNumber 0 = .ok (.ldc 73, 2) := by decide +kernel
theorem dX10_putNumber_2 : decode cX10_putNumber 2 = .ok (.istore_n 2, 1) := by decide +kernel
theorem dX10_putNumber_3 : decode cX10_putNumber 3 = .ok (.iload_n 2, 1) := by decide +kernel
theorem dX10_putNumber_4 : decode cX10_putNumber 4 = .ok (.ifCond .le 34, 3) := by decide +kernel
theorem dX10_putNumber_7 : decode cX10_putNumber 7 = .ok (.iload_n 2, 1) := by decide +kernel
theorem dX10_putNumber_8 : decode cX10_putNumber 8 = .ok (.iconst 1, 1) := by decide +kernel
theorem dX10_putNumber_9 : decode cX10_putNumber 9 = .ok (.if_icmp .eq 8, 3) := by decide +kernel
theorem dX10_putNumber_12 : decode cX10_putNumber 12 = .ok (.iload_n 1, 1) := by decide +kernel
theorem dX10_putNumber_13 : decode cX10_putNumber 13 = .ok (.iload_n 2, 1) := by decide +kernel
theorem dX10_putNumber_14 : decode cX10_putNumber 14 = .ok (.if_icmp .lt 16, 3) := by decide +kernel
theorem dX10_putNumber_17 : decode cX10_putNumber 17 = .ok (.aload_n 0, 1) := by decide +kernel
theorem dX10_putNumber_18 : decode cX10_putNumber 18 = .ok (.bipush 48, 2) := by decide +kernel
theorem dX10_putNumber_20 : decode cX10_putNumber 20 = .ok (.iload_n 1, 1) := by decide +kernel
theorem dX10_putNumber_21 : decode cX10_putNumber 21 = .ok (.iload_n 2, 1) := by decide +kernel
theorem dX10_putNumber_22 : decode cX10_putNumber 22 = .ok (.idiv, 1) := by decide +kernel
theorem dX10_putNumber_23 : decode cX10_putNumber 23 = .ok (.bipush 10, 2) := by decide +kernel
theorem dX10_putNumber_25 : decode cX10_putNumber 25 = .ok (.irem, 1) := by decide +kernel
theorem dX10_putNumber_26 : decode cX10_putNumber 26 = .ok (.iadd, 1) := by decide +kernel
theorem dX10_putNumber_27 : decode cX10_putNumber 27 = .ok (.invokevirtual 70, 3) := by decide +kernel
theorem dX10_putNumber_30 : decode cX10_putNumber 30 = .ok (.iload_n 2, 1) := by decide +kernel
theorem dX10_putNumber_31 : decode cX10_putNumber 31 = .ok (.bipush 10, 2) := by decide +kernel
theorem dX10_putNumber_33 : decode cX10_putNumber 33 = .ok (.idiv, 1) := by decide +kernel
theorem dX10_putNumber_34 : decode cX10_putNumber 34 = .ok (.istore_n 2, 1) := by decide +kernel
theorem dX10_putNumber_35 : decode cX10_putNumber 35 = .ok (.goto (-32), 3) := by decide +kernel
theorem dX10_putNumber_38 : decode cX10_putNumber 38 = .ok (.return_, 1) := by decide +kernel
theorem dX10_putFormula_0 : decode cX10_putFormula 0 = .ok (.aload_n 0, 1) := by decide +kernel
theorem dX10_putFormula_1 : decode cX10_putFormula 1 = .ok (.getfield 18, 3) := by decide +kernel
theorem dX10_putFormula_4 : decode cX10_putFormula 4 = .ok (.iconst 0, 1) := by decide +kernel
theorem dX10_putFormula_5 : decode cX10_putFormula 5 = .ok (.iload_n 1, 1) := by decide +kernel
theorem dX10_putFormula_6 : decode cX10_putFormula 6 = .ok (.invokestatic 74, 3) := by decide +kernel
theorem dX10_putFormula_9 : decode cX10_putFormula 9 = .ok (.istore_n 2, 1) := by decide +kernel
theorem dX10_putFormula_10 : decode cX10_putFormula 10 = .ok (.iconst 0, 1) := by decide +kernel
theorem dX10_putFormula_11 : decode cX10_putFormula 11 = .ok (.istore_n 3, 1) := by decide +kernel
theorem dX10_putFormula_12 : decode cX10_putFormula 12 = .ok (.iload_n 3, 1) := by decide +kernel
theorem dX10_putFormula_13 : decode cX10_putFormula 13 = .ok (.sipush 16000, 3) := by decide +kernel
theorem dX10_putFormula_16 : decode cX10_putFormula 16 = .ok (.if_icmp .ge 166, 3) := by decide +kernel
theorem dX10_putFormula_19 : decode cX10_putFormula 19 = .ok (.iload_n 2, 1) := by decide +kernel
theorem dX10_putFormula_20 : decode cX10_putFormula 20 = .ok (.ifCond .lt 162, 3) := by decide +kernel
theorem dX10_putFormula_23 : decode cX10_putFormula 23 = .ok (.iload_n 2, 1) := by decide +kernel
theorem dX10_putFormula_24 : decode cX10_putFormula 24 = .ok (.sipush 2000, 3) := by decide +kernel
theorem dX10_putFormula_27 : decode cX10_putFormula 27 = .ok (.if_icmp .ge 155, 3) := by decide +kernel
theorem dX10_putFormula_30 : decode cX10_putFormula 30 = .ok (.aload_n 0, 1) := by decide +kernel
theorem dX10_putFormula_31 : decode cX10_putFormula 31 = .ok (.invokevirtual 51, 3) := by decide +kernel
theorem dX10_putFormula_34 : decode cX10_putFormula 34 = .ok (.ifCond .ne 148, 3) := by decide +kernel
theorem dX10_putFormula_37 : decode cX10_putFormula 37 = .ok (.aload_n 0, 1) := by decide +kernel
theorem dX10_putFormula_38 : decode cX10_putFormula 38 = .ok (.getfield 18, 3) := by decide +kernel
theorem dX10_putFormula_41 : decode cX10_putFormula 41 = .ok (.iload_n 2, 1) := by decide +kernel
theorem dX10_putFormula_42 : decode cX10_putFormula 42 = .ok (.iaload, 1) := by decide +kernel
theorem dX10_putFormula_43 : decode cX10_putFormula 43 = .ok (.iconst 2, 1) := by decide +kernel
theorem dX10_putFormula_44 : decode cX10_putFormula 44 = .ok (.ishr, 1) := by decide +kernel
theorem dX10_putFormula_45 : decode cX10_putFormula 45 = .ok (.istore 4, 2) := by decide +kernel
theorem dX10_putFormula_47 : decode cX10_putFormula 47 = .ok (.aload_n 0, 1) := by decide +kernel
theorem dX10_putFormula_48 : decode cX10_putFormula 48 = .ok (.getfield 18, 3) := by decide +kernel
theorem dX10_putFormula_51 : decode cX10_putFormula 51 = .ok (.iload_n 2, 1) := by decide +kernel
theorem dX10_putFormula_52 : decode cX10_putFormula 52 = .ok (.iaload, 1) := by decide +kernel
theorem dX10_putFormula_53 : decode cX10_putFormula 53 = .ok (.iconst 3, 1) := by decide +kernel
theorem dX10_putFormula_54 : decode cX10_putFormula 54 = .ok (.iand, 1) := by decide +kernel
theorem dX10_putFormula_55 : decode cX10_putFormula 55 = .ok (.istore 5, 2) := by decide +kernel
theorem dX10_putFormula_57 : decode cX10_putFormula 57 = .ok (.aload_n 0, 1) := by decide +kernel
theorem dX10_putFormula_58 : decode cX10_putFormula 58 = .ok (.getfield 25, 3) := by decide +kernel
theorem dX10_putFormula_61 : decode cX10_putFormula 61 = .ok (.iload 4, 2) := by decide +kernel
theorem dX10_putFormula_63 : decode cX10_putFormula 63 = .ok (.invokevirtual 78, 3) := by decide +kernel
theorem dX10_putFormula_66 : decode cX10_putFormula 66 = .ok (.istore 6, 2) := by decide +kernel
theorem dX10_putFormula_68 : decode cX10_putFormula 68 = .ok (.aload_n 0, 1) := by decide +kernel
theorem dX10_putFormula_69 : decode cX10_putFormula 69 = .ok (.getfield 18, 3) := by decide +kernel
theorem dX10_putFormula_72 : decode cX10_putFormula 72 = .ok (.iload_n 2, 1) := by decide +kernel
theorem dX10_putFormula_73 : decode cX10_putFormula 73 = .ok (.dup2, 1) := by decide +kernel
theorem dX10_putFormula_74 : decode cX10_putFormula 74 = .ok (.iaload, 1) := by decide +kernel
theorem dX10_putFormula_75 : decode cX10_putFormula 75 = .ok (.iconst 1, 1) := by decide +kernel
theorem dX10_putFormula_76 : decode cX10_putFormula 76 = .ok (.iadd, 1) := by decide +kernel
theorem dX10_putFormula_77 : decode cX10_putFormula 77 = .ok (.iastore, 1) := by decide +kernel
theorem dX10_putFormula_78 : decode cX10_putFormula 78 = .ok (.iload 6, 2) := by decide +kernel
theorem dX10_putFormula_80 : decode cX10_putFormula 80 = .ok (.iconst 3, 1) := by decide +kernel
theorem dX10_putFormula_81 : decode cX10_putFormula 81 = .ok (.if_icmp .ge 17, 3) := by decide +kernel
theorem dX10_putFormula_84 : decode cX10_putFormula 84 = .ok (.aload_n 0, 1) := by decide +kernel
theorem dX10_putFormula_85 : decode cX10_putFormula 85 = .ok (.iload 6, 2) := by decide +kernel
theorem dX10_putFormula_87 : decode cX10_putFormula 87 = .ok (.iload 4, 2) := by decide +kernel
theorem dX10_putFormula_89 : decode cX10_putFormula 89 = .ok (.invokevirtual 84, 3) := by decide +kernel
theorem dX10_putFormula_92 : decode cX10_putFormula 92 = .ok (.iinc 2 (-1), 3) := by decide +kernel
theorem dX10_putFormula_95 : decode cX10_putFormula 95 = .ok (.goto 81, 3) := by decide +kernel
theorem dX10_putFormula_98 : decode cX10_putFormula 98 = .ok (.iload 5, 2) := by decide +kernel
theorem dX10_putFormula_100 : decode cX10_putFormula 100 = .ok (.ifCond .ne 32, 3) := by decide +kernel
theorem dX10_putFormula_103 : decode cX10_putFormula 103 = .ok (.aload_n 0, 1) := by decide +kernel
theorem dX10_putFormula_104 : decode cX10_putFormula 104 = .ok (.bipush 40, 2) := by decide +kernel
theorem dX10_putFormula_106 : decode cX10_putFormula 106 = .ok (.invokevirtual 70, 3) := by decide +kernel
theorem dX10_putFormula_109 : decode cX10_putFormula 109 = .ok (.aload_n 0, 1) := by decide +kernel
theorem dX10_putFormula_110 : decode cX10_putFormula 110 = .ok (.getfield 18, 3) := by decide +kernel
theorem dX10_putFormula_113 : decode cX10_putFormula 113 = .ok (.iload_n 2, 1) := by decide +kernel
theorem dX10_putFormula_114 : decode cX10_putFormula 114 = .ok (.iconst 1, 1) := by decide +kernel
theorem dX10_putFormula_115 : decode cX10_putFormula 115 = .ok (.iadd, 1) := by decide +kernel
theorem dX10_putFormula_116 : decode cX10_putFormula 116 = .ok (.aload_n 0, 1) := by decide +kernel
theorem dX10_putFormula_117 : decode cX10_putFormula 117 = .ok (.getfield 25, 3) := by decide +kernel
theorem dX10_putFormula_120 : decode cX10_putFormula 120 = .ok (.iload 4, 2) := by decide +kernel
theorem dX10_putFormula_122 : decode cX10_putFormula 122 = .ok (.invokevirtual 88, 3) := by decide +kernel
theorem dX10_putFormula_125 : decode cX10_putFormula 125 = .ok (.invokestatic 74, 3) := by decide +kernel
theorem dX10_putFormula_128 : decode cX10_putFormula 128 = .ok (.istore_n 2, 1) := by decide +kernel
theorem dX10_putFormula_129 : decode cX10_putFormula 129 = .ok (.goto 47, 3) := by decide +kernel
theorem dX10_putFormula_132 : decode cX10_putFormula 132 = .ok (.iload 5, 2) := by decide +kernel
theorem dX10_putFormula_134 : decode cX10_putFormula 134 = .ok (.iconst 1, 1) := by decide +kernel
theorem dX10_putFormula_135 : decode cX10_putFormula 135 = .ok (.if_icmp .ne 32, 3) := by decide +kernel
theorem dX10_putFormula_138 : decode cX10_putFormula 138 = .ok (.aload_n 0, 1) := by decide +kernel
theorem dX10_putFormula_139 : decode cX10_putFormula 139 = .ok (.iload 6, 2) := by decide +kernel
theorem dX10_putFormula_141 : decode cX10_putFormula 141 = .ok (.invokevirtual 91, 3) := by decide +kernel
theorem dX10_putFormula_144 : decode cX10_putFormula 144 = .ok (.aload_n 0, 1) := by decide +kernel
theorem dX10_putFormula_145 : decode cX10_putFormula 145 = .ok (.getfield 18, 3) := by decide +kernel
theorem dX10_putFormula_148 : decode cX10_putFormula 148 = .ok (.iload_n 2, 1) := by decide +kernel
theorem dX10_putFormula_149 : decode cX10_putFormula 149 = .ok (.iconst 1, 1) := by decide +kernel
theorem dX10_putFormula_150 : decode cX10_putFormula 150 = .ok (.iadd, 1) := by decide +kernel
theorem dX10_putFormula_151 : decode cX10_putFormula 151 = .ok (.aload_n 0, 1) := by decide +kernel
theorem dX10_putFormula_152 : decode cX10_putFormula 152 = .ok (.getfield 25, 3) := by decide +kernel
theorem dX10_putFormula_155 : decode cX10_putFormula 155 = .ok (.iload 4, 2) := by decide +kernel
theorem dX10_putFormula_157 : decode cX10_putFormula 157 = .ok (.invokevirtual 94, 3) := by decide +kernel
theorem dX10_putFormula_160 : decode cX10_putFormula 160 = .ok (.invokestatic 74, 3) := by decide +kernel
theorem dX10_putFormula_163 : decode cX10_putFormula 163 = .ok (.istore_n 2, 1) := by decide +kernel
theorem dX10_putFormula_164 : decode cX10_putFormula 164 = .ok (.goto 12, 3) := by decide +kernel
theorem dX10_putFormula_167 : decode cX10_putFormula 167 = .ok (.aload_n 0, 1) := by decide +kernel
theorem dX10_putFormula_168 : decode cX10_putFormula 168 = .ok (.bipush 41, 2) := by decide +kernel
theorem dX10_putFormula_170 : decode cX10_putFormula 170 = .ok (.invokevirtual 70, 3) := by decide +kernel
theorem dX10_putFormula_173 : decode cX10_putFormula 173 = .ok (.iinc 2 (-1), 3) := by decide +kernel
theorem dX10_putFormula_176 : decode cX10_putFormula 176 = .ok (.iinc 3 1, 3) := by decide +kernel
theorem dX10_putFormula_179 : decode cX10_putFormula 179 = .ok (.goto (-167), 3) := by decide +kernel
theorem dX10_putFormula_182 : decode cX10_putFormula 182 = .ok (.return_, 1) := by decide +kernel
theorem dX10_begin_0 : decode cX10_begin 0 = .ok (.iload_n 1, 1) := by decide +kernel
theorem dX10_begin_1 : decode cX10_begin 1 = .ok (.ifCond .lt 15, 3) := by decide +kernel
theorem dX10_begin_4 : decode cX10_begin 4 = .ok (.iload_n 1, 1) := by decide +kernel
theorem dX10_begin_5 : decode cX10_begin 5 = .ok (.aload_n 0, 1) := by decide +kernel
theorem dX10_begin_6 : decode cX10_begin 6 = .ok (.arraylength, 1) := by decide +kernel
theorem dX10_begin_7 : decode cX10_begin 7 = .ok (.if_icmp .ge 9, 3) := by decide +kernel
theorem dX10_begin_10 : decode cX10_begin 10 = .ok (.aload_n 0, 1) := by decide +kernel
theorem dX10_begin_11 : decode cX10_begin 11 = .ok (.iload_n 1, 1) := by decide +kernel
theorem dX10_begin_12 : decode cX10_begin 12 = .ok (.iload_n 2, 1) := by decide +kernel
theorem dX10_begin_13 : decode cX10_begin 13 = .ok (.iconst 2, 1) := by decide +kernel
theorem dX10_begin_14 : decode cX10_begin 14 = .ok (.ishl, 1) := by decide +kernel
theorem dX10_begin_15 : decode cX10_begin 15 = .ok (.iastore, 1) := by decide +kernel
theorem dX10_begin_16 : decode cX10_begin 16 = .ok (.iload_n 1, 1) := by decide +kernel
theorem dX10_begin_17 : decode cX10_begin 17 = .ok (.ireturn, 1) := by decide +kernel
theorem dX10_putAtom_0 : decode cX10_putAtom 0 = .ok (.iload_n 1, 1) := by decide +kernel
theorem dX10_putAtom_1 : decode cX10_putAtom 1 = .ok (.iconst 2, 1) := by decide +kernel
theorem dX10_putAtom_2 : decode cX10_putAtom 2 = .ok (.if_icmp .ne 25, 3) := by decide +kernel
theorem dX10_putAtom_5 : decode cX10_putAtom 5 = .ok (.aload_n 0, 1) := by decide +kernel
theorem dX10_putAtom_6 : decode cX10_putAtom 6 = .ok (.aload_n 0, 1) := by decide +kernel
theorem dX10_putAtom_7 : decode cX10_putAtom 7 = .ok (.getfield 25, 3) := by decide +kernel
theorem dX10_putAtom_10 : decode cX10_putAtom 10 = .ok (.aload_n 0, 1) := by decide +kernel
theorem dX10_putAtom_11 : decode cX10_putAtom 11 = .ok (.getfield 25, 3) := by decide +kernel
theorem dX10_putAtom_14 : decode cX10_putAtom 14 = .ok (.iload_n 2, 1) := by decide +kernel
theorem dX10_putAtom_15 : decode cX10_putAtom 15 = .ok (.invokevirtual 88, 3) := by decide +kernel
theorem dX10_putAtom_18 : decode cX10_putAtom 18 = .ok (.invokevirtual 97, 3) := by decide +kernel
theorem dX10_putAtom_21 : decode cX10_putAtom 21 = .ok (.invokevirtual 101, 3) := by decide +kernel
theorem dX10_putAtom_24 : decode cX10_putAtom 24 = .ok (.goto 19, 3) := by decide +kernel
theorem dX10_putAtom_27 : decode cX10_putAtom 27 = .ok (.aload_n 0, 1) := by decide +kernel
theorem dX10_putAtom_28 : decode cX10_putAtom 28 = .ok (.iload_n 1, 1) := by decide +kernel
theorem dX10_putAtom_29 : decode cX10_putAtom 29 = .ok (.iconst 1, 1) := by decide +kernel
theorem dX10_putAtom_30 : decode cX10_putAtom 30 = .ok (.if_icmp .ne 8, 3) := by decide +kernel
theorem dX10_putAtom_33 : decode cX10_putAtom 33 = .ok (.ldc 105, 2) := by decide +kernel
theorem dX10_putAtom_35 : decode cX10_putAtom 35 = .ok (.goto 5, 3) := by decide +kernel
theorem dX10_putAtom_38 : decode cX10_putAtom 38 = .ok (.ldc 107, 2) := by decide +kernel
theorem dX10_putAtom_40 : decode cX10_putAtom 40 = .ok (.invokevirtual 109, 3) := by decide +kernel
theorem dX10_putAtom_43 : decode cX10_putAtom 43 = .ok (.return_, 1) := by decide +kernel
theorem dX10_putName_0 : decode cX10_putName 0 = .ok (.bipush 40, 2) := by decide +kernel
theorem dX10_putName_2 : decode cX10_putName 2 = .ok (.istore_n 3, 1) := by decide +kernel
theorem dX10_putName_3 : decode cX10_putName 3 = .ok (.iload_n 3, 1) := by decide +kernel
theorem dX10_putName_4 : decode cX10_putName 4 = .ok (.ifCond .lt 30, 3) := by decide +kernel
theorem dX10_putName_7 : decode cX10_putName 7 = .ok (.lload_n 1, 1) := by decide +kernel
theorem dX10_putName_8 : decode cX10_putName 8 = .ok (.iload_n 3, 1) := by decide +kernel
theorem dX10_putName_9 : decode cX10_putName 9 = .ok (.lushr, 1) := by decide +kernel
theorem dX10_putName_10 : decode cX10_putName 10 = .ok (.l2i, 1) := by decide +kernel
theorem dX10_putName_11 : decode cX10_putName 11 = .ok (.sipush 255, 3) := by decide +kernel
theorem dX10_putName_14 : decode cX10_putName 14 = .ok (.iand, 1) := by decide +kernel
theorem dX10_putName_15 : decode cX10_putName 15 = .ok (.istore 4, 2) := by decide +kernel
theorem dX10_putName_17 : decode cX10_putName 17 = .ok (.iload 4, 2) := by decide +kernel
theorem dX10_putName_19 : decode cX10_putName 19 = .ok (.ifCond .eq 9, 3) := by decide +kernel
theorem dX10_putName_22 : decode cX10_putName 22 = .ok (.aload_n 0, 1) := by decide +kernel
theorem dX10_putName_23 : decode cX10_putName 23 = .ok (.iload 4, 2) := by decide +kernel
theorem dX10_putName_25 : decode cX10_putName 25 = .ok (.invokevirtual 70, 3) := by decide +kernel
theorem dX10_putName_28 : decode cX10_putName 28 = .ok (.iinc 3 (-8), 3) := by decide +kernel
theorem dX10_putName_31 : decode cX10_putName 31 = .ok (.goto (-28), 3) := by decide +kernel
theorem dX10_putName_34 : decode cX10_putName 34 = .ok (.return_, 1) := by decide +kernel
theorem dX10_putSign_0 : decode cX10_putSign 0 = .ok (.iload_n 1, 1) := by decide +kernel
theorem dX10_putSign_1 : decode cX10_putSign 1 = .ok (.iconst 5, 1) := by decide +kernel
theorem dX10_putSign_2 : decode cX10_putSign 2 = .ok (.if_icmp .ne 12, 3) := by decide +kernel
theorem dX10_putSign_5 : decode cX10_putSign 5 = .ok (.aload_n 0, 1) := by decide +kernel
theorem dX10_putSign_6 : decode cX10_putSign 6 = .ok (.ldc 113, 2) := by decide +kernel
theorem dX10_putSign_8 : decode cX10_putSign 8 = .ok (.invokevirtual 109, 3) := by decide +kernel
theorem dX10_putSign_11 : decode cX10_putSign 11 = .ok (.goto 19, 3) := by decide +kernel
theorem dX10_putSign_14 : decode cX10_putSign 14 = .ok (.aload_n 0, 1) := by decide +kernel
theorem dX10_putSign_15 : decode cX10_putSign 15 = .ok (.iload_n 1, 1) := by decide +kernel
theorem dX10_putSign_16 : decode cX10_putSign 16 = .ok (.iconst 3, 1) := by decide +kernel
theorem dX10_putSign_17 : decode cX10_putSign 17 = .ok (.if_icmp .ne 8, 3) := by decide +kernel
theorem dX10_putSign_20 : decode cX10_putSign 20 = .ok (.bipush 38, 2) := by decide +kernel
theorem dX10_putSign_22 : decode cX10_putSign 22 = .ok (.goto 5, 3) := by decide +kernel
theorem dX10_putSign_25 : decode cX10_putSign 25 = .ok (.bipush 124, 2) := by decide +kernel
theorem dX10_putSign_27 : decode cX10_putSign 27 = .ok (.invokevirtual 70, 3) := by decide +kernel
theorem dX10_putSign_30 : decode cX10_putSign 30 = .ok (.return_, 1) := by decide +kernel
theorem dX10_putTerm_0 : decode cX10_putTerm 0 = .ok (.aload_n 0, 1) := by decide +kernel
theorem dX10_putTerm_1 : decode cX10_putTerm 1 = .ok (.getfield 22, 3) := by decide +kernel
theorem dX10_putTerm_4 : decode cX10_putTerm 4 = .ok (.iconst 0, 1) := by decide +kernel
theorem dX10_putTerm_5 : decode cX10_putTerm 5 = .ok (.iload_n 2, 1) := by decide +kernel
theorem dX10_putTerm_6 : decode cX10_putTerm 6 = .ok (.invokestatic 74, 3) := by decide +kernel
theorem dX10_putTerm_9 : decode cX10_putTerm 9 = .ok (.istore_n 3, 1) := by decide +kernel
theorem dX10_putTerm_10 : decode cX10_putTerm 10 = .ok (.iconst 0, 1) := by decide +kernel
theorem dX10_putTerm_11 : decode cX10_putTerm 11 = .ok (.istore 4, 2) := by decide +kernel
theorem dX10_putTerm_13 : decode cX10_putTerm 13 = .ok (.iload 4, 2) := by decide +kernel
theorem dX10_putTerm_15 : decode cX10_putTerm 15 = .ok (.sipush 16000, 3) := by decide +kernel
theorem dX10_putTerm_18 : decode cX10_putTerm 18 = .ok (.if_icmp .ge 165, 3) := by decide +kernel
theorem dX10_putTerm_21 : decode cX10_putTerm 21 = .ok (.iload_n 3, 1) := by decide +kernel
theorem dX10_putTerm_22 : decode cX10_putTerm 22 = .ok (.ifCond .lt 161, 3) := by decide +kernel
theorem dX10_putTerm_25 : decode cX10_putTerm 25 = .ok (.iload_n 3, 1) := by decide +kernel
theorem dX10_putTerm_26 : decode cX10_putTerm 26 = .ok (.sipush 4008, 3) := by decide +kernel
theorem dX10_putTerm_29 : decode cX10_putTerm 29 = .ok (.if_icmp .ge 154, 3) := by decide +kernel
theorem dX10_putTerm_32 : decode cX10_putTerm 32 = .ok (.aload_n 0, 1) := by decide +kernel
theorem dX10_putTerm_33 : decode cX10_putTerm 33 = .ok (.invokevirtual 51, 3) := by decide +kernel
theorem dX10_putTerm_36 : decode cX10_putTerm 36 = .ok (.ifCond .ne 147, 3) := by decide +kernel
theorem dX10_putTerm_39 : decode cX10_putTerm 39 = .ok (.aload_n 0, 1) := by decide +kernel
theorem dX10_putTerm_40 : decode cX10_putTerm 40 = .ok (.getfield 22, 3) := by decide +kernel
theorem dX10_putTerm_43 : decode cX10_putTerm 43 = .ok (.iload_n 3, 1) := by decide +kernel
theorem dX10_putTerm_44 : decode cX10_putTerm 44 = .ok (.iaload, 1) := by decide +kernel
theorem dX10_putTerm_45 : decode cX10_putTerm 45 = .ok (.iconst 2, 1) := by decide +kernel
theorem dX10_putTerm_46 : decode cX10_putTerm 46 = .ok (.ishr, 1) := by decide +kernel
theorem dX10_putTerm_47 : decode cX10_putTerm 47 = .ok (.istore 5, 2) := by decide +kernel
theorem dX10_putTerm_49 : decode cX10_putTerm 49 = .ok (.aload_n 0, 1) := by decide +kernel
theorem dX10_putTerm_50 : decode cX10_putTerm 50 = .ok (.getfield 22, 3) := by decide +kernel
theorem dX10_putTerm_53 : decode cX10_putTerm 53 = .ok (.iload_n 3, 1) := by decide +kernel
theorem dX10_putTerm_54 : decode cX10_putTerm 54 = .ok (.iaload, 1) := by decide +kernel
theorem dX10_putTerm_55 : decode cX10_putTerm 55 = .ok (.iconst 3, 1) := by decide +kernel
theorem dX10_putTerm_56 : decode cX10_putTerm 56 = .ok (.iand, 1) := by decide +kernel
theorem dX10_putTerm_57 : decode cX10_putTerm 57 = .ok (.istore 6, 2) := by decide +kernel
theorem dX10_putTerm_59 : decode cX10_putTerm 59 = .ok (.aload_n 1, 1) := by decide +kernel
theorem dX10_putTerm_60 : decode cX10_putTerm 60 = .ok (.iload 5, 2) := by decide +kernel
theorem dX10_putTerm_62 : decode cX10_putTerm 62 = .ok (.invokevirtual 115, 3) := by decide +kernel
theorem dX10_putTerm_65 : decode cX10_putTerm 65 = .ok (.istore 7, 2) := by decide +kernel
theorem dX10_putTerm_67 : decode cX10_putTerm 67 = .ok (.aload_n 0, 1) := by decide +kernel
theorem dX10_putTerm_68 : decode cX10_putTerm 68 = .ok (.getfield 22, 3) := by decide +kernel
theorem dX10_putTerm_71 : decode cX10_putTerm 71 = .ok (.iload_n 3, 1) := by decide +kernel
theorem dX10_putTerm_72 : decode cX10_putTerm 72 = .ok (.dup2, 1) := by decide +kernel
theorem dX10_putTerm_73 : decode cX10_putTerm 73 = .ok (.iaload, 1) := by decide +kernel
theorem dX10_putTerm_74 : decode cX10_putTerm 74 = .ok (.iconst 1, 1) := by decide +kernel
theorem dX10_putTerm_75 : decode cX10_putTerm 75 = .ok (.iadd, 1) := by decide +kernel
theorem dX10_putTerm_76 : decode cX10_putTerm 76 = .ok (.iastore, 1) := by decide +kernel
theorem dX10_putTerm_77 : decode cX10_putTerm 77 = .ok (.iload 6, 2) := by decide +kernel
theorem dX10_putTerm_79 : decode cX10_putTerm 79 = .ok (.ifCond .le 25, 3) := by decide +kernel
theorem dX10_putTerm_82 : decode cX10_putTerm 82 = .ok (.iload 7, 2) := by decide +kernel
theorem dX10_putTerm_84 : decode cX10_putTerm 84 = .ok (.iload 6, 2) := by decide +kernel
theorem dX10_putTerm_86 : decode cX10_putTerm 86 = .ok (.iconst 1, 1) := by decide +kernel
theorem dX10_putTerm_87 : decode cX10_putTerm 87 = .ok (.isub, 1) := by decide +kernel
theorem dX10_putTerm_88 : decode cX10_putTerm 88 = .ok (.invokestatic 118, 3) := by decide +kernel
theorem dX10_putTerm_91 : decode cX10_putTerm 91 = .ok (.ifCond .eq 13, 3) := by decide +kernel
theorem dX10_putTerm_94 : decode cX10_putTerm 94 = .ok (.aload_n 0, 1) := by decide +kernel
theorem dX10_putTerm_95 : decode cX10_putTerm 95 = .ok (.dup, 1) := by decide +kernel
theorem dX10_putTerm_96 : decode cX10_putTerm 96 = .ok (.getfield 44, 3) := by decide +kernel
theorem dX10_putTerm_99 : decode cX10_putTerm 99 = .ok (.iconst 1, 1) := by decide +kernel
theorem dX10_putTerm_100 : decode cX10_putTerm 100 = .ok (.isub, 1) := by decide +kernel
theorem dX10_putTerm_101 : decode cX10_putTerm 101 = .ok (.putfield 44, 3) := by decide +kernel
theorem dX10_putTerm_104 : decode cX10_putTerm 104 = .ok (.iload 7, 2) := by decide +kernel
theorem dX10_putTerm_106 : decode cX10_putTerm 106 = .ok (.invokestatic 122, 3) := by decide +kernel
theorem dX10_putTerm_109 : decode cX10_putTerm 109 = .ok (.ifCond .ne 18, 3) := by decide +kernel
theorem dX10_putTerm_112 : decode cX10_putTerm 112 = .ok (.aload_n 0, 1) := by decide +kernel
theorem dX10_putTerm_113 : decode cX10_putTerm 113 = .ok (.aload_n 1, 1) := by decide +kernel
theorem dX10_putTerm_114 : decode cX10_putTerm 114 = .ok (.iload 7, 2) := by decide +kernel
theorem dX10_putTerm_116 : decode cX10_putTerm 116 = .ok (.iload 5, 2) := by decide +kernel
theorem dX10_putTerm_118 : decode cX10_putTerm 118 = .ok (.invokevirtual 125, 3) := by decide +kernel
theorem dX10_putTerm_121 : decode cX10_putTerm 121 = .ok (.iinc 3 (-1), 3) := by decide +kernel
theorem dX10_putTerm_124 : decode cX10_putTerm 124 = .ok (.goto 53, 3) := by decide +kernel
theorem dX10_putTerm_127 : decode cX10_putTerm 127 = .ok (.iload 6, 2) := by decide +kernel
theorem dX10_putTerm_129 : decode cX10_putTerm 129 = .ok (.iload 7, 2) := by decide +kernel
theorem dX10_putTerm_131 : decode cX10_putTerm 131 = .ok (.invokestatic 122, 3) := by decide +kernel
theorem dX10_putTerm_134 : decode cX10_putTerm 134 = .ok (.if_icmp .ne 15, 3) := by decide +kernel
theorem dX10_putTerm_137 : decode cX10_putTerm 137 = .ok (.aload_n 0, 1) := by decide +kernel
theorem dX10_putTerm_138 : decode cX10_putTerm 138 = .ok (.bipush 41, 2) := by decide +kernel
theorem dX10_putTerm_140 : decode cX10_putTerm 140 = .ok (.invokevirtual 70, 3) := by decide +kernel
theorem dX10_putTerm_143 : decode cX10_putTerm 143 = .ok (.iinc 3 (-1), 3) := by decide +kernel
theorem dX10_putTerm_146 : decode cX10_putTerm 146 = .ok (.goto 31, 3) := by decide +kernel
theorem dX10_putTerm_149 : decode cX10_putTerm 149 = .ok (.aload_n 0, 1) := by decide +kernel
theorem dX10_putTerm_150 : decode cX10_putTerm 150 = .ok (.aload_n 1, 1) := by decide +kernel
theorem dX10_putTerm_151 : decode cX10_putTerm 151 = .ok (.iload 5, 2) := by decide +kernel
theorem dX10_putTerm_153 : decode cX10_putTerm 153 = .ok (.iload 6, 2) := by decide +kernel
theorem dX10_putTerm_155 : decode cX10_putTerm 155 = .ok (.invokevirtual 129, 3) := by decide +kernel
theorem dX10_putTerm_158 : decode cX10_putTerm 158 = .ok (.aload_n 0, 1) := by decide +kernel
theorem dX10_putTerm_159 : decode cX10_putTerm 159 = .ok (.getfield 22, 3) := by decide +kernel
theorem dX10_putTerm_162 : decode cX10_putTerm 162 = .ok (.iload_n 3, 1) := by decide +kernel
theorem dX10_putTerm_163 : decode cX10_putTerm 163 = .ok (.iconst 1, 1) := by decide +kernel
theorem dX10_putTerm_164 : decode cX10_putTerm 164 = .ok (.iadd, 1) := by decide +kernel
theorem dX10_putTerm_165 : decode cX10_putTerm 165 = .ok (.aload_n 1, 1) := by decide +kernel
theorem dX10_putTerm_166 : decode cX10_putTerm 166 = .ok (.iload 5, 2) := by decide +kernel
theorem dX10_putTerm_168 : decode cX10_putTerm 168 = .ok (.iload 6, 2) := by decide +kernel
theorem dX10_putTerm_170 : decode cX10_putTerm 170 = .ok (.invokevirtual 132, 3) := by decide +kernel
theorem dX10_putTerm_173 : decode cX10_putTerm 173 = .ok (.invokestatic 74, 3) := by decide +kernel
theorem dX10_putTerm_176 : decode cX10_putTerm 176 = .ok (.istore_n 3, 1) := by decide +kernel
theorem dX10_putTerm_177 : decode cX10_putTerm 177 = .ok (.iinc 4 1, 3) := by decide +kernel
theorem dX10_putTerm_180 : decode cX10_putTerm 180 = .ok (.goto (-167), 3) := by decide +kernel
theorem dX10_putTerm_183 : decode cX10_putTerm 183 = .ok (.return_, 1) := by decide +kernel
theorem dX10_putLeaf_0 : decode cX10_putLeaf 0 = .ok (.aload_n 0, 1) := by decide +kernel
theorem dX10_putLeaf_1 : decode cX10_putLeaf 1 = .ok (.iload_n 2, 1) := by decide +kernel
theorem dX10_putLeaf_2 : decode cX10_putLeaf 2 = .ok (.invokevirtual 70, 3) := by decide +kernel
theorem dX10_putLeaf_5 : decode cX10_putLeaf 5 = .ok (.iload_n 2, 1) := by decide +kernel
theorem dX10_putLeaf_6 : decode cX10_putLeaf 6 = .ok (.bipush 104, 2) := by decide +kernel
theorem dX10_putLeaf_8 : decode cX10_putLeaf 8 = .ok (.if_icmp .ne 12, 3) := by decide +kernel
theorem dX10_putLeaf_11 : decode cX10_putLeaf 11 = .ok (.aload_n 0, 1) := by decide +kernel
theorem dX10_putLeaf_12 : decode cX10_putLeaf 12 = .ok (.aload_n 1, 1) := by decide +kernel
theorem dX10_putLeaf_13 : decode cX10_putLeaf 13 = .ok (.iload_n 3, 1) := by decide +kernel
theorem dX10_putLeaf_14 : decode cX10_putLeaf 14 = .ok (.invokevirtual 135, 3) := by decide +kernel
theorem dX10_putLeaf_17 : decode cX10_putLeaf 17 = .ok (.invokevirtual 138, 3) := by decide +kernel
theorem dX10_putLeaf_20 : decode cX10_putLeaf 20 = .ok (.return_, 1) := by decide +kernel
theorem dX10_putPartBegin_0 : decode cX10_putPartBegin 0 = .ok (.aload_n 1, 1) := by decide +kernel
theorem dX10_putPartBegin_1 : decode cX10_putPartBegin 1 = .ok (.iload_n 2, 1) := by decide +kernel
theorem dX10_putPartBegin_2 : decode cX10_putPartBegin 2 = .ok (.invokevirtual 115, 3) := by decide +kernel
theorem dX10_putPartBegin_5 : decode cX10_putPartBegin 5 = .ok (.istore 4, 2) := by decide +kernel
theorem dX10_putPartBegin_7 : decode cX10_putPartBegin 7 = .ok (.iload_n 3, 1) := by decide +kernel
theorem dX10_putPartBegin_8 : decode cX10_putPartBegin 8 = .ok (.ifCond .le 12, 3) := by decide +kernel
theorem dX10_putPartBegin_11 : decode cX10_putPartBegin 11 = .ok (.aload_n 0, 1) := by decide +kernel
theorem dX10_putPartBegin_12 : decode cX10_putPartBegin 12 = .ok (.bipush 44, 2) := by decide +kernel
theorem dX10_putPartBegin_14 : decode cX10_putPartBegin 14 = .ok (.invokevirtual 70, 3) := by decide +kernel
theorem dX10_putPartBegin_17 : decode cX10_putPartBegin 17 = .ok (.goto 15, 3) := by decide +kernel
theorem dX10_putPartBegin_20 : decode cX10_putPartBegin 20 = .ok (.aload_n 0, 1) := by decide +kernel
theorem dX10_putPartBegin_21 : decode cX10_putPartBegin 21 = .ok (.iload 4, 2) := by decide +kernel
theorem dX10_putPartBegin_23 : decode cX10_putPartBegin 23 = .ok (.invokevirtual 70, 3) := by decide +kernel
theorem dX10_putPartBegin_26 : decode cX10_putPartBegin 26 = .ok (.aload_n 0, 1) := by decide +kernel
theorem dX10_putPartBegin_27 : decode cX10_putPartBegin 27 = .ok (.bipush 40, 2) := by decide +kernel
theorem dX10_putPartBegin_29 : decode cX10_putPartBegin 29 = .ok (.invokevirtual 70, 3) := by decide +kernel
theorem dX10_putPartBegin_32 : decode cX10_putPartBegin 32 = .ok (.iload 4, 2) := by decide +kernel
theorem dX10_putPartBegin_34 : decode cX10_putPartBegin 34 = .ok (.bipush 76, 2) := by decide +kernel
theorem dX10_putPartBegin_36 : decode cX10_putPartBegin 36 = .ok (.if_icmp .ne 18, 3) := by decide +kernel
theorem dX10_putPartBegin_39 : decode cX10_putPartBegin 39 = .ok (.aload_n 0, 1) := by decide +kernel
theorem dX10_putPartBegin_40 : decode cX10_putPartBegin 40 = .ok (.aload_n 1, 1) := by decide +kernel
theorem dX10_putPartBegin_41 : decode cX10_putPartBegin 41 = .ok (.iload_n 2, 1) := by decide +kernel
theorem dX10_putPartBegin_42 : decode cX10_putPartBegin 42 = .ok (.invokevirtual 141, 3) := by decide +kernel
theorem dX10_putPartBegin_45 : decode cX10_putPartBegin 45 = .ok (.invokevirtual 36, 3) := by decide +kernel
theorem dX10_putPartBegin_48 : decode cX10_putPartBegin 48 = .ok (.aload_n 0, 1) := by decide +kernel
theorem dX10_putPartBegin_49 : decode cX10_putPartBegin 49 = .ok (.bipush 44, 2) := by decide +kernel
theorem dX10_putPartBegin_51 : decode cX10_putPartBegin 51 = .ok (.invokevirtual 70, 3) := by decide +kernel
theorem dX10_putPartBegin_54 : decode cX10_putPartBegin 54 = .ok (.iload 4, 2) := by decide +kernel
theorem dX10_putPartBegin_56 : decode cX10_putPartBegin 56 = .ok (.iload_n 3, 1) := by decide +kernel
theorem dX10_putPartBegin_57 : decode cX10_putPartBegin 57 = .ok (.invokestatic 118, 3) := by decide +kernel
theorem dX10_putPartBegin_60 : decode cX10_putPartBegin 60 = .ok (.ifCond .eq 22, 3) := by decide +kernel
theorem dX10_putPartBegin_63 : decode cX10_putPartBegin 63 = .ok (.aload_n 1, 1) := by decide +kernel
theorem dX10_putPartBegin_64 : decode cX10_putPartBegin 64 = .ok (.iload_n 2, 1) := by decide +kernel
theorem dX10_putPartBegin_65 : decode cX10_putPartBegin 65 = .ok (.aload_n 0, 1) := by decide +kernel
theorem dX10_putPartBegin_66 : decode cX10_putPartBegin 66 = .ok (.getfield 44, 3) := by decide +kernel
theorem dX10_putPartBegin_69 : decode cX10_putPartBegin 69 = .ok (.invokevirtual 144, 3) := by decide +kernel
theorem dX10_putPartBegin_72 : decode cX10_putPartBegin 72 = .ok (.aload_n 0, 1) := by decide +kernel
theorem dX10_putPartBegin_73 : decode cX10_putPartBegin 73 = .ok (.dup, 1) := by decide +kernel
theorem dX10_putPartBegin_74 : decode cX10_putPartBegin 74 = .ok (.getfield 44, 3) := by decide +kernel
theorem dX10_putPartBegin_77 : decode cX10_putPartBegin 77 = .ok (.iconst 1, 1) := by decide +kernel
theorem dX10_putPartBegin_78 : decode cX10_putPartBegin 78 = .ok (.iadd, 1) := by decide +kernel
theorem dX10_putPartBegin_79 : decode cX10_putPartBegin 79 = .ok (.putfield 44, 3) := by decide +kernel
theorem dX10_putPartBegin_82 : decode cX10_putPartBegin 82 = .ok (.return_, 1) := by decide +kernel
