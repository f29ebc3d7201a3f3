theorem dX2_init_0 : decode cX2_init 0 = .ok (.aload_n 0, 1) := by decide +kernel
theorem dX2_init_1 : decode cX2_init 1 = .ok (.invokespecial 3, 3) := by decide +kernel
theorem dX2_init_4 : decode cX2_init 4 = .ok (.aload_n 0, 1) := by decide +kernel
theorem dX2_init_5 : decode cX2_init 5 = .ok (.sipush 2000, 3) := by decide +kernel
theorem dX2_init_8 : decode cX2_init 8 = .ok (.newarray .byte, 2) := by decide +kernel
theorem dX2_init_10 : decode cX2_init 10 = .ok (.putfield 9, 3) := by decide +kernel
theorem dX2_init_13 : decode cX2_init 13 = .ok (.aload_n 0, 1) := by decide +kernel
theorem dX2_init_14 : decode cX2_init 14 = .ok (.sipush 2000, 3) := by decide +kernel
theorem dX2_init_17 : decode cX2_init 17 = .ok (.newarray .long, 2) := by decide +kernel
theorem dX2_init_19 : decode cX2_init 19 = .ok (.putfield 15, 3) := by decide +kernel
theorem dX2_init_22 : decode cX2_init 22 = .ok (.aload_n 0, 1) := by decide +kernel
theorem dX2_init_23 : decode cX2_init 23 = .ok (.aload_n 1, 1) := by decide +kernel
theorem dX2_init_24 : decode cX2_init 24 = .ok (.putfield 19, 3) := by decide +kernel
theorem dX2_init_27 : decode cX2_init 27 = .ok (.return_, 1) := by decide +kernel
theorem dX2_isPart_0 : decode cX2_isPart 0 = .ok (.iload_n 0, 1) := by decide +kernel
theorem dX2_isPart_1 : decode cX2_isPart 1 = .ok (.ifCond .lt 14, 3) := by decide +kernel
theorem dX2_isPart_4 : decode cX2_isPart 4 = .ok (.iload_n 0, 1) := by decide +kernel
theorem dX2_isPart_5 : decode cX2_isPart 5 = .ok (.sipush 2000, 3) := by decide +kernel
theorem dX2_isPart_8 : decode cX2_isPart 8 = .ok (.if_icmp .ge 7, 3) := by decide +kernel
theorem dX2_isPart_11 : decode cX2_isPart 11 = .ok (.iconst 1, 1) := by decide +kernel
theorem dX2_isPart_12 : decode cX2_isPart 12 = .ok (.goto 4, 3) := by decide +kernel
theorem dX2_isPart_15 : decode cX2_isPart 15 = .ok (.iconst 0, 1) := by decide +kernel
theorem dX2_isPart_16 : decode cX2_isPart 16 = .ok (.ireturn, 1) := by decide +kernel
theorem dX2_mark_0 : decode cX2_mark 0 = .ok (.iload_n 1, 1) := by decide +kernel
theorem dX2_mark_1 : decode cX2_mark 1 = .ok (.invokestatic 23, 3) := by decide +kernel
theorem dX2_mark_4 : decode cX2_mark 4 = .ok (.ifCond .eq 10, 3) := by decide +kernel
theorem dX2_mark_7 : decode cX2_mark 7 = .ok (.aload_n 0, 1) := by decide +kernel
theorem dX2_mark_8 : decode cX2_mark 8 = .ok (.getfield 9, 3) := by decide +kernel
theorem dX2_mark_11 : decode cX2_mark 11 = .ok (.iload_n 1, 1) := by decide +kernel
theorem dX2_mark_12 : decode cX2_mark 12 = .ok (.iconst 1, 1) := by decide +kernel
theorem dX2_mark_13 : decode cX2_mark 13 = .ok (.bastore, 1) := by decide +kernel
theorem dX2_mark_14 : decode cX2_mark 14 = .ok (.return_, 1) := by decide +kernel
theorem dX2_valueOf_0 : decode cX2_valueOf 0 = .ok (.iload_n 1, 1) := by decide +kernel
theorem dX2_valueOf_1 : decode cX2_valueOf 1 = .ok (.invokestatic 23, 3) := by decide +kernel
theorem dX2_valueOf_4 : decode cX2_valueOf 4 = .ok (.ifCond .eq 12, 3) := by decide +kernel
theorem dX2_valueOf_7 : decode cX2_valueOf 7 = .ok (.aload_n 0, 1) := by decide +kernel
theorem dX2_valueOf_8 : decode cX2_valueOf 8 = .ok (.getfield 15, 3) := by decide +kernel
theorem dX2_valueOf_11 : decode cX2_valueOf 11 = .ok (.iload_n 1, 1) := by decide +kernel
theorem dX2_valueOf_12 : decode cX2_valueOf 12 = .ok (.laload, 1) := by decide +kernel
theorem dX2_valueOf_13 : decode cX2_valueOf 13 = .ok (.goto 4, 3) := by decide +kernel
theorem dX2_valueOf_16 : decode cX2_valueOf 16 = .ok (.lconst 0, 1) := by decide +kernel
theorem dX2_valueOf_17 : decode cX2_valueOf 17 = .ok (.lreturn, 1) := by decide +kernel
theorem dX2_markAll_0 : decode cX2_markAll 0 = .ok (.iconst 0, 1) := by decide +kernel
theorem dX2_markAll_1 : decode cX2_markAll 1 = .ok (.istore_n 2, 1) := by decide +kernel
theorem dX2_markAll_2 : decode cX2_markAll 2 = .ok (.iload_n 2, 1) := by decide +kernel
theorem dX2_markAll_3 : decode cX2_markAll 3 = .ok (.iload_n 1, 1) := by decide +kernel
theorem dX2_markAll_4 : decode cX2_markAll 4 = .ok (.if_icmp .gt 23, 3) := by decide +kernel
theorem dX2_markAll_7 : decode cX2_markAll 7 = .ok (.iload_n 2, 1) := by decide +kernel
theorem dX2_markAll_8 : decode cX2_markAll 8 = .ok (.sipush 2000, 3) := by decide +kernel
theorem dX2_markAll_11 : decode cX2_markAll 11 = .ok (.if_icmp .ge 16, 3) := by decide +kernel
theorem dX2_markAll_14 : decode cX2_markAll 14 = .ok (.aload_n 0, 1) := by decide +kernel
theorem dX2_markAll_15 : decode cX2_markAll 15 = .ok (.getfield 9, 3) := by decide +kernel
theorem dX2_markAll_18 : decode cX2_markAll 18 = .ok (.iload_n 2, 1) := by decide +kernel
theorem dX2_markAll_19 : decode cX2_markAll 19 = .ok (.iconst 0, 1) := by decide +kernel
theorem dX2_markAll_20 : decode cX2_markAll 20 = .ok (.bastore, 1) := by decide +kernel
theorem dX2_markAll_21 : decode cX2_markAll 21 = .ok (.iinc 2 1, 3) := by decide +kernel
theorem dX2_markAll_24 : decode cX2_markAll 24 = .ok (.goto (-22), 3) := by decide +kernel
theorem dX2_markAll_27 : decode cX2_markAll 27 = .ok (.aload_n 0, 1) := by decide +kernel
theorem dX2_markAll_28 : decode cX2_markAll 28 = .ok (.iload_n 1, 1) := by decide +kernel
theorem dX2_markAll_29 : decode cX2_markAll 29 = .ok (.invokevirtual 27, 3) := by decide +kernel
theorem dX2_markAll_32 : decode cX2_markAll 32 = .ok (.iconst 0, 1) := by decide +kernel
theorem dX2_markAll_33 : decode cX2_markAll 33 = .ok (.istore_n 2, 1) := by decide +kernel
theorem dX2_markAll_34 : decode cX2_markAll 34 = .ok (.iload_n 1, 1) := by decide +kernel
theorem dX2_markAll_35 : decode cX2_markAll 35 = .ok (.sipush 1999, 3) := by decide +kernel
theorem dX2_markAll_38 : decode cX2_markAll 38 = .ok (.invokestatic 31, 3) := by decide +kernel
theorem dX2_markAll_41 : decode cX2_markAll 41 = .ok (.istore_n 3, 1) := by decide +kernel
theorem dX2_markAll_42 : decode cX2_markAll 42 = .ok (.iload_n 3, 1) := by decide +kernel
theorem dX2_markAll_43 : decode cX2_markAll 43 = .ok (.ifCond .lt 85, 3) := by decide +kernel
theorem dX2_markAll_46 : decode cX2_markAll 46 = .ok (.aload_n 0, 1) := by decide +kernel
theorem dX2_markAll_47 : decode cX2_markAll 47 = .ok (.getfield 9, 3) := by decide +kernel
theorem dX2_markAll_50 : decode cX2_markAll 50 = .ok (.iload_n 3, 1) := by decide +kernel
theorem dX2_markAll_51 : decode cX2_markAll 51 = .ok (.baload, 1) := by decide +kernel
theorem dX2_markAll_52 : decode cX2_markAll 52 = .ok (.iconst 1, 1) := by decide +kernel
theorem dX2_markAll_53 : decode cX2_markAll 53 = .ok (.if_icmp .ne 14, 3) := by decide +kernel
theorem dX2_markAll_56 : decode cX2_markAll 56 = .ok (.aload_n 0, 1) := by decide +kernel
theorem dX2_markAll_57 : decode cX2_markAll 57 = .ok (.getfield 19, 3) := by decide +kernel
theorem dX2_markAll_60 : decode cX2_markAll 60 = .ok (.iload_n 3, 1) := by decide +kernel
theorem dX2_markAll_61 : decode cX2_markAll 61 = .ok (.invokevirtual 37, 3) := by decide +kernel
theorem dX2_markAll_64 : decode cX2_markAll 64 = .ok (.goto 4, 3) := by decide +kernel
theorem dX2_markAll_67 : decode cX2_markAll 67 = .ok (.iconst 0, 1) := by decide +kernel
theorem dX2_markAll_68 : decode cX2_markAll 68 = .ok (.istore 4, 2) := by decide +kernel
theorem dX2_markAll_70 : decode cX2_markAll 70 = .ok (.iload 4, 2) := by decide +kernel
theorem dX2_markAll_72 : decode cX2_markAll 72 = .ok (.iconst 2, 1) := by decide +kernel
theorem dX2_markAll_73 : decode cX2_markAll 73 = .ok (.if_icmp .ne 19, 3) := by decide +kernel
theorem dX2_markAll_76 : decode cX2_markAll 76 = .ok (.iload_n 2, 1) := by decide +kernel
theorem dX2_markAll_77 : decode cX2_markAll 77 = .ok (.iconst 1, 1) := by decide +kernel
theorem dX2_markAll_78 : decode cX2_markAll 78 = .ok (.aload_n 0, 1) := by decide +kernel
theorem dX2_markAll_79 : decode cX2_markAll 79 = .ok (.getfield 19, 3) := by decide +kernel
theorem dX2_markAll_82 : decode cX2_markAll 82 = .ok (.iload_n 3, 1) := by decide +kernel
theorem dX2_markAll_83 : decode cX2_markAll 83 = .ok (.invokevirtual 43, 3) := by decide +kernel
theorem dX2_markAll_86 : decode cX2_markAll 86 = .ok (.ishl, 1) := by decide +kernel
theorem dX2_markAll_87 : decode cX2_markAll 87 = .ok (.ior, 1) := by decide +kernel
theorem dX2_markAll_88 : decode cX2_markAll 88 = .ok (.istore_n 2, 1) := by decide +kernel
theorem dX2_markAll_89 : decode cX2_markAll 89 = .ok (.goto 33, 3) := by decide +kernel
theorem dX2_markAll_92 : decode cX2_markAll 92 = .ok (.iload 4, 2) := by decide +kernel
theorem dX2_markAll_94 : decode cX2_markAll 94 = .ok (.iconst 3, 1) := by decide +kernel
theorem dX2_markAll_95 : decode cX2_markAll 95 = .ok (.if_icmp .lt 27, 3) := by decide +kernel
theorem dX2_markAll_98 : decode cX2_markAll 98 = .ok (.aload_n 0, 1) := by decide +kernel
theorem dX2_markAll_99 : decode cX2_markAll 99 = .ok (.aload_n 0, 1) := by decide +kernel
theorem dX2_markAll_100 : decode cX2_markAll 100 = .ok (.getfield 19, 3) := by decide +kernel
theorem dX2_markAll_103 : decode cX2_markAll 103 = .ok (.iload_n 3, 1) := by decide +kernel
theorem dX2_markAll_104 : decode cX2_markAll 104 = .ok (.invokevirtual 43, 3) := by decide +kernel
theorem dX2_markAll_107 : decode cX2_markAll 107 = .ok (.invokevirtual 27, 3) := by decide +kernel
theorem dX2_markAll_110 : decode cX2_markAll 110 = .ok (.aload_n 0, 1) := by decide +kernel
theorem dX2_markAll_111 : decode cX2_markAll 111 = .ok (.aload_n 0, 1) := by decide +kernel
theorem dX2_markAll_112 : decode cX2_markAll 112 = .ok (.getfield 19, 3) := by decide +kernel
theorem dX2_markAll_115 : decode cX2_markAll 115 = .ok (.iload_n 3, 1) := by decide +kernel
theorem dX2_markAll_116 : decode cX2_markAll 116 = .ok (.invokevirtual 46, 3) := by decide +kernel
theorem dX2_markAll_119 : decode cX2_markAll 119 = .ok (.invokevirtual 27, 3) := by decide +kernel
theorem dX2_markAll_122 : decode cX2_markAll 122 = .ok (.iinc 3 (-1), 3) := by decide +kernel
theorem dX2_markAll_125 : decode cX2_markAll 125 = .ok (.goto (-83), 3) := by decide +kernel
theorem dX2_markAll_128 : decode cX2_markAll 128 = .ok (.iload_n 2, 1) := by decide +kernel
theorem dX2_markAll_129 : decode cX2_markAll 129 = .ok (.ireturn, 1) := by decide +kernel
theorem dX2_byAllAssignments_0 : decode cX2_byAllAssignments 0 = .ok (.aload_n 0, 1) := by decide +kernel
theorem dX2_byAllAssignments_1 : decode cX2_byAllAssignments 1 = .ok (.iload_n 1, 1) := by decide +kernel
theorem dX2_byAllAssignments_2 : decode cX2_byAllAssignments 2 = .ok (.invokevirtual 49, 3) := by decide +kernel
theorem dX2_byAllAssignments_5 : decode cX2_byAllAssignments 5 = .ok (.istore_n 2, 1) := by decide +kernel
theorem dX2_byAllAssignments_6 : decode cX2_byAllAssignments 6 = .ok (.iload_n 2, 1) := by decide +kernel
theorem dX2_byAllAssignments_7 : decode cX2_byAllAssignments 7 = .ok (.invokestatic 52, 3) := by decide +kernel
theorem dX2_byAllAssignments_10 : decode cX2_byAllAssignments 10 = .ok (.istore_n 3, 1) := by decide +kernel
theorem dX2_byAllAssignments_11 : decode cX2_byAllAssignments 11 = .ok (.iload_n 3, 1) := by decide +kernel
theorem dX2_byAllAssignments_12 : decode cX2_byAllAssignments 12 = .ok (.bipush 12, 2) := by decide +kernel
theorem dX2_byAllAssignments_14 : decode cX2_byAllAssignments 14 = .ok (.if_icmp .le 6, 3) := by decide +kernel
theorem dX2_byAllAssignments_17 : decode cX2_byAllAssignments 17 = .ok (.bipush (-4), 2) := by decide +kernel
theorem dX2_byAllAssignments_19 : decode cX2_byAllAssignments 19 = .ok (.ireturn, 1) := by decide +kernel
theorem dX2_byAllAssignments_20 : decode cX2_byAllAssignments 20 = .ok (.iload_n 3, 1) := by decide +kernel
theorem dX2_byAllAssignments_21 : decode cX2_byAllAssignments 21 = .ok (.bipush 6, 2) := by decide +kernel
theorem dX2_byAllAssignments_23 : decode cX2_byAllAssignments 23 = .ok (.if_icmp .le 12, 3) := by decide +kernel
theorem dX2_byAllAssignments_26 : decode cX2_byAllAssignments 26 = .ok (.iconst 1, 1) := by decide +kernel
theorem dX2_byAllAssignments_27 : decode cX2_byAllAssignments 27 = .ok (.iload_n 3, 1) := by decide +kernel
theorem dX2_byAllAssignments_28 : decode cX2_byAllAssignments 28 = .ok (.bipush 6, 2) := by decide +kernel
theorem dX2_byAllAssignments_30 : decode cX2_byAllAssignments 30 = .ok (.isub, 1) := by decide +kernel
theorem dX2_byAllAssignments_31 : decode cX2_byAllAssignments 31 = .ok (.ishl, 1) := by decide +kernel
theorem dX2_byAllAssignments_32 : decode cX2_byAllAssignments 32 = .ok (.goto 4, 3) := by decide +kernel
theorem dX2_byAllAssignments_35 : decode cX2_byAllAssignments 35 = .ok (.iconst 1, 1) := by decide +kernel
theorem dX2_byAllAssignments_36 : decode cX2_byAllAssignments 36 = .ok (.istore 4, 2) := by decide +kernel
theorem dX2_byAllAssignments_38 : decode cX2_byAllAssignments 38 = .ok (.iconst 0, 1) := by decide +kernel
theorem dX2_byAllAssignments_39 : decode cX2_byAllAssignments 39 = .ok (.istore 5, 2) := by decide +kernel
theorem dX2_byAllAssignments_41 : decode cX2_byAllAssignments 41 = .ok (.iload 5, 2) := by decide +kernel
theorem dX2_byAllAssignments_43 : decode cX2_byAllAssignments 43 = .ok (.iload 4, 2) := by decide +kernel
theorem dX2_byAllAssignments_45 : decode cX2_byAllAssignments 45 = .ok (.if_icmp .ge 73, 3) := by decide +kernel
theorem dX2_byAllAssignments_48 : decode cX2_byAllAssignments 48 = .ok (.iconst 0, 1) := by decide +kernel
theorem dX2_byAllAssignments_49 : decode cX2_byAllAssignments 49 = .ok (.istore 6, 2) := by decide +kernel
theorem dX2_byAllAssignments_51 : decode cX2_byAllAssignments 51 = .ok (.iload 6, 2) := by decide +kernel
theorem dX2_byAllAssignments_53 : decode cX2_byAllAssignments 53 = .ok (.iload_n 1, 1) := by decide +kernel
theorem dX2_byAllAssignments_54 : decode cX2_byAllAssignments 54 = .ok (.if_icmp .gt 44, 3) := by decide +kernel
theorem dX2_byAllAssignments_57 : decode cX2_byAllAssignments 57 = .ok (.iload 6, 2) := by decide +kernel
theorem dX2_byAllAssignments_59 : decode cX2_byAllAssignments 59 = .ok (.sipush 2000, 3) := by decide +kernel
theorem dX2_byAllAssignments_62 : decode cX2_byAllAssignments 62 = .ok (.if_icmp .ge 36, 3) := by decide +kernel
theorem dX2_byAllAssignments_65 : decode cX2_byAllAssignments 65 = .ok (.aload_n 0, 1) := by decide +kernel
theorem dX2_byAllAssignments_66 : decode cX2_byAllAssignments 66 = .ok (.getfield 9, 3) := by decide +kernel
theorem dX2_byAllAssignments_69 : decode cX2_byAllAssignments 69 = .ok (.iload 6, 2) := by decide +kernel
theorem dX2_byAllAssignments_71 : decode cX2_byAllAssignments 71 = .ok (.baload, 1) := by decide +kernel
theorem dX2_byAllAssignments_72 : decode cX2_byAllAssignments 72 = .ok (.iconst 1, 1) := by decide +kernel
theorem dX2_byAllAssignments_73 : decode cX2_byAllAssignments 73 = .ok (.if_icmp .ne 19, 3) := by decide +kernel
theorem dX2_byAllAssignments_76 : decode cX2_byAllAssignments 76 = .ok (.aload_n 0, 1) := by decide +kernel
theorem dX2_byAllAssignments_77 : decode cX2_byAllAssignments 77 = .ok (.getfield 15, 3) := by decide +kernel
theorem dX2_byAllAssignments_80 : decode cX2_byAllAssignments 80 = .ok (.iload 6, 2) := by decide +kernel
theorem dX2_byAllAssignments_82 : decode cX2_byAllAssignments 82 = .ok (.aload_n 0, 1) := by decide +kernel
theorem dX2_byAllAssignments_83 : decode cX2_byAllAssignments 83 = .ok (.iload 6, 2) := by decide +kernel
theorem dX2_byAllAssignments_85 : decode cX2_byAllAssignments 85 = .ok (.iload_n 2, 1) := by decide +kernel
theorem dX2_byAllAssignments_86 : decode cX2_byAllAssignments 86 = .ok (.iload 5, 2) := by decide +kernel
theorem dX2_byAllAssignments_88 : decode cX2_byAllAssignments 88 = .ok (.invokevirtual 57, 3) := by decide +kernel
theorem dX2_byAllAssignments_91 : decode cX2_byAllAssignments 91 = .ok (.lastore, 1) := by decide +kernel
theorem dX2_byAllAssignments_92 : decode cX2_byAllAssignments 92 = .ok (.iinc 6 1, 3) := by decide +kernel
theorem dX2_byAllAssignments_95 : decode cX2_byAllAssignments 95 = .ok (.goto (-44), 3) := by decide +kernel
theorem dX2_byAllAssignments_98 : decode cX2_byAllAssignments 98 = .ok (.aload_n 0, 1) := by decide +kernel
theorem dX2_byAllAssignments_99 : decode cX2_byAllAssignments 99 = .ok (.iload_n 1, 1) := by decide +kernel
theorem dX2_byAllAssignments_100 : decode cX2_byAllAssignments 100 = .ok (.invokevirtual 61, 3) := by decide +kernel
theorem dX2_byAllAssignments_103 : decode cX2_byAllAssignments 103 = .ok (.ldc2_w 65, 3) := by decide +kernel
theorem dX2_byAllAssignments_106 : decode cX2_byAllAssignments 106 = .ok (.lcmp, 1) := by decide +kernel
theorem dX2_byAllAssignments_107 : decode cX2_byAllAssignments 107 = .ok (.ifCond .eq 5, 3) := by decide +kernel
theorem dX2_byAllAssignments_110 : decode cX2_byAllAssignments 110 = .ok (.iconst 0, 1) := by decide +kernel
theorem dX2_byAllAssignments_111 : decode cX2_byAllAssignments 111 = .ok (.ireturn, 1) := by decide +kernel
theorem dX2_byAllAssignments_112 : decode cX2_byAllAssignments 112 = .ok (.iinc 5 1, 3) := by decide +kernel
theorem dX2_byAllAssignments_115 : decode cX2_byAllAssignments 115 = .ok (.goto (-74), 3) := by decide +kernel
theorem dX2_byAllAssignments_118 : decode cX2_byAllAssignments 118 = .ok (.iconst 1, 1) := by decide +kernel
theorem dX2_byAllAssignments_119 : decode cX2_byAllAssignments 119 = .ok (.ireturn, 1) := by decide +kernel
theorem dX2_valueBy_0 : decode cX2_valueBy 0 = .ok (.aload_n 0, 1) := by decide +kernel
theorem dX2_valueBy_1 : decode cX2_valueBy 1 = .ok (.getfield 19, 3) := by decide +kernel
theorem dX2_valueBy_4 : decode cX2_valueBy 4 = .ok (.iload_n 1, 1) := by decide +kernel
theorem dX2_valueBy_5 : decode cX2_valueBy 5 = .ok (.invokevirtual 37, 3) := by decide +kernel
theorem dX2_valueBy_8 : decode cX2_valueBy 8 = .ok (.lookupswitch 52 #[(2, 28), (5, 42)], 28) := by decide +kernel
theorem dX2_valueBy_36 : decode cX2_valueBy 36 = .ok (.aload_n 0, 1) := by decide +kernel
theorem dX2_valueBy_37 : decode cX2_valueBy 37 = .ok (.getfield 19, 3) := by decide +kernel
theorem dX2_valueBy_40 : decode cX2_valueBy 40 = .ok (.iload_n 1, 1) := by decide +kernel
theorem dX2_valueBy_41 : decode cX2_valueBy 41 = .ok (.invokevirtual 43, 3) := by decide +kernel
theorem dX2_valueBy_44 : decode cX2_valueBy 44 = .ok (.iload_n 2, 1) := by decide +kernel
theorem dX2_valueBy_45 : decode cX2_valueBy 45 = .ok (.iload_n 3, 1) := by decide +kernel
theorem dX2_valueBy_46 : decode cX2_valueBy 46 = .ok (.invokestatic 67, 3) := by decide +kernel
theorem dX2_valueBy_49 : decode cX2_valueBy 49 = .ok (.lreturn, 1) := by decide +kernel
theorem dX2_valueBy_50 : decode cX2_valueBy 50 = .ok (.aload_n 0, 1) := by decide +kernel
theorem dX2_valueBy_51 : decode cX2_valueBy 51 = .ok (.iload_n 1, 1) := by decide +kernel
theorem dX2_valueBy_52 : decode cX2_valueBy 52 = .ok (.invokevirtual 70, 3) := by decide +kernel
theorem dX2_valueBy_55 : decode cX2_valueBy 55 = .ok (.ldc2_w 65, 3) := by decide +kernel
theorem dX2_valueBy_58 : decode cX2_valueBy 58 = .ok (.lxor, 1) := by decide +kernel
theorem dX2_valueBy_59 : decode cX2_valueBy 59 = .ok (.lreturn, 1) := by decide +kernel
theorem dX2_valueBy_60 : decode cX2_valueBy 60 = .ok (.aload_n 0, 1) := by decide +kernel
theorem dX2_valueBy_61 : decode cX2_valueBy 61 = .ok (.iload_n 1, 1) := by decide +kernel
theorem dX2_valueBy_62 : decode cX2_valueBy 62 = .ok (.invokevirtual 73, 3) := by decide +kernel
theorem dX2_valueBy_65 : decode cX2_valueBy 65 = .ok (.lreturn, 1) := by decide +kernel
theorem dX2_assigned_0 : decode cX2_assigned 0 = .ok (.iload_n 1, 1) := by decide +kernel
theorem dX2_assigned_1 : decode cX2_assigned 1 = .ok (.iconst 1, 1) := by decide +kernel
theorem dX2_assigned_2 : decode cX2_assigned 2 = .ok (.iload_n 0, 1) := by decide +kernel
theorem dX2_assigned_3 : decode cX2_assigned 3 = .ok (.ishl, 1) := by decide +kernel
theorem dX2_assigned_4 : decode cX2_assigned 4 = .ok (.iconst 1, 1) := by decide +kernel
theorem dX2_assigned_5 : decode cX2_assigned 5 = .ok (.isub, 1) := by decide +kernel
theorem dX2_assigned_6 : decode cX2_assigned 6 = .ok (.iand, 1) := by decide +kernel
theorem dX2_assigned_7 : decode cX2_assigned 7 = .ok (.invokestatic 52, 3) := by decide +kernel
theorem dX2_assigned_10 : decode cX2_assigned 10 = .ok (.istore_n 3, 1) := by decide +kernel
theorem dX2_assigned_11 : decode cX2_assigned 11 = .ok (.iload_n 3, 1) := by decide +kernel
theorem dX2_assigned_12 : decode cX2_assigned 12 = .ok (.ifCond .lt 17, 3) := by decide +kernel
theorem dX2_assigned_15 : decode cX2_assigned 15 = .ok (.iload_n 3, 1) := by decide +kernel
theorem dX2_assigned_16 : decode cX2_assigned 16 = .ok (.getstatic 76, 3) := by decide +kernel
theorem dX2_assigned_19 : decode cX2_assigned 19 = .ok (.arraylength, 1) := by decide +kernel
theorem dX2_assigned_20 : decode cX2_assigned 20 = .ok (.if_icmp .ge 9, 3) := by decide +kernel
theorem dX2_assigned_23 : decode cX2_assigned 23 = .ok (.getstatic 76, 3) := by decide +kernel
theorem dX2_assigned_26 : decode cX2_assigned 26 = .ok (.iload_n 3, 1) := by decide +kernel
theorem dX2_assigned_27 : decode cX2_assigned 27 = .ok (.laload, 1) := by decide +kernel
theorem dX2_assigned_28 : decode cX2_assigned 28 = .ok (.lreturn, 1) := by decide +kernel
theorem dX2_assigned_29 : decode cX2_assigned 29 = .ok (.iload_n 2, 1) := by decide +kernel
theorem dX2_assigned_30 : decode cX2_assigned 30 = .ok (.iload_n 3, 1) := by decide +kernel
theorem dX2_assigned_31 : decode cX2_assigned 31 = .ok (.getstatic 76, 3) := by decide +kernel
theorem dX2_assigned_34 : decode cX2_assigned 34 = .ok (.arraylength, 1) := by decide +kernel
theorem dX2_assigned_35 : decode cX2_assigned 35 = .ok (.isub, 1) := by decide +kernel
theorem dX2_assigned_36 : decode cX2_assigned 36 = .ok (.iushr, 1) := by decide +kernel
theorem dX2_assigned_37 : decode cX2_assigned 37 = .ok (.iconst 1, 1) := by decide +kernel
theorem dX2_assigned_38 : decode cX2_assigned 38 = .ok (.iand, 1) := by decide +kernel
theorem dX2_assigned_39 : decode cX2_assigned 39 = .ok (.iconst 1, 1) := by decide +kernel
theorem dX2_assigned_40 : decode cX2_assigned 40 = .ok (.if_icmp .ne 9, 3) := by decide +kernel
theorem dX2_assigned_43 : decode cX2_assigned 43 = .ok (.ldc2_w 65, 3) := by decide +kernel
theorem dX2_assigned_46 : decode cX2_assigned 46 = .ok (.goto 4, 3) := by decide +kernel
theorem dX2_assigned_49 : decode cX2_assigned 49 = .ok (.lconst 0, 1) := by decide +kernel
theorem dX2_assigned_50 : decode cX2_assigned 50 = .ok (.lreturn, 1) := by decide +kernel
theorem dX2_inWorlds_0 : decode cX2_inWorlds 0 = .ok (.aload_n 0, 1) := by decide +kernel
theorem dX2_inWorlds_1 : decode cX2_inWorlds 1 = .ok (.iload_n 1, 1) := by decide +kernel
theorem dX2_inWorlds_2 : decode cX2_inWorlds 2 = .ok (.invokevirtual 49, 3) := by decide +kernel
theorem dX2_inWorlds_5 : decode cX2_inWorlds 5 = .ok (.pop, 1) := by decide +kernel
theorem dX2_inWorlds_6 : decode cX2_inWorlds 6 = .ok (.iconst 0, 1) := by decide +kernel
theorem dX2_inWorlds_7 : decode cX2_inWorlds 7 = .ok (.istore_n 3, 1) := by decide +kernel
theorem dX2_inWorlds_8 : decode cX2_inWorlds 8 = .ok (.iload_n 3, 1) := by decide +kernel
theorem dX2_inWorlds_9 : decode cX2_inWorlds 9 = .ok (.iload_n 1, 1) := by decide +kernel
theorem dX2_inWorlds_10 : decode cX2_inWorlds 10 = .ok (.if_icmp .gt 38, 3) := by decide +kernel
theorem dX2_inWorlds_13 : decode cX2_inWorlds 13 = .ok (.iload_n 3, 1) := by decide +kernel
theorem dX2_inWorlds_14 : decode cX2_inWorlds 14 = .ok (.sipush 2000, 3) := by decide +kernel
theorem dX2_inWorlds_17 : decode cX2_inWorlds 17 = .ok (.if_icmp .ge 31, 3) := by decide +kernel
theorem dX2_inWorlds_20 : decode cX2_inWorlds 20 = .ok (.aload_n 0, 1) := by decide +kernel
theorem dX2_inWorlds_21 : decode cX2_inWorlds 21 = .ok (.getfield 9, 3) := by decide +kernel
theorem dX2_inWorlds_24 : decode cX2_inWorlds 24 = .ok (.iload_n 3, 1) := by decide +kernel
theorem dX2_inWorlds_25 : decode cX2_inWorlds 25 = .ok (.baload, 1) := by decide +kernel
theorem dX2_inWorlds_26 : decode cX2_inWorlds 26 = .ok (.iconst 1, 1) := by decide +kernel
theorem dX2_inWorlds_27 : decode cX2_inWorlds 27 = .ok (.if_icmp .ne 15, 3) := by decide +kernel
theorem dX2_inWorlds_30 : decode cX2_inWorlds 30 = .ok (.aload_n 0, 1) := by decide +kernel
theorem dX2_inWorlds_31 : decode cX2_inWorlds 31 = .ok (.getfield 15, 3) := by decide +kernel
theorem dX2_inWorlds_34 : decode cX2_inWorlds 34 = .ok (.iload_n 3, 1) := by decide +kernel
theorem dX2_inWorlds_35 : decode cX2_inWorlds 35 = .ok (.aload_n 0, 1) := by decide +kernel
theorem dX2_inWorlds_36 : decode cX2_inWorlds 36 = .ok (.iload_n 3, 1) := by decide +kernel
theorem dX2_inWorlds_37 : decode cX2_inWorlds 37 = .ok (.aload_n 2, 1) := by decide +kernel
theorem dX2_inWorlds_38 : decode cX2_inWorlds 38 = .ok (.invokevirtual 79, 3) := by decide +kernel
theorem dX2_inWorlds_41 : decode cX2_inWorlds 41 = .ok (.lastore, 1) := by decide +kernel
theorem dX2_inWorlds_42 : decode cX2_inWorlds 42 = .ok (.iinc 3 1, 3) := by decide +kernel
theorem dX2_inWorlds_45 : decode cX2_inWorlds 45 = .ok (.goto (-37), 3) := by decide +kernel
theorem dX2_inWorlds_48 : decode cX2_inWorlds 48 = .ok (.aload_n 0, 1) := by decide +kernel
theorem dX2_inWorlds_49 : decode cX2_inWorlds 49 = .ok (.iload_n 1, 1) := by decide +kernel
theorem dX2_inWorlds_50 : decode cX2_inWorlds 50 = .ok (.invokevirtual 61, 3) := by decide +kernel
theorem dX2_inWorlds_53 : decode cX2_inWorlds 53 = .ok (.lreturn, 1) := by decide +kernel
theorem dX2_valueIn_0 : decode cX2_valueIn 0 = .ok (.aload_n 0, 1) := by decide +kernel
theorem dX2_valueIn_1 : decode cX2_valueIn 1 = .ok (.getfield 19, 3) := by decide +kernel
theorem dX2_valueIn_4 : decode cX2_valueIn 4 = .ok (.iload_n 1, 1) := by decide +kernel
theorem dX2_valueIn_5 : decode cX2_valueIn 5 = .ok (.invokevirtual 37, 3) := by decide +kernel
theorem dX2_valueIn_8 : decode cX2_valueIn 8 = .ok (.lookupswitch 55 #[(2, 28), (5, 41)], 28) := by decide +kernel
theorem dX2_valueIn_36 : decode cX2_valueIn 36 = .ok (.aload_n 2, 1) := by decide +kernel
theorem dX2_valueIn_37 : decode cX2_valueIn 37 = .ok (.aload_n 0, 1) := by decide +kernel
theorem dX2_valueIn_38 : decode cX2_valueIn 38 = .ok (.getfield 19, 3) := by decide +kernel
theorem dX2_valueIn_41 : decode cX2_valueIn 41 = .ok (.iload_n 1, 1) := by decide +kernel
theorem dX2_valueIn_42 : decode cX2_valueIn 42 = .ok (.invokevirtual 43, 3) := by decide +kernel
theorem dX2_valueIn_45 : decode cX2_valueIn 45 = .ok (.invokevirtual 83, 3) := by decide +kernel
theorem dX2_valueIn_48 : decode cX2_valueIn 48 = .ok (.lreturn, 1) := by decide +kernel
theorem dX2_valueIn_49 : decode cX2_valueIn 49 = .ok (.aload_n 2, 1) := by decide +kernel
theorem dX2_valueIn_50 : decode cX2_valueIn 50 = .ok (.aload_n 0, 1) := by decide +kernel
theorem dX2_valueIn_51 : decode cX2_valueIn 51 = .ok (.iload_n 1, 1) := by decide +kernel
theorem dX2_valueIn_52 : decode cX2_valueIn 52 = .ok (.invokevirtual 70, 3) := by decide +kernel
theorem dX2_valueIn_55 : decode cX2_valueIn 55 = .ok (.invokevirtual 88, 3) := by decide +kernel
theorem dX2_valueIn_58 : decode cX2_valueIn 58 = .ok (.ldc2_w 65, 3) := by decide +kernel
theorem dX2_valueIn_61 : decode cX2_valueIn 61 = .ok (.lxor, 1) := by decide +kernel
theorem dX2_valueIn_62 : decode cX2_valueIn 62 = .ok (.lreturn, 1) := by decide +kernel
theorem dX2_valueIn_63 : decode cX2_valueIn 63 = .ok (.aload_n 0, 1) := by decide +kernel
theorem dX2_valueIn_64 : decode cX2_valueIn 64 = .ok (.iload_n 1, 1) := by decide +kernel
theorem dX2_valueIn_65 : decode cX2_valueIn 65 = .ok (.invokevirtual 73, 3) := by decide +kernel
theorem dX2_valueIn_68 : decode cX2_valueIn 68 = .ok (.lreturn, 1) := by decide +kernel
theorem dX2_simpleValue_0 : decode cX2_simpleValue 0 = .ok (.aload_n 0, 1) := by decide +kernel
theorem dX2_simpleValue_1 : decode cX2_simpleValue 1 = .ok (.aload_n 0, 1) := by decide +kernel
theorem dX2_simpleValue_2 : decode cX2_simpleValue 2 = .ok (.getfield 19, 3) := by decide +kernel
theorem dX2_simpleValue_5 : decode cX2_simpleValue 5 = .ok (.iload_n 1, 1) := by decide +kernel
theorem dX2_simpleValue_6 : decode cX2_simpleValue 6 = .ok (.invokevirtual 43, 3) := by decide +kernel
theorem dX2_simpleValue_9 : decode cX2_simpleValue 9 = .ok (.invokevirtual 61, 3) := by decide +kernel
theorem dX2_simpleValue_12 : decode cX2_simpleValue 12 = .ok (.lstore_n 2, 1) := by decide +kernel
theorem dX2_simpleValue_13 : decode cX2_simpleValue 13 = .ok (.aload_n 0, 1) := by decide +kernel
theorem dX2_simpleValue_14 : decode cX2_simpleValue 14 = .ok (.aload_n 0, 1) := by decide +kernel
theorem dX2_simpleValue_15 : decode cX2_simpleValue 15 = .ok (.getfield 19, 3) := by decide +kernel
theorem dX2_simpleValue_18 : decode cX2_simpleValue 18 = .ok (.iload_n 1, 1) := by decide +kernel
theorem dX2_simpleValue_19 : decode cX2_simpleValue 19 = .ok (.invokevirtual 46, 3) := by decide +kernel
theorem dX2_simpleValue_22 : decode cX2_simpleValue 22 = .ok (.invokevirtual 61, 3) := by decide +kernel
theorem dX2_simpleValue_25 : decode cX2_simpleValue 25 = .ok (.lstore 4, 2) := by decide +kernel
theorem dX2_simpleValue_27 : decode cX2_simpleValue 27 = .ok (.aload_n 0, 1) := by decide +kernel
theorem dX2_simpleValue_28 : decode cX2_simpleValue 28 = .ok (.getfield 19, 3) := by decide +kernel
theorem dX2_simpleValue_31 : decode cX2_simpleValue 31 = .ok (.iload_n 1, 1) := by decide +kernel
theorem dX2_simpleValue_32 : decode cX2_simpleValue 32 = .ok (.invokevirtual 37, 3) := by decide +kernel
theorem dX2_simpleValue_35 : decode cX2_simpleValue 35 = .ok (.tableswitch 43 1 4 #[29, 43, 33, 38], 29) := by decide +kernel
theorem dX2_simpleValue_64 : decode cX2_simpleValue 64 = .ok (.ldc2_w 65, 3) := by decide +kernel
theorem dX2_simpleValue_67 : decode cX2_simpleValue 67 = .ok (.lreturn, 1) := by decide +kernel
theorem dX2_simpleValue_68 : decode cX2_simpleValue 68 = .ok (.lload_n 2, 1) := by decide +kernel
theorem dX2_simpleValue_69 : decode cX2_simpleValue 69 = .ok (.lload 4, 2) := by decide +kernel
theorem dX2_simpleValue_71 : decode cX2_simpleValue 71 = .ok (.land, 1) := by decide +kernel
theorem dX2_simpleValue_72 : decode cX2_simpleValue 72 = .ok (.lreturn, 1) := by decide +kernel
theorem dX2_simpleValue_73 : decode cX2_simpleValue 73 = .ok (.lload_n 2, 1) := by decide +kernel
theorem dX2_simpleValue_74 : decode cX2_simpleValue 74 = .ok (.lload 4, 2) := by decide +kernel
theorem dX2_simpleValue_76 : decode cX2_simpleValue 76 = .ok (.lor, 1) := by decide +kernel
theorem dX2_simpleValue_77 : decode cX2_simpleValue 77 = .ok (.lreturn, 1) := by decide +kernel
theorem dX2_simpleValue_78 : decode cX2_simpleValue 78 = .ok (.lconst 0, 1) := by decide +kernel
theorem dX2_simpleValue_79 : decode cX2_simpleValue 79 = .ok (.lreturn, 1) := by decide +kernel
theorem dX2_failing_0 : decode cX2_failing 0 = .ok (.aload_n 0, 1) := by decide +kernel
theorem dX2_failing_1 : decode cX2_failing 1 = .ok (.aload_n 0, 1) := by decide +kernel
theorem dX2_failing_2 : decode cX2_failing 2 = .ok (.getfield 19, 3) := by decide +kernel
theorem dX2_failing_5 : decode cX2_failing 5 = .ok (.iload_n 1, 1) := by decide +kernel
theorem dX2_failing_6 : decode cX2_failing 6 = .ok (.invokevirtual 43, 3) := by decide +kernel
theorem dX2_failing_9 : decode cX2_failing 9 = .ok (.invokevirtual 61, 3) := by decide +kernel
theorem dX2_failing_12 : decode cX2_failing 12 = .ok (.aload_n 0, 1) := by decide +kernel
theorem dX2_failing_13 : decode cX2_failing 13 = .ok (.aload_n 0, 1) := by decide +kernel
theorem dX2_failing_14 : decode cX2_failing 14 = .ok (.getfield 19, 3) := by decide +kernel
theorem dX2_failing_17 : decode cX2_failing 17 = .ok (.iload_n 1, 1) := by decide +kernel
theorem dX2_failing_18 : decode cX2_failing 18 = .ok (.invokevirtual 46, 3) := by decide +kernel
theorem dX2_failing_21 : decode cX2_failing 21 = .ok (.invokevirtual 61, 3) := by decide +kernel
theorem dX2_failing_24 : decode cX2_failing 24 = .ok (.ldc2_w 65, 3) := by decide +kernel
theorem dX2_failing_27 : decode cX2_failing 27 = .ok (.lxor, 1) := by decide +kernel
theorem dX2_failing_28 : decode cX2_failing 28 = .ok (.land, 1) := by decide +kernel
theorem dX2_failing_29 : decode cX2_failing 29 = .ok (.lreturn, 1) := by decide +kernel
