theorem dX5_init_0 : decode cX5_init 0 = .ok (.aload_n 0, 1) := by decide +kernel
theorem dX5_init_1 : decode cX5_init 1 = .ok (.invokespecial 3, 3) := by decide +kernel
theorem dX5_init_4 : decode cX5_init 4 = .ok (.aload_n 0, 1) := by decide +kernel
theorem dX5_init_5 : decode cX5_init 5 = .ok (.new 9, 3) := by decide +kernel
theorem dX5_init_8 : decode cX5_init 8 = .ok (.dup, 1) := by decide +kernel
theorem dX5_init_9 : decode cX5_init 9 = .ok (.sipush 30027, 3) := by decide +kernel
theorem dX5_init_12 : decode cX5_init 12 = .ok (.invokespecial 13, 3) := by decide +kernel
theorem dX5_init_15 : decode cX5_init 15 = .ok (.putfield 16, 3) := by decide +kernel
theorem dX5_init_18 : decode cX5_init 18 = .ok (.aload_n 0, 1) := by decide +kernel
theorem dX5_init_19 : decode cX5_init 19 = .ok (.new 20, 3) := by decide +kernel
theorem dX5_init_22 : decode cX5_init 22 = .ok (.dup, 1) := by decide +kernel
theorem dX5_init_23 : decode cX5_init 23 = .ok (.invokespecial 22, 3) := by decide +kernel
theorem dX5_init_26 : decode cX5_init 26 = .ok (.putfield 23, 3) := by decide +kernel
theorem dX5_init_29 : decode cX5_init 29 = .ok (.aload_n 0, 1) := by decide +kernel
theorem dX5_init_30 : decode cX5_init 30 = .ok (.new 27, 3) := by decide +kernel
theorem dX5_init_33 : decode cX5_init 33 = .ok (.dup, 1) := by decide +kernel
theorem dX5_init_34 : decode cX5_init 34 = .ok (.invokespecial 29, 3) := by decide +kernel
theorem dX5_init_37 : decode cX5_init 37 = .ok (.putfield 30, 3) := by decide +kernel
theorem dX5_init_40 : decode cX5_init 40 = .ok (.aload_n 0, 1) := by decide +kernel
theorem dX5_init_41 : decode cX5_init 41 = .ok (.sipush 200, 3) := by decide +kernel
theorem dX5_init_44 : decode cX5_init 44 = .ok (.newarray .int, 2) := by decide +kernel
theorem dX5_init_46 : decode cX5_init 46 = .ok (.putfield 34, 3) := by decide +kernel
theorem dX5_init_49 : decode cX5_init 49 = .ok (.aload_n 0, 1) := by decide +kernel
theorem dX5_init_50 : decode cX5_init 50 = .ok (.sipush 200, 3) := by decide +kernel
theorem dX5_init_53 : decode cX5_init 53 = .ok (.newarray .int, 2) := by decide +kernel
theorem dX5_init_55 : decode cX5_init 55 = .ok (.putfield 38, 3) := by decide +kernel
theorem dX5_init_58 : decode cX5_init 58 = .ok (.aload_n 0, 1) := by decide +kernel
theorem dX5_init_59 : decode cX5_init 59 = .ok (.sipush 200, 3) := by decide +kernel
theorem dX5_init_62 : decode cX5_init 62 = .ok (.newarray .int, 2) := by decide +kernel
theorem dX5_init_64 : decode cX5_init 64 = .ok (.putfield 41, 3) := by decide +kernel
theorem dX5_init_67 : decode cX5_init 67 = .ok (.aload_n 0, 1) := by decide +kernel
theorem dX5_init_68 : decode cX5_init 68 = .ok (.sipush 200, 3) := by decide +kernel
theorem dX5_init_71 : decode cX5_init 71 = .ok (.newarray .int, 2) := by decide +kernel
theorem dX5_init_73 : decode cX5_init 73 = .ok (.putfield 44, 3) := by decide +kernel
theorem dX5_init_76 : decode cX5_init 76 = .ok (.aload_n 0, 1) := by decide +kernel
theorem dX5_init_77 : decode cX5_init 77 = .ok (.bipush (-3), 2) := by decide +kernel
theorem dX5_init_79 : decode cX5_init 79 = .ok (.putfield 47, 3) := by decide +kernel
theorem dX5_init_82 : decode cX5_init 82 = .ok (.aload_n 0, 1) := by decide +kernel
theorem dX5_init_83 : decode cX5_init 83 = .ok (.iconst (-1), 1) := by decide +kernel
theorem dX5_init_84 : decode cX5_init 84 = .ok (.putfield 51, 3) := by decide +kernel
theorem dX5_init_87 : decode cX5_init 87 = .ok (.aload_n 0, 1) := by decide +kernel
theorem dX5_init_88 : decode cX5_init 88 = .ok (.aload_n 1, 1) := by decide +kernel
theorem dX5_init_89 : decode cX5_init 89 = .ok (.putfield 54, 3) := by decide +kernel
theorem dX5_init_92 : decode cX5_init 92 = .ok (.return_, 1) := by decide +kernel
theorem dX5_run_0 : decode cX5_run 0 = .ok (.aload_n 0, 1) := by decide +kernel
theorem dX5_run_1 : decode cX5_run 1 = .ok (.iload 4, 2) := by decide +kernel
theorem dX5_run_3 : decode cX5_run 3 = .ok (.putfield 58, 3) := by decide +kernel
theorem dX5_run_6 : decode cX5_run 6 = .ok (.aload_n 0, 1) := by decide +kernel
theorem dX5_run_7 : decode cX5_run 7 = .ok (.iconst 0, 1) := by decide +kernel
theorem dX5_run_8 : decode cX5_run 8 = .ok (.putfield 61, 3) := by decide +kernel
theorem dX5_run_11 : decode cX5_run 11 = .ok (.aload_n 0, 1) := by decide +kernel
theorem dX5_run_12 : decode cX5_run 12 = .ok (.iconst 0, 1) := by decide +kernel
theorem dX5_run_13 : decode cX5_run 13 = .ok (.putfield 64, 3) := by decide +kernel
theorem dX5_run_16 : decode cX5_run 16 = .ok (.aload_n 0, 1) := by decide +kernel
theorem dX5_run_17 : decode cX5_run 17 = .ok (.iload_n 2, 1) := by decide +kernel
theorem dX5_run_18 : decode cX5_run 18 = .ok (.putfield 67, 3) := by decide +kernel
theorem dX5_run_21 : decode cX5_run 21 = .ok (.aload_n 0, 1) := by decide +kernel
theorem dX5_run_22 : decode cX5_run 22 = .ok (.iconst (-1), 1) := by decide +kernel
theorem dX5_run_23 : decode cX5_run 23 = .ok (.putfield 51, 3) := by decide +kernel
theorem dX5_run_26 : decode cX5_run 26 = .ok (.aload_n 0, 1) := by decide +kernel
theorem dX5_run_27 : decode cX5_run 27 = .ok (.getfield 16, 3) := by decide +kernel
theorem dX5_run_30 : decode cX5_run 30 = .ok (.invokevirtual 70, 3) := by decide +kernel
theorem dX5_run_33 : decode cX5_run 33 = .ok (.aload_n 0, 1) := by decide +kernel
theorem dX5_run_34 : decode cX5_run 34 = .ok (.getfield 30, 3) := by decide +kernel
theorem dX5_run_37 : decode cX5_run 37 = .ok (.invokevirtual 73, 3) := by decide +kernel
theorem dX5_run_40 : decode cX5_run 40 = .ok (.aload_n 0, 1) := by decide +kernel
theorem dX5_run_41 : decode cX5_run 41 = .ok (.getfield 23, 3) := by decide +kernel
theorem dX5_run_44 : decode cX5_run 44 = .ok (.iload_n 3, 1) := by decide +kernel
theorem dX5_run_45 : decode cX5_run 45 = .ok (.invokevirtual 74, 3) := by decide +kernel
theorem dX5_run_48 : decode cX5_run 48 = .ok (.iconst 0, 1) := by decide +kernel
theorem dX5_run_49 : decode cX5_run 49 = .ok (.istore 5, 2) := by decide +kernel
theorem dX5_run_51 : decode cX5_run 51 = .ok (.iload 5, 2) := by decide +kernel
theorem dX5_run_53 : decode cX5_run 53 = .ok (.iload_n 2, 1) := by decide +kernel
theorem dX5_run_54 : decode cX5_run 54 = .ok (.if_icmp .ge 38, 3) := by decide +kernel
theorem dX5_run_57 : decode cX5_run 57 = .ok (.iload 5, 2) := by decide +kernel
theorem dX5_run_59 : decode cX5_run 59 = .ok (.aload_n 1, 1) := by decide +kernel
theorem dX5_run_60 : decode cX5_run 60 = .ok (.arraylength, 1) := by decide +kernel
theorem dX5_run_61 : decode cX5_run 61 = .ok (.if_icmp .ge 31, 3) := by decide +kernel
theorem dX5_run_64 : decode cX5_run 64 = .ok (.aload_n 0, 1) := by decide +kernel
theorem dX5_run_65 : decode cX5_run 65 = .ok (.getfield 23, 3) := by decide +kernel
theorem dX5_run_68 : decode cX5_run 68 = .ok (.iconst 0, 1) := by decide +kernel
theorem dX5_run_69 : decode cX5_run 69 = .ok (.aload_n 1, 1) := by decide +kernel
theorem dX5_run_70 : decode cX5_run 70 = .ok (.iload 5, 2) := by decide +kernel
theorem dX5_run_72 : decode cX5_run 72 = .ok (.iaload, 1) := by decide +kernel
theorem dX5_run_73 : decode cX5_run 73 = .ok (.aload_n 0, 1) := by decide +kernel
theorem dX5_run_74 : decode cX5_run 74 = .ok (.getfield 16, 3) := by decide +kernel
theorem dX5_run_77 : decode cX5_run 77 = .ok (.iload 5, 2) := by decide +kernel
theorem dX5_run_79 : decode cX5_run 79 = .ok (.invokevirtual 77, 3) := by decide +kernel
theorem dX5_run_82 : decode cX5_run 82 = .ok (.invokevirtual 81, 3) := by decide +kernel
theorem dX5_run_85 : decode cX5_run 85 = .ok (.pop, 1) := by decide +kernel
theorem dX5_run_86 : decode cX5_run 86 = .ok (.iinc 5 1, 3) := by decide +kernel
theorem dX5_run_89 : decode cX5_run 89 = .ok (.goto (-38), 3) := by decide +kernel
theorem dX5_run_92 : decode cX5_run 92 = .ok (.iconst 0, 1) := by decide +kernel
theorem dX5_run_93 : decode cX5_run 93 = .ok (.istore 5, 2) := by decide +kernel
theorem dX5_run_95 : decode cX5_run 95 = .ok (.iconst 2, 1) := by decide +kernel
theorem dX5_run_96 : decode cX5_run 96 = .ok (.istore 6, 2) := by decide +kernel
theorem dX5_run_98 : decode cX5_run 98 = .ok (.iconst 0, 1) := by decide +kernel
theorem dX5_run_99 : decode cX5_run 99 = .ok (.istore 7, 2) := by decide +kernel
theorem dX5_run_101 : decode cX5_run 101 = .ok (.iload 7, 2) := by decide +kernel
theorem dX5_run_103 : decode cX5_run 103 = .ok (.sipush 4002, 3) := by decide +kernel
theorem dX5_run_106 : decode cX5_run 106 = .ok (.if_icmp .ge 75, 3) := by decide +kernel
theorem dX5_run_109 : decode cX5_run 109 = .ok (.iload 5, 2) := by decide +kernel
theorem dX5_run_111 : decode cX5_run 111 = .ok (.ifCond .lt 70, 3) := by decide +kernel
theorem dX5_run_114 : decode cX5_run 114 = .ok (.iload 6, 2) := by decide +kernel
theorem dX5_run_116 : decode cX5_run 116 = .ok (.ifCond .lt 65, 3) := by decide +kernel
theorem dX5_run_119 : decode cX5_run 119 = .ok (.iload 6, 2) := by decide +kernel
theorem dX5_run_121 : decode cX5_run 121 = .ok (.iconst 2, 1) := by decide +kernel
theorem dX5_run_122 : decode cX5_run 122 = .ok (.if_icmp .ne 14, 3) := by decide +kernel
theorem dX5_run_125 : decode cX5_run 125 = .ok (.aload_n 0, 1) := by decide +kernel
theorem dX5_run_126 : decode cX5_run 126 = .ok (.iload 5, 2) := by decide +kernel
theorem dX5_run_128 : decode cX5_run 128 = .ok (.invokevirtual 85, 3) := by decide +kernel
theorem dX5_run_131 : decode cX5_run 131 = .ok (.istore 6, 2) := by decide +kernel
theorem dX5_run_133 : decode cX5_run 133 = .ok (.goto 26, 3) := by decide +kernel
theorem dX5_run_136 : decode cX5_run 136 = .ok (.iload 6, 2) := by decide +kernel
theorem dX5_run_138 : decode cX5_run 138 = .ok (.iconst 1, 1) := by decide +kernel
theorem dX5_run_139 : decode cX5_run 139 = .ok (.if_icmp .ne 12, 3) := by decide +kernel
theorem dX5_run_142 : decode cX5_run 142 = .ok (.aload_n 0, 1) := by decide +kernel
theorem dX5_run_143 : decode cX5_run 143 = .ok (.iload 5, 2) := by decide +kernel
theorem dX5_run_145 : decode cX5_run 145 = .ok (.invokevirtual 87, 3) := by decide +kernel
theorem dX5_run_148 : decode cX5_run 148 = .ok (.goto 9, 3) := by decide +kernel
theorem dX5_run_151 : decode cX5_run 151 = .ok (.aload_n 0, 1) := by decide +kernel
theorem dX5_run_152 : decode cX5_run 152 = .ok (.iload 5, 2) := by decide +kernel
theorem dX5_run_154 : decode cX5_run 154 = .ok (.invokevirtual 90, 3) := by decide +kernel
theorem dX5_run_157 : decode cX5_run 157 = .ok (.istore 6, 2) := by decide +kernel
theorem dX5_run_159 : decode cX5_run 159 = .ok (.iload 5, 2) := by decide +kernel
theorem dX5_run_161 : decode cX5_run 161 = .ok (.iload 6, 2) := by decide +kernel
theorem dX5_run_163 : decode cX5_run 163 = .ok (.iconst 2, 1) := by decide +kernel
theorem dX5_run_164 : decode cX5_run 164 = .ok (.if_icmp .ne 7, 3) := by decide +kernel
theorem dX5_run_167 : decode cX5_run 167 = .ok (.iconst 1, 1) := by decide +kernel
theorem dX5_run_168 : decode cX5_run 168 = .ok (.goto 4, 3) := by decide +kernel
theorem dX5_run_171 : decode cX5_run 171 = .ok (.iconst (-1), 1) := by decide +kernel
theorem dX5_run_172 : decode cX5_run 172 = .ok (.iadd, 1) := by decide +kernel
theorem dX5_run_173 : decode cX5_run 173 = .ok (.istore 5, 2) := by decide +kernel
theorem dX5_run_175 : decode cX5_run 175 = .ok (.iinc 7 1, 3) := by decide +kernel
theorem dX5_run_178 : decode cX5_run 178 = .ok (.goto (-77), 3) := by decide +kernel
theorem dX5_run_181 : decode cX5_run 181 = .ok (.aload_n 0, 1) := by decide +kernel
theorem dX5_run_182 : decode cX5_run 182 = .ok (.iload 6, 2) := by decide +kernel
theorem dX5_run_184 : decode cX5_run 184 = .ok (.putfield 47, 3) := by decide +kernel
theorem dX5_run_187 : decode cX5_run 187 = .ok (.aload_n 0, 1) := by decide +kernel
theorem dX5_run_188 : decode cX5_run 188 = .ok (.getfield 47, 3) := by decide +kernel
theorem dX5_run_191 : decode cX5_run 191 = .ok (.ireturn, 1) := by decide +kernel
theorem dX5_keep_0 : decode cX5_keep 0 = .ok (.iload_n 1, 1) := by decide +kernel
theorem dX5_keep_1 : decode cX5_keep 1 = .ok (.ifCond .lt 13, 3) := by decide +kernel
theorem dX5_keep_4 : decode cX5_keep 4 = .ok (.iload_n 1, 1) := by decide +kernel
theorem dX5_keep_5 : decode cX5_keep 5 = .ok (.aload_n 0, 1) := by decide +kernel
theorem dX5_keep_6 : decode cX5_keep 6 = .ok (.arraylength, 1) := by decide +kernel
theorem dX5_keep_7 : decode cX5_keep 7 = .ok (.if_icmp .ge 7, 3) := by decide +kernel
theorem dX5_keep_10 : decode cX5_keep 10 = .ok (.aload_n 0, 1) := by decide +kernel
theorem dX5_keep_11 : decode cX5_keep 11 = .ok (.iload_n 1, 1) := by decide +kernel
theorem dX5_keep_12 : decode cX5_keep 12 = .ok (.iload_n 2, 1) := by decide +kernel
theorem dX5_keep_13 : decode cX5_keep 13 = .ok (.iastore, 1) := by decide +kernel
theorem dX5_keep_14 : decode cX5_keep 14 = .ok (.return_, 1) := by decide +kernel
theorem dX5_kept_0 : decode cX5_kept 0 = .ok (.iload_n 1, 1) := by decide +kernel
theorem dX5_kept_1 : decode cX5_kept 1 = .ok (.ifCond .lt 15, 3) := by decide +kernel
theorem dX5_kept_4 : decode cX5_kept 4 = .ok (.iload_n 1, 1) := by decide +kernel
theorem dX5_kept_5 : decode cX5_kept 5 = .ok (.aload_n 0, 1) := by decide +kernel
theorem dX5_kept_6 : decode cX5_kept 6 = .ok (.arraylength, 1) := by decide +kernel
theorem dX5_kept_7 : decode cX5_kept 7 = .ok (.if_icmp .ge 9, 3) := by decide +kernel
theorem dX5_kept_10 : decode cX5_kept 10 = .ok (.aload_n 0, 1) := by decide +kernel
theorem dX5_kept_11 : decode cX5_kept 11 = .ok (.iload_n 1, 1) := by decide +kernel
theorem dX5_kept_12 : decode cX5_kept 12 = .ok (.iaload, 1) := by decide +kernel
theorem dX5_kept_13 : decode cX5_kept 13 = .ok (.goto 4, 3) := by decide +kernel
theorem dX5_kept_16 : decode cX5_kept 16 = .ok (.iconst (-1), 1) := by decide +kernel
theorem dX5_kept_17 : decode cX5_kept 17 = .ok (.ireturn, 1) := by decide +kernel
theorem dX5_provedBy_0 : decode cX5_provedBy 0 = .ok (.aload_n 0, 1) := by decide +kernel
theorem dX5_provedBy_1 : decode cX5_provedBy 1 = .ok (.iload_n 1, 1) := by decide +kernel
theorem dX5_provedBy_2 : decode cX5_provedBy 2 = .ok (.putfield 51, 3) := by decide +kernel
theorem dX5_provedBy_5 : decode cX5_provedBy 5 = .ok (.iconst 1, 1) := by decide +kernel
theorem dX5_provedBy_6 : decode cX5_provedBy 6 = .ok (.ireturn, 1) := by decide +kernel
theorem dX5_waitFor_0 : decode cX5_waitFor 0 = .ok (.aload_n 0, 1) := by decide +kernel
theorem dX5_waitFor_1 : decode cX5_waitFor 1 = .ok (.getfield 34, 3) := by decide +kernel
theorem dX5_waitFor_4 : decode cX5_waitFor 4 = .ok (.iload_n 1, 1) := by decide +kernel
theorem dX5_waitFor_5 : decode cX5_waitFor 5 = .ok (.iload_n 2, 1) := by decide +kernel
theorem dX5_waitFor_6 : decode cX5_waitFor 6 = .ok (.invokestatic 93, 3) := by decide +kernel
theorem dX5_waitFor_9 : decode cX5_waitFor 9 = .ok (.iconst 2, 1) := by decide +kernel
theorem dX5_waitFor_10 : decode cX5_waitFor 10 = .ok (.ireturn, 1) := by decide +kernel
theorem dX5_waitIf_0 : decode cX5_waitIf 0 = .ok (.iload_n 1, 1) := by decide +kernel
theorem dX5_waitIf_1 : decode cX5_waitIf 1 = .ok (.ifCond .eq 12, 3) := by decide +kernel
theorem dX5_waitIf_4 : decode cX5_waitIf 4 = .ok (.aload_n 0, 1) := by decide +kernel
theorem dX5_waitIf_5 : decode cX5_waitIf 5 = .ok (.iload_n 2, 1) := by decide +kernel
theorem dX5_waitIf_6 : decode cX5_waitIf 6 = .ok (.iload_n 3, 1) := by decide +kernel
theorem dX5_waitIf_7 : decode cX5_waitIf 7 = .ok (.invokevirtual 97, 3) := by decide +kernel
theorem dX5_waitIf_10 : decode cX5_waitIf 10 = .ok (.goto 5, 3) := by decide +kernel
theorem dX5_waitIf_13 : decode cX5_waitIf 13 = .ok (.bipush (-7), 2) := by decide +kernel
theorem dX5_waitIf_15 : decode cX5_waitIf 15 = .ok (.ireturn, 1) := by decide +kernel
theorem dX5_begin_0 : decode cX5_begin 0 = .ok (.iload_n 1, 1) := by decide +kernel
theorem dX5_begin_1 : decode cX5_begin 1 = .ok (.ifCond .lt 10, 3) := by decide +kernel
theorem dX5_begin_4 : decode cX5_begin 4 = .ok (.iload_n 1, 1) := by decide +kernel
theorem dX5_begin_5 : decode cX5_begin 5 = .ok (.sipush 200, 3) := by decide +kernel
theorem dX5_begin_8 : decode cX5_begin 8 = .ok (.if_icmp .lt 6, 3) := by decide +kernel
theorem dX5_begin_11 : decode cX5_begin 11 = .ok (.bipush (-7), 2) := by decide +kernel
theorem dX5_begin_13 : decode cX5_begin 13 = .ok (.ireturn, 1) := by decide +kernel
theorem dX5_begin_14 : decode cX5_begin 14 = .ok (.aload_n 0, 1) := by decide +kernel
theorem dX5_begin_15 : decode cX5_begin 15 = .ok (.getfield 61, 3) := by decide +kernel
theorem dX5_begin_18 : decode cX5_begin 18 = .ok (.aload_n 0, 1) := by decide +kernel
theorem dX5_begin_19 : decode cX5_begin 19 = .ok (.getfield 58, 3) := by decide +kernel
theorem dX5_begin_22 : decode cX5_begin 22 = .ok (.if_icmp .lt 6, 3) := by decide +kernel
theorem dX5_begin_25 : decode cX5_begin 25 = .ok (.bipush (-6), 2) := by decide +kernel
theorem dX5_begin_27 : decode cX5_begin 27 = .ok (.ireturn, 1) := by decide +kernel
theorem dX5_begin_28 : decode cX5_begin 28 = .ok (.aload_n 0, 1) := by decide +kernel
theorem dX5_begin_29 : decode cX5_begin 29 = .ok (.dup, 1) := by decide +kernel
theorem dX5_begin_30 : decode cX5_begin 30 = .ok (.getfield 61, 3) := by decide +kernel
theorem dX5_begin_33 : decode cX5_begin 33 = .ok (.iconst 1, 1) := by decide +kernel
theorem dX5_begin_34 : decode cX5_begin 34 = .ok (.iadd, 1) := by decide +kernel
theorem dX5_begin_35 : decode cX5_begin 35 = .ok (.putfield 61, 3) := by decide +kernel
theorem dX5_begin_38 : decode cX5_begin 38 = .ok (.aload_n 0, 1) := by decide +kernel
theorem dX5_begin_39 : decode cX5_begin 39 = .ok (.aload_n 0, 1) := by decide +kernel
theorem dX5_begin_40 : decode cX5_begin 40 = .ok (.getfield 64, 3) := by decide +kernel
theorem dX5_begin_43 : decode cX5_begin 43 = .ok (.iload_n 1, 1) := by decide +kernel
theorem dX5_begin_44 : decode cX5_begin 44 = .ok (.iconst 1, 1) := by decide +kernel
theorem dX5_begin_45 : decode cX5_begin 45 = .ok (.iadd, 1) := by decide +kernel
theorem dX5_begin_46 : decode cX5_begin 46 = .ok (.invokestatic 101, 3) := by decide +kernel
theorem dX5_begin_49 : decode cX5_begin 49 = .ok (.putfield 64, 3) := by decide +kernel
theorem dX5_begin_52 : decode cX5_begin 52 = .ok (.aload_n 0, 1) := by decide +kernel
theorem dX5_begin_53 : decode cX5_begin 53 = .ok (.getfield 30, 3) := by decide +kernel
theorem dX5_begin_56 : decode cX5_begin 56 = .ok (.iload_n 1, 1) := by decide +kernel
theorem dX5_begin_57 : decode cX5_begin 57 = .ok (.invokevirtual 106, 3) := by decide +kernel
theorem dX5_begin_60 : decode cX5_begin 60 = .ok (.aload_n 0, 1) := by decide +kernel
theorem dX5_begin_61 : decode cX5_begin 61 = .ok (.getfield 23, 3) := by decide +kernel
theorem dX5_begin_64 : decode cX5_begin 64 = .ok (.iload_n 1, 1) := by decide +kernel
theorem dX5_begin_65 : decode cX5_begin 65 = .ok (.invokevirtual 107, 3) := by decide +kernel
theorem dX5_begin_68 : decode cX5_begin 68 = .ok (.istore_n 2, 1) := by decide +kernel
theorem dX5_begin_69 : decode cX5_begin 69 = .ok (.aload_n 0, 1) := by decide +kernel
theorem dX5_begin_70 : decode cX5_begin 70 = .ok (.getfield 23, 3) := by decide +kernel
theorem dX5_begin_73 : decode cX5_begin 73 = .ok (.iload_n 1, 1) := by decide +kernel
theorem dX5_begin_74 : decode cX5_begin 74 = .ok (.iload_n 2, 1) := by decide +kernel
theorem dX5_begin_75 : decode cX5_begin 75 = .ok (.invokevirtual 110, 3) := by decide +kernel
theorem dX5_begin_78 : decode cX5_begin 78 = .ok (.istore_n 3, 1) := by decide +kernel
theorem dX5_begin_79 : decode cX5_begin 79 = .ok (.iload_n 3, 1) := by decide +kernel
theorem dX5_begin_80 : decode cX5_begin 80 = .ok (.ifCond .lt 17, 3) := by decide +kernel
theorem dX5_begin_83 : decode cX5_begin 83 = .ok (.aload_n 0, 1) := by decide +kernel
theorem dX5_begin_84 : decode cX5_begin 84 = .ok (.aload_n 0, 1) := by decide +kernel
theorem dX5_begin_85 : decode cX5_begin 85 = .ok (.getfield 23, 3) := by decide +kernel
theorem dX5_begin_88 : decode cX5_begin 88 = .ok (.iload_n 1, 1) := by decide +kernel
theorem dX5_begin_89 : decode cX5_begin 89 = .ok (.iload_n 3, 1) := by decide +kernel
theorem dX5_begin_90 : decode cX5_begin 90 = .ok (.invokevirtual 113, 3) := by decide +kernel
theorem dX5_begin_93 : decode cX5_begin 93 = .ok (.invokevirtual 116, 3) := by decide +kernel
theorem dX5_begin_96 : decode cX5_begin 96 = .ok (.ireturn, 1) := by decide +kernel
theorem dX5_begin_97 : decode cX5_begin 97 = .ok (.aload_n 0, 1) := by decide +kernel
theorem dX5_begin_98 : decode cX5_begin 98 = .ok (.getfield 23, 3) := by decide +kernel
theorem dX5_begin_101 : decode cX5_begin 101 = .ok (.iload_n 1, 1) := by decide +kernel
theorem dX5_begin_102 : decode cX5_begin 102 = .ok (.iconst 0, 1) := by decide +kernel
theorem dX5_begin_103 : decode cX5_begin 103 = .ok (.invokevirtual 110, 3) := by decide +kernel
theorem dX5_begin_106 : decode cX5_begin 106 = .ok (.istore_n 3, 1) := by decide +kernel
theorem dX5_begin_107 : decode cX5_begin 107 = .ok (.iload_n 3, 1) := by decide +kernel
theorem dX5_begin_108 : decode cX5_begin 108 = .ok (.ifCond .lt 26, 3) := by decide +kernel
theorem dX5_begin_111 : decode cX5_begin 111 = .ok (.aload_n 0, 1) := by decide +kernel
theorem dX5_begin_112 : decode cX5_begin 112 = .ok (.aload_n 0, 1) := by decide +kernel
theorem dX5_begin_113 : decode cX5_begin 113 = .ok (.getfield 16, 3) := by decide +kernel
theorem dX5_begin_116 : decode cX5_begin 116 = .ok (.bipush 88, 2) := by decide +kernel
theorem dX5_begin_118 : decode cX5_begin 118 = .ok (.aload_n 0, 1) := by decide +kernel
theorem dX5_begin_119 : decode cX5_begin 119 = .ok (.getfield 23, 3) := by decide +kernel
theorem dX5_begin_122 : decode cX5_begin 122 = .ok (.iload_n 1, 1) := by decide +kernel
theorem dX5_begin_123 : decode cX5_begin 123 = .ok (.iload_n 3, 1) := by decide +kernel
theorem dX5_begin_124 : decode cX5_begin 124 = .ok (.invokevirtual 113, 3) := by decide +kernel
theorem dX5_begin_127 : decode cX5_begin 127 = .ok (.invokevirtual 119, 3) := by decide +kernel
theorem dX5_begin_130 : decode cX5_begin 130 = .ok (.invokevirtual 116, 3) := by decide +kernel
theorem dX5_begin_133 : decode cX5_begin 133 = .ok (.ireturn, 1) := by decide +kernel
theorem dX5_begin_134 : decode cX5_begin 134 = .ok (.iload_n 2, 1) := by decide +kernel
theorem dX5_begin_135 : decode cX5_begin 135 = .ok (.iconst 1, 1) := by decide +kernel
theorem dX5_begin_136 : decode cX5_begin 136 = .ok (.if_icmp .ne 15, 3) := by decide +kernel
theorem dX5_begin_139 : decode cX5_begin 139 = .ok (.aload_n 0, 1) := by decide +kernel
theorem dX5_begin_140 : decode cX5_begin 140 = .ok (.aload_n 0, 1) := by decide +kernel
theorem dX5_begin_141 : decode cX5_begin 141 = .ok (.getfield 16, 3) := by decide +kernel
theorem dX5_begin_144 : decode cX5_begin 144 = .ok (.invokevirtual 122, 3) := by decide +kernel
theorem dX5_begin_147 : decode cX5_begin 147 = .ok (.invokevirtual 116, 3) := by decide +kernel
theorem dX5_begin_150 : decode cX5_begin 150 = .ok (.ireturn, 1) := by decide +kernel
theorem dX5_begin_151 : decode cX5_begin 151 = .ok (.aload_n 0, 1) := by decide +kernel
theorem dX5_begin_152 : decode cX5_begin 152 = .ok (.getfield 54, 3) := by decide +kernel
theorem dX5_begin_155 : decode cX5_begin 155 = .ok (.iload_n 2, 1) := by decide +kernel
theorem dX5_begin_156 : decode cX5_begin 156 = .ok (.invokevirtual 126, 3) := by decide +kernel
theorem dX5_begin_159 : decode cX5_begin 159 = .ok (.istore 4, 2) := by decide +kernel
theorem dX5_begin_161 : decode cX5_begin 161 = .ok (.iload 4, 2) := by decide +kernel
theorem dX5_begin_163 : decode cX5_begin 163 = .ok (.iconst 5, 1) := by decide +kernel
theorem dX5_begin_164 : decode cX5_begin 164 = .ok (.if_icmp .ne 10, 3) := by decide +kernel
theorem dX5_begin_167 : decode cX5_begin 167 = .ok (.aload_n 0, 1) := by decide +kernel
theorem dX5_begin_168 : decode cX5_begin 168 = .ok (.iload_n 1, 1) := by decide +kernel
theorem dX5_begin_169 : decode cX5_begin 169 = .ok (.iload_n 2, 1) := by decide +kernel
theorem dX5_begin_170 : decode cX5_begin 170 = .ok (.invokevirtual 131, 3) := by decide +kernel
theorem dX5_begin_173 : decode cX5_begin 173 = .ok (.ireturn, 1) := by decide +kernel
theorem dX5_begin_174 : decode cX5_begin 174 = .ok (.iload 4, 2) := by decide +kernel
theorem dX5_begin_176 : decode cX5_begin 176 = .ok (.iconst 3, 1) := by decide +kernel
theorem dX5_begin_177 : decode cX5_begin 177 = .ok (.if_icmp .ne 27, 3) := by decide +kernel
theorem dX5_begin_180 : decode cX5_begin 180 = .ok (.aload_n 0, 1) := by decide +kernel
theorem dX5_begin_181 : decode cX5_begin 181 = .ok (.getfield 23, 3) := by decide +kernel
theorem dX5_begin_184 : decode cX5_begin 184 = .ok (.iload_n 1, 1) := by decide +kernel
theorem dX5_begin_185 : decode cX5_begin 185 = .ok (.iconst (-1), 1) := by decide +kernel
theorem dX5_begin_186 : decode cX5_begin 186 = .ok (.aload_n 0, 1) := by decide +kernel
theorem dX5_begin_187 : decode cX5_begin 187 = .ok (.getfield 54, 3) := by decide +kernel
theorem dX5_begin_190 : decode cX5_begin 190 = .ok (.iload_n 2, 1) := by decide +kernel
theorem dX5_begin_191 : decode cX5_begin 191 = .ok (.invokevirtual 134, 3) := by decide +kernel
theorem dX5_begin_194 : decode cX5_begin 194 = .ok (.invokevirtual 137, 3) := by decide +kernel
theorem dX5_begin_197 : decode cX5_begin 197 = .ok (.aload_n 0, 1) := by decide +kernel
theorem dX5_begin_198 : decode cX5_begin 198 = .ok (.iload_n 1, 1) := by decide +kernel
theorem dX5_begin_199 : decode cX5_begin 199 = .ok (.iconst 2, 1) := by decide +kernel
theorem dX5_begin_200 : decode cX5_begin 200 = .ok (.invokevirtual 97, 3) := by decide +kernel
theorem dX5_begin_203 : decode cX5_begin 203 = .ok (.ireturn, 1) := by decide +kernel
theorem dX5_begin_204 : decode cX5_begin 204 = .ok (.aload_n 0, 1) := by decide +kernel
theorem dX5_begin_205 : decode cX5_begin 205 = .ok (.iload_n 1, 1) := by decide +kernel
theorem dX5_begin_206 : decode cX5_begin 206 = .ok (.invokevirtual 141, 3) := by decide +kernel
theorem dX5_begin_209 : decode cX5_begin 209 = .ok (.istore_n 3, 1) := by decide +kernel
theorem dX5_begin_210 : decode cX5_begin 210 = .ok (.iload_n 3, 1) := by decide +kernel
theorem dX5_begin_211 : decode cX5_begin 211 = .ok (.ifCond .lt 10, 3) := by decide +kernel
theorem dX5_begin_214 : decode cX5_begin 214 = .ok (.aload_n 0, 1) := by decide +kernel
theorem dX5_begin_215 : decode cX5_begin 215 = .ok (.iload_n 1, 1) := by decide +kernel
theorem dX5_begin_216 : decode cX5_begin 216 = .ok (.iload_n 3, 1) := by decide +kernel
theorem dX5_begin_217 : decode cX5_begin 217 = .ok (.invokevirtual 144, 3) := by decide +kernel
theorem dX5_begin_220 : decode cX5_begin 220 = .ok (.ireturn, 1) := by decide +kernel
theorem dX5_begin_221 : decode cX5_begin 221 = .ok (.iload 4, 2) := by decide +kernel
theorem dX5_begin_223 : decode cX5_begin 223 = .ok (.iconst 4, 1) := by decide +kernel
theorem dX5_begin_224 : decode cX5_begin 224 = .ok (.if_icmp .ne 28, 3) := by decide +kernel
theorem dX5_begin_227 : decode cX5_begin 227 = .ok (.aload_n 0, 1) := by decide +kernel
theorem dX5_begin_228 : decode cX5_begin 228 = .ok (.getfield 23, 3) := by decide +kernel
theorem dX5_begin_231 : decode cX5_begin 231 = .ok (.iload_n 1, 1) := by decide +kernel
theorem dX5_begin_232 : decode cX5_begin 232 = .ok (.iconst (-1), 1) := by decide +kernel
theorem dX5_begin_233 : decode cX5_begin 233 = .ok (.aload_n 0, 1) := by decide +kernel
theorem dX5_begin_234 : decode cX5_begin 234 = .ok (.getfield 54, 3) := by decide +kernel
theorem dX5_begin_237 : decode cX5_begin 237 = .ok (.iload_n 2, 1) := by decide +kernel
theorem dX5_begin_238 : decode cX5_begin 238 = .ok (.invokevirtual 134, 3) := by decide +kernel
theorem dX5_begin_241 : decode cX5_begin 241 = .ok (.invokevirtual 137, 3) := by decide +kernel
theorem dX5_begin_244 : decode cX5_begin 244 = .ok (.aload_n 0, 1) := by decide +kernel
theorem dX5_begin_245 : decode cX5_begin 245 = .ok (.iload_n 1, 1) := by decide +kernel
theorem dX5_begin_246 : decode cX5_begin 246 = .ok (.bipush 6, 2) := by decide +kernel
theorem dX5_begin_248 : decode cX5_begin 248 = .ok (.invokevirtual 97, 3) := by decide +kernel
theorem dX5_begin_251 : decode cX5_begin 251 = .ok (.ireturn, 1) := by decide +kernel
theorem dX5_begin_252 : decode cX5_begin 252 = .ok (.aload_n 0, 1) := by decide +kernel
theorem dX5_begin_253 : decode cX5_begin 253 = .ok (.iload_n 1, 1) := by decide +kernel
theorem dX5_begin_254 : decode cX5_begin 254 = .ok (.iconst 0, 1) := by decide +kernel
theorem dX5_begin_255 : decode cX5_begin 255 = .ok (.invokevirtual 147, 3) := by decide +kernel
theorem dX5_begin_258 : decode cX5_begin 258 = .ok (.ireturn, 1) := by decide +kernel
theorem dX5_beginBody_0 : decode cX5_beginBody 0 = .ok (.aload_n 0, 1) := by decide +kernel
theorem dX5_beginBody_1 : decode cX5_beginBody 1 = .ok (.getfield 44, 3) := by decide +kernel
theorem dX5_beginBody_4 : decode cX5_beginBody 4 = .ok (.iload_n 1, 1) := by decide +kernel
theorem dX5_beginBody_5 : decode cX5_beginBody 5 = .ok (.aload_n 0, 1) := by decide +kernel
theorem dX5_beginBody_6 : decode cX5_beginBody 6 = .ok (.getfield 16, 3) := by decide +kernel
theorem dX5_beginBody_9 : decode cX5_beginBody 9 = .ok (.iconst 0, 1) := by decide +kernel
theorem dX5_beginBody_10 : decode cX5_beginBody 10 = .ok (.invokevirtual 77, 3) := by decide +kernel
theorem dX5_beginBody_13 : decode cX5_beginBody 13 = .ok (.invokestatic 93, 3) := by decide +kernel
theorem dX5_beginBody_16 : decode cX5_beginBody 16 = .ok (.aload_n 0, 1) := by decide +kernel
theorem dX5_beginBody_17 : decode cX5_beginBody 17 = .ok (.getfield 23, 3) := by decide +kernel
theorem dX5_beginBody_20 : decode cX5_beginBody 20 = .ok (.iload_n 1, 1) := by decide +kernel
theorem dX5_beginBody_21 : decode cX5_beginBody 21 = .ok (.iconst (-1), 1) := by decide +kernel
theorem dX5_beginBody_22 : decode cX5_beginBody 22 = .ok (.aload_n 0, 1) := by decide +kernel
theorem dX5_beginBody_23 : decode cX5_beginBody 23 = .ok (.getfield 54, 3) := by decide +kernel
theorem dX5_beginBody_26 : decode cX5_beginBody 26 = .ok (.iload_n 2, 1) := by decide +kernel
theorem dX5_beginBody_27 : decode cX5_beginBody 27 = .ok (.invokevirtual 150, 3) := by decide +kernel
theorem dX5_beginBody_30 : decode cX5_beginBody 30 = .ok (.invokevirtual 137, 3) := by decide +kernel
theorem dX5_beginBody_33 : decode cX5_beginBody 33 = .ok (.aload_n 0, 1) := by decide +kernel
theorem dX5_beginBody_34 : decode cX5_beginBody 34 = .ok (.aload_n 0, 1) := by decide +kernel
theorem dX5_beginBody_35 : decode cX5_beginBody 35 = .ok (.getfield 23, 3) := by decide +kernel
theorem dX5_beginBody_38 : decode cX5_beginBody 38 = .ok (.iload_n 1, 1) := by decide +kernel
theorem dX5_beginBody_39 : decode cX5_beginBody 39 = .ok (.iconst 1, 1) := by decide +kernel
theorem dX5_beginBody_40 : decode cX5_beginBody 40 = .ok (.iadd, 1) := by decide +kernel
theorem dX5_beginBody_41 : decode cX5_beginBody 41 = .ok (.aload_n 0, 1) := by decide +kernel
theorem dX5_beginBody_42 : decode cX5_beginBody 42 = .ok (.getfield 54, 3) := by decide +kernel
theorem dX5_beginBody_45 : decode cX5_beginBody 45 = .ok (.iload_n 2, 1) := by decide +kernel
theorem dX5_beginBody_46 : decode cX5_beginBody 46 = .ok (.invokevirtual 134, 3) := by decide +kernel
theorem dX5_beginBody_49 : decode cX5_beginBody 49 = .ok (.aload_n 0, 1) := by decide +kernel
theorem dX5_beginBody_50 : decode cX5_beginBody 50 = .ok (.getfield 44, 3) := by decide +kernel
theorem dX5_beginBody_53 : decode cX5_beginBody 53 = .ok (.iload_n 1, 1) := by decide +kernel
theorem dX5_beginBody_54 : decode cX5_beginBody 54 = .ok (.invokestatic 153, 3) := by decide +kernel
theorem dX5_beginBody_57 : decode cX5_beginBody 57 = .ok (.invokevirtual 81, 3) := by decide +kernel
theorem dX5_beginBody_60 : decode cX5_beginBody 60 = .ok (.iload_n 1, 1) := by decide +kernel
theorem dX5_beginBody_61 : decode cX5_beginBody 61 = .ok (.iconst 1, 1) := by decide +kernel
theorem dX5_beginBody_62 : decode cX5_beginBody 62 = .ok (.invokevirtual 157, 3) := by decide +kernel
theorem dX5_beginBody_65 : decode cX5_beginBody 65 = .ok (.ireturn, 1) := by decide +kernel
theorem dX5_variablesIn_0 : decode cX5_variablesIn 0 = .ok (.iconst 0, 1) := by decide +kernel
theorem dX5_variablesIn_1 : decode cX5_variablesIn 1 = .ok (.istore_n 2, 1) := by decide +kernel
theorem dX5_variablesIn_2 : decode cX5_variablesIn 2 = .ok (.iconst 0, 1) := by decide +kernel
theorem dX5_variablesIn_3 : decode cX5_variablesIn 3 = .ok (.istore_n 3, 1) := by decide +kernel
theorem dX5_variablesIn_4 : decode cX5_variablesIn 4 = .ok (.iload_n 3, 1) := by decide +kernel
theorem dX5_variablesIn_5 : decode cX5_variablesIn 5 = .ok (.aload_n 0, 1) := by decide +kernel
theorem dX5_variablesIn_6 : decode cX5_variablesIn 6 = .ok (.getfield 23, 3) := by decide +kernel
theorem dX5_variablesIn_9 : decode cX5_variablesIn 9 = .ok (.iload_n 1, 1) := by decide +kernel
theorem dX5_variablesIn_10 : decode cX5_variablesIn 10 = .ok (.invokevirtual 161, 3) := by decide +kernel
theorem dX5_variablesIn_13 : decode cX5_variablesIn 13 = .ok (.if_icmp .ge 47, 3) := by decide +kernel
theorem dX5_variablesIn_16 : decode cX5_variablesIn 16 = .ok (.aload_n 0, 1) := by decide +kernel
theorem dX5_variablesIn_17 : decode cX5_variablesIn 17 = .ok (.getfield 23, 3) := by decide +kernel
theorem dX5_variablesIn_20 : decode cX5_variablesIn 20 = .ok (.iload_n 1, 1) := by decide +kernel
theorem dX5_variablesIn_21 : decode cX5_variablesIn 21 = .ok (.iload_n 3, 1) := by decide +kernel
theorem dX5_variablesIn_22 : decode cX5_variablesIn 22 = .ok (.invokevirtual 164, 3) := by decide +kernel
theorem dX5_variablesIn_25 : decode cX5_variablesIn 25 = .ok (.istore 4, 2) := by decide +kernel
theorem dX5_variablesIn_27 : decode cX5_variablesIn 27 = .ok (.aload_n 0, 1) := by decide +kernel
theorem dX5_variablesIn_28 : decode cX5_variablesIn 28 = .ok (.getfield 54, 3) := by decide +kernel
theorem dX5_variablesIn_31 : decode cX5_variablesIn 31 = .ok (.iload 4, 2) := by decide +kernel
theorem dX5_variablesIn_33 : decode cX5_variablesIn 33 = .ok (.invokevirtual 126, 3) := by decide +kernel
theorem dX5_variablesIn_36 : decode cX5_variablesIn 36 = .ok (.iconst 2, 1) := by decide +kernel
theorem dX5_variablesIn_37 : decode cX5_variablesIn 37 = .ok (.if_icmp .ne 17, 3) := by decide +kernel
theorem dX5_variablesIn_40 : decode cX5_variablesIn 40 = .ok (.iload_n 2, 1) := by decide +kernel
theorem dX5_variablesIn_41 : decode cX5_variablesIn 41 = .ok (.iconst 1, 1) := by decide +kernel
theorem dX5_variablesIn_42 : decode cX5_variablesIn 42 = .ok (.aload_n 0, 1) := by decide +kernel
theorem dX5_variablesIn_43 : decode cX5_variablesIn 43 = .ok (.getfield 54, 3) := by decide +kernel
theorem dX5_variablesIn_46 : decode cX5_variablesIn 46 = .ok (.iload 4, 2) := by decide +kernel
theorem dX5_variablesIn_48 : decode cX5_variablesIn 48 = .ok (.invokevirtual 134, 3) := by decide +kernel
theorem dX5_variablesIn_51 : decode cX5_variablesIn 51 = .ok (.ishl, 1) := by decide +kernel
theorem dX5_variablesIn_52 : decode cX5_variablesIn 52 = .ok (.ior, 1) := by decide +kernel
theorem dX5_variablesIn_53 : decode cX5_variablesIn 53 = .ok (.istore_n 2, 1) := by decide +kernel
theorem dX5_variablesIn_54 : decode cX5_variablesIn 54 = .ok (.iinc 3 1, 3) := by decide +kernel
theorem dX5_variablesIn_57 : decode cX5_variablesIn 57 = .ok (.goto (-53), 3) := by decide +kernel
theorem dX5_variablesIn_60 : decode cX5_variablesIn 60 = .ok (.iload_n 2, 1) := by decide +kernel
theorem dX5_variablesIn_61 : decode cX5_variablesIn 61 = .ok (.ireturn, 1) := by decide +kernel
theorem dX5_firstReducible_0 : decode cX5_firstReducible 0 = .ok (.aload_n 0, 1) := by decide +kernel
theorem dX5_firstReducible_1 : decode cX5_firstReducible 1 = .ok (.iload_n 1, 1) := by decide +kernel
theorem dX5_firstReducible_2 : decode cX5_firstReducible 2 = .ok (.invokevirtual 167, 3) := by decide +kernel
theorem dX5_firstReducible_5 : decode cX5_firstReducible 5 = .ok (.istore_n 2, 1) := by decide +kernel
theorem dX5_firstReducible_6 : decode cX5_firstReducible 6 = .ok (.iconst 0, 1) := by decide +kernel
theorem dX5_firstReducible_7 : decode cX5_firstReducible 7 = .ok (.istore_n 3, 1) := by decide +kernel
theorem dX5_firstReducible_8 : decode cX5_firstReducible 8 = .ok (.iload_n 3, 1) := by decide +kernel
theorem dX5_firstReducible_9 : decode cX5_firstReducible 9 = .ok (.aload_n 0, 1) := by decide +kernel
theorem dX5_firstReducible_10 : decode cX5_firstReducible 10 = .ok (.getfield 23, 3) := by decide +kernel
theorem dX5_firstReducible_13 : decode cX5_firstReducible 13 = .ok (.iload_n 1, 1) := by decide +kernel
theorem dX5_firstReducible_14 : decode cX5_firstReducible 14 = .ok (.invokevirtual 161, 3) := by decide +kernel
theorem dX5_firstReducible_17 : decode cX5_firstReducible 17 = .ok (.if_icmp .ge 28, 3) := by decide +kernel
theorem dX5_firstReducible_20 : decode cX5_firstReducible 20 = .ok (.aload_n 0, 1) := by decide +kernel
theorem dX5_firstReducible_21 : decode cX5_firstReducible 21 = .ok (.aload_n 0, 1) := by decide +kernel
theorem dX5_firstReducible_22 : decode cX5_firstReducible 22 = .ok (.getfield 23, 3) := by decide +kernel
theorem dX5_firstReducible_25 : decode cX5_firstReducible 25 = .ok (.iload_n 1, 1) := by decide +kernel
theorem dX5_firstReducible_26 : decode cX5_firstReducible 26 = .ok (.iload_n 3, 1) := by decide +kernel
theorem dX5_firstReducible_27 : decode cX5_firstReducible 27 = .ok (.invokevirtual 164, 3) := by decide +kernel
theorem dX5_firstReducible_30 : decode cX5_firstReducible 30 = .ok (.iload_n 2, 1) := by decide +kernel
theorem dX5_firstReducible_31 : decode cX5_firstReducible 31 = .ok (.invokevirtual 170, 3) := by decide +kernel
theorem dX5_firstReducible_34 : decode cX5_firstReducible 34 = .ok (.ifCond .eq 5, 3) := by decide +kernel
theorem dX5_firstReducible_37 : decode cX5_firstReducible 37 = .ok (.iload_n 3, 1) := by decide +kernel
theorem dX5_firstReducible_38 : decode cX5_firstReducible 38 = .ok (.ireturn, 1) := by decide +kernel
theorem dX5_firstReducible_39 : decode cX5_firstReducible 39 = .ok (.iinc 3 1, 3) := by decide +kernel
theorem dX5_firstReducible_42 : decode cX5_firstReducible 42 = .ok (.goto (-34), 3) := by decide +kernel
theorem dX5_firstReducible_45 : decode cX5_firstReducible 45 = .ok (.iconst (-1), 1) := by decide +kernel
theorem dX5_firstReducible_46 : decode cX5_firstReducible 46 = .ok (.ireturn, 1) := by decide +kernel
theorem dX5_isReducible_0 : decode cX5_isReducible 0 = .ok (.aload_n 0, 1) := by decide +kernel
theorem dX5_isReducible_1 : decode cX5_isReducible 1 = .ok (.getfield 54, 3) := by decide +kernel
theorem dX5_isReducible_4 : decode cX5_isReducible 4 = .ok (.iload_n 1, 1) := by decide +kernel
theorem dX5_isReducible_5 : decode cX5_isReducible 5 = .ok (.invokevirtual 126, 3) := by decide +kernel
theorem dX5_isReducible_8 : decode cX5_isReducible 8 = .ok (.istore_n 3, 1) := by decide +kernel
theorem dX5_isReducible_9 : decode cX5_isReducible 9 = .ok (.iload_n 3, 1) := by decide +kernel
theorem dX5_isReducible_10 : decode cX5_isReducible 10 = .ok (.iconst 5, 1) := by decide +kernel
theorem dX5_isReducible_11 : decode cX5_isReducible 11 = .ok (.if_icmp .eq 24, 3) := by decide +kernel
theorem dX5_isReducible_14 : decode cX5_isReducible 14 = .ok (.iload_n 3, 1) := by decide +kernel
theorem dX5_isReducible_15 : decode cX5_isReducible 15 = .ok (.iconst 1, 1) := by decide +kernel
theorem dX5_isReducible_16 : decode cX5_isReducible 16 = .ok (.if_icmp .eq 13, 3) := by decide +kernel
theorem dX5_isReducible_19 : decode cX5_isReducible 19 = .ok (.iload_n 3, 1) := by decide +kernel
theorem dX5_isReducible_20 : decode cX5_isReducible 20 = .ok (.iconst 3, 1) := by decide +kernel
theorem dX5_isReducible_21 : decode cX5_isReducible 21 = .ok (.if_icmp .eq 8, 3) := by decide +kernel
theorem dX5_isReducible_24 : decode cX5_isReducible 24 = .ok (.iload_n 3, 1) := by decide +kernel
theorem dX5_isReducible_25 : decode cX5_isReducible 25 = .ok (.iconst 4, 1) := by decide +kernel
theorem dX5_isReducible_26 : decode cX5_isReducible 26 = .ok (.if_icmp .ne 7, 3) := by decide +kernel
theorem dX5_isReducible_29 : decode cX5_isReducible 29 = .ok (.iconst 1, 1) := by decide +kernel
theorem dX5_isReducible_30 : decode cX5_isReducible 30 = .ok (.goto 4, 3) := by decide +kernel
theorem dX5_isReducible_33 : decode cX5_isReducible 33 = .ok (.iconst 0, 1) := by decide +kernel
theorem dX5_isReducible_34 : decode cX5_isReducible 34 = .ok (.ireturn, 1) := by decide +kernel
theorem dX5_isReducible_35 : decode cX5_isReducible 35 = .ok (.aload_n 0, 1) := by decide +kernel
theorem dX5_isReducible_36 : decode cX5_isReducible 36 = .ok (.getfield 54, 3) := by decide +kernel
theorem dX5_isReducible_39 : decode cX5_isReducible 39 = .ok (.iload_n 1, 1) := by decide +kernel
theorem dX5_isReducible_40 : decode cX5_isReducible 40 = .ok (.invokevirtual 134, 3) := by decide +kernel
theorem dX5_isReducible_43 : decode cX5_isReducible 43 = .ok (.istore 4, 2) := by decide +kernel
theorem dX5_isReducible_45 : decode cX5_isReducible 45 = .ok (.aload_n 0, 1) := by decide +kernel
theorem dX5_isReducible_46 : decode cX5_isReducible 46 = .ok (.getfield 54, 3) := by decide +kernel
theorem dX5_isReducible_49 : decode cX5_isReducible 49 = .ok (.iload 4, 2) := by decide +kernel
theorem dX5_isReducible_51 : decode cX5_isReducible 51 = .ok (.invokevirtual 126, 3) := by decide +kernel
theorem dX5_isReducible_54 : decode cX5_isReducible 54 = .ok (.istore 5, 2) := by decide +kernel
theorem dX5_isReducible_56 : decode cX5_isReducible 56 = .ok (.iload 5, 2) := by decide +kernel
theorem dX5_isReducible_58 : decode cX5_isReducible 58 = .ok (.iconst 2, 1) := by decide +kernel
theorem dX5_isReducible_59 : decode cX5_isReducible 59 = .ok (.if_icmp .ne 26, 3) := by decide +kernel
theorem dX5_isReducible_62 : decode cX5_isReducible 62 = .ok (.iload_n 2, 1) := by decide +kernel
theorem dX5_isReducible_63 : decode cX5_isReducible 63 = .ok (.aload_n 0, 1) := by decide +kernel
theorem dX5_isReducible_64 : decode cX5_isReducible 64 = .ok (.getfield 54, 3) := by decide +kernel
theorem dX5_isReducible_67 : decode cX5_isReducible 67 = .ok (.iload 4, 2) := by decide +kernel
theorem dX5_isReducible_69 : decode cX5_isReducible 69 = .ok (.invokevirtual 134, 3) := by decide +kernel
theorem dX5_isReducible_72 : decode cX5_isReducible 72 = .ok (.iushr, 1) := by decide +kernel
theorem dX5_isReducible_73 : decode cX5_isReducible 73 = .ok (.iconst 1, 1) := by decide +kernel
theorem dX5_isReducible_74 : decode cX5_isReducible 74 = .ok (.iand, 1) := by decide +kernel
theorem dX5_isReducible_75 : decode cX5_isReducible 75 = .ok (.iconst 1, 1) := by decide +kernel
theorem dX5_isReducible_76 : decode cX5_isReducible 76 = .ok (.if_icmp .ne 7, 3) := by decide +kernel
theorem dX5_isReducible_79 : decode cX5_isReducible 79 = .ok (.iconst 1, 1) := by decide +kernel
theorem dX5_isReducible_80 : decode cX5_isReducible 80 = .ok (.goto 4, 3) := by decide +kernel
theorem dX5_isReducible_83 : decode cX5_isReducible 83 = .ok (.iconst 0, 1) := by decide +kernel
theorem dX5_isReducible_84 : decode cX5_isReducible 84 = .ok (.ireturn, 1) := by decide +kernel
theorem dX5_isReducible_85 : decode cX5_isReducible 85 = .ok (.iload 5, 2) := by decide +kernel
theorem dX5_isReducible_87 : decode cX5_isReducible 87 = .ok (.iconst 5, 1) := by decide +kernel
theorem dX5_isReducible_88 : decode cX5_isReducible 88 = .ok (.if_icmp .eq 7, 3) := by decide +kernel
theorem dX5_isReducible_91 : decode cX5_isReducible 91 = .ok (.iconst 1, 1) := by decide +kernel
theorem dX5_isReducible_92 : decode cX5_isReducible 92 = .ok (.goto 4, 3) := by decide +kernel
theorem dX5_isReducible_95 : decode cX5_isReducible 95 = .ok (.iconst 0, 1) := by decide +kernel
theorem dX5_isReducible_96 : decode cX5_isReducible 96 = .ok (.ireturn, 1) := by decide +kernel
theorem dX5_reduce_0 : decode cX5_reduce 0 = .ok (.aload_n 0, 1) := by decide +kernel
theorem dX5_reduce_1 : decode cX5_reduce 1 = .ok (.getfield 23, 3) := by decide +kernel
theorem dX5_reduce_4 : decode cX5_reduce 4 = .ok (.iload_n 1, 1) := by decide +kernel
theorem dX5_reduce_5 : decode cX5_reduce 5 = .ok (.iload_n 2, 1) := by decide +kernel
theorem dX5_reduce_6 : decode cX5_reduce 6 = .ok (.invokevirtual 164, 3) := by decide +kernel
theorem dX5_reduce_9 : decode cX5_reduce 9 = .ok (.istore_n 3, 1) := by decide +kernel
theorem dX5_reduce_10 : decode cX5_reduce 10 = .ok (.aload_n 0, 1) := by decide +kernel
theorem dX5_reduce_11 : decode cX5_reduce 11 = .ok (.getfield 23, 3) := by decide +kernel
theorem dX5_reduce_14 : decode cX5_reduce 14 = .ok (.iload_n 1, 1) := by decide +kernel
theorem dX5_reduce_15 : decode cX5_reduce 15 = .ok (.iload_n 2, 1) := by decide +kernel
theorem dX5_reduce_16 : decode cX5_reduce 16 = .ok (.invokevirtual 113, 3) := by decide +kernel
theorem dX5_reduce_19 : decode cX5_reduce 19 = .ok (.istore 4, 2) := by decide +kernel
theorem dX5_reduce_21 : decode cX5_reduce 21 = .ok (.iload_n 1, 1) := by decide +kernel
theorem dX5_reduce_22 : decode cX5_reduce 22 = .ok (.iconst 1, 1) := by decide +kernel
theorem dX5_reduce_23 : decode cX5_reduce 23 = .ok (.iadd, 1) := by decide +kernel
theorem dX5_reduce_24 : decode cX5_reduce 24 = .ok (.istore 5, 2) := by decide +kernel
theorem dX5_reduce_26 : decode cX5_reduce 26 = .ok (.aload_n 0, 1) := by decide +kernel
theorem dX5_reduce_27 : decode cX5_reduce 27 = .ok (.getfield 23, 3) := by decide +kernel
theorem dX5_reduce_30 : decode cX5_reduce 30 = .ok (.iload_n 1, 1) := by decide +kernel
theorem dX5_reduce_31 : decode cX5_reduce 31 = .ok (.iload_n 2, 1) := by decide +kernel
theorem dX5_reduce_32 : decode cX5_reduce 32 = .ok (.aload_n 0, 1) := by decide +kernel
theorem dX5_reduce_33 : decode cX5_reduce 33 = .ok (.getfield 23, 3) := by decide +kernel
theorem dX5_reduce_36 : decode cX5_reduce 36 = .ok (.iload_n 1, 1) := by decide +kernel
theorem dX5_reduce_37 : decode cX5_reduce 37 = .ok (.invokevirtual 107, 3) := by decide +kernel
theorem dX5_reduce_40 : decode cX5_reduce 40 = .ok (.invokevirtual 137, 3) := by decide +kernel
theorem dX5_reduce_43 : decode cX5_reduce 43 = .ok (.aload_n 0, 1) := by decide +kernel
theorem dX5_reduce_44 : decode cX5_reduce 44 = .ok (.getfield 54, 3) := by decide +kernel
theorem dX5_reduce_47 : decode cX5_reduce 47 = .ok (.iload_n 3, 1) := by decide +kernel
theorem dX5_reduce_48 : decode cX5_reduce 48 = .ok (.invokevirtual 126, 3) := by decide +kernel
theorem dX5_reduce_51 : decode cX5_reduce 51 = .ok (.tableswitch 165 3 5 #[25, 99, 156], 25) := by decide +kernel
theorem dX5_reduce_76 : decode cX5_reduce 76 = .ok (.aload_n 0, 1) := by decide +kernel
theorem dX5_reduce_77 : decode cX5_reduce 77 = .ok (.aload_n 0, 1) := by decide +kernel
theorem dX5_reduce_78 : decode cX5_reduce 78 = .ok (.getfield 23, 3) := by decide +kernel
theorem dX5_reduce_81 : decode cX5_reduce 81 = .ok (.iload 5, 2) := by decide +kernel
theorem dX5_reduce_83 : decode cX5_reduce 83 = .ok (.aload_n 0, 1) := by decide +kernel
theorem dX5_reduce_84 : decode cX5_reduce 84 = .ok (.getfield 54, 3) := by decide +kernel
theorem dX5_reduce_87 : decode cX5_reduce 87 = .ok (.iload_n 3, 1) := by decide +kernel
theorem dX5_reduce_88 : decode cX5_reduce 88 = .ok (.invokevirtual 134, 3) := by decide +kernel
theorem dX5_reduce_91 : decode cX5_reduce 91 = .ok (.aload_n 0, 1) := by decide +kernel
theorem dX5_reduce_92 : decode cX5_reduce 92 = .ok (.getfield 16, 3) := by decide +kernel
theorem dX5_reduce_95 : decode cX5_reduce 95 = .ok (.bipush 70, 2) := by decide +kernel
theorem dX5_reduce_97 : decode cX5_reduce 97 = .ok (.iload 4, 2) := by decide +kernel
theorem dX5_reduce_99 : decode cX5_reduce 99 = .ok (.invokevirtual 119, 3) := by decide +kernel
theorem dX5_reduce_102 : decode cX5_reduce 102 = .ok (.invokevirtual 81, 3) := by decide +kernel
theorem dX5_reduce_105 : decode cX5_reduce 105 = .ok (.ifCond .eq 38, 3) := by decide +kernel
theorem dX5_reduce_108 : decode cX5_reduce 108 = .ok (.aload_n 0, 1) := by decide +kernel
theorem dX5_reduce_109 : decode cX5_reduce 109 = .ok (.getfield 23, 3) := by decide +kernel
theorem dX5_reduce_112 : decode cX5_reduce 112 = .ok (.iload 5, 2) := by decide +kernel
theorem dX5_reduce_114 : decode cX5_reduce 114 = .ok (.aload_n 0, 1) := by decide +kernel
theorem dX5_reduce_115 : decode cX5_reduce 115 = .ok (.getfield 54, 3) := by decide +kernel
theorem dX5_reduce_118 : decode cX5_reduce 118 = .ok (.iload_n 3, 1) := by decide +kernel
theorem dX5_reduce_119 : decode cX5_reduce 119 = .ok (.invokevirtual 150, 3) := by decide +kernel
theorem dX5_reduce_122 : decode cX5_reduce 122 = .ok (.aload_n 0, 1) := by decide +kernel
theorem dX5_reduce_123 : decode cX5_reduce 123 = .ok (.getfield 16, 3) := by decide +kernel
theorem dX5_reduce_126 : decode cX5_reduce 126 = .ok (.bipush 83, 2) := by decide +kernel
theorem dX5_reduce_128 : decode cX5_reduce 128 = .ok (.iload 4, 2) := by decide +kernel
theorem dX5_reduce_130 : decode cX5_reduce 130 = .ok (.invokevirtual 119, 3) := by decide +kernel
theorem dX5_reduce_133 : decode cX5_reduce 133 = .ok (.invokevirtual 81, 3) := by decide +kernel
theorem dX5_reduce_136 : decode cX5_reduce 136 = .ok (.ifCond .eq 7, 3) := by decide +kernel
theorem dX5_reduce_139 : decode cX5_reduce 139 = .ok (.iconst 1, 1) := by decide +kernel
theorem dX5_reduce_140 : decode cX5_reduce 140 = .ok (.goto 4, 3) := by decide +kernel
theorem dX5_reduce_143 : decode cX5_reduce 143 = .ok (.iconst 0, 1) := by decide +kernel
theorem dX5_reduce_144 : decode cX5_reduce 144 = .ok (.iload_n 1, 1) := by decide +kernel
theorem dX5_reduce_145 : decode cX5_reduce 145 = .ok (.iconst 0, 1) := by decide +kernel
theorem dX5_reduce_146 : decode cX5_reduce 146 = .ok (.invokevirtual 157, 3) := by decide +kernel
theorem dX5_reduce_149 : decode cX5_reduce 149 = .ok (.ireturn, 1) := by decide +kernel
theorem dX5_reduce_150 : decode cX5_reduce 150 = .ok (.aload_n 0, 1) := by decide +kernel
theorem dX5_reduce_151 : decode cX5_reduce 151 = .ok (.getfield 38, 3) := by decide +kernel
theorem dX5_reduce_154 : decode cX5_reduce 154 = .ok (.iload_n 1, 1) := by decide +kernel
theorem dX5_reduce_155 : decode cX5_reduce 155 = .ok (.iload_n 2, 1) := by decide +kernel
theorem dX5_reduce_156 : decode cX5_reduce 156 = .ok (.invokestatic 93, 3) := by decide +kernel
theorem dX5_reduce_159 : decode cX5_reduce 159 = .ok (.aload_n 0, 1) := by decide +kernel
theorem dX5_reduce_160 : decode cX5_reduce 160 = .ok (.getfield 44, 3) := by decide +kernel
theorem dX5_reduce_163 : decode cX5_reduce 163 = .ok (.iload_n 1, 1) := by decide +kernel
theorem dX5_reduce_164 : decode cX5_reduce 164 = .ok (.aload_n 0, 1) := by decide +kernel
theorem dX5_reduce_165 : decode cX5_reduce 165 = .ok (.getfield 16, 3) := by decide +kernel
theorem dX5_reduce_168 : decode cX5_reduce 168 = .ok (.iconst 0, 1) := by decide +kernel
theorem dX5_reduce_169 : decode cX5_reduce 169 = .ok (.invokevirtual 77, 3) := by decide +kernel
theorem dX5_reduce_172 : decode cX5_reduce 172 = .ok (.invokestatic 93, 3) := by decide +kernel
theorem dX5_reduce_175 : decode cX5_reduce 175 = .ok (.aload_n 0, 1) := by decide +kernel
theorem dX5_reduce_176 : decode cX5_reduce 176 = .ok (.aload_n 0, 1) := by decide +kernel
theorem dX5_reduce_177 : decode cX5_reduce 177 = .ok (.getfield 23, 3) := by decide +kernel
theorem dX5_reduce_180 : decode cX5_reduce 180 = .ok (.iload 5, 2) := by decide +kernel
theorem dX5_reduce_182 : decode cX5_reduce 182 = .ok (.aload_n 0, 1) := by decide +kernel
theorem dX5_reduce_183 : decode cX5_reduce 183 = .ok (.getfield 54, 3) := by decide +kernel
theorem dX5_reduce_186 : decode cX5_reduce 186 = .ok (.iload_n 3, 1) := by decide +kernel
theorem dX5_reduce_187 : decode cX5_reduce 187 = .ok (.invokevirtual 134, 3) := by decide +kernel
theorem dX5_reduce_190 : decode cX5_reduce 190 = .ok (.aload_n 0, 1) := by decide +kernel
theorem dX5_reduce_191 : decode cX5_reduce 191 = .ok (.getfield 44, 3) := by decide +kernel
theorem dX5_reduce_194 : decode cX5_reduce 194 = .ok (.iload_n 1, 1) := by decide +kernel
theorem dX5_reduce_195 : decode cX5_reduce 195 = .ok (.invokestatic 153, 3) := by decide +kernel
theorem dX5_reduce_198 : decode cX5_reduce 198 = .ok (.invokevirtual 81, 3) := by decide +kernel
theorem dX5_reduce_201 : decode cX5_reduce 201 = .ok (.iload_n 1, 1) := by decide +kernel
theorem dX5_reduce_202 : decode cX5_reduce 202 = .ok (.iconst 4, 1) := by decide +kernel
theorem dX5_reduce_203 : decode cX5_reduce 203 = .ok (.invokevirtual 157, 3) := by decide +kernel
theorem dX5_reduce_206 : decode cX5_reduce 206 = .ok (.ireturn, 1) := by decide +kernel
theorem dX5_reduce_207 : decode cX5_reduce 207 = .ok (.aload_n 0, 1) := by decide +kernel
theorem dX5_reduce_208 : decode cX5_reduce 208 = .ok (.iload_n 1, 1) := by decide +kernel
theorem dX5_reduce_209 : decode cX5_reduce 209 = .ok (.iload_n 3, 1) := by decide +kernel
theorem dX5_reduce_210 : decode cX5_reduce 210 = .ok (.iload 4, 2) := by decide +kernel
theorem dX5_reduce_212 : decode cX5_reduce 212 = .ok (.invokevirtual 174, 3) := by decide +kernel
theorem dX5_reduce_215 : decode cX5_reduce 215 = .ok (.ireturn, 1) := by decide +kernel
theorem dX5_reduce_216 : decode cX5_reduce 216 = .ok (.aload_n 0, 1) := by decide +kernel
theorem dX5_reduce_217 : decode cX5_reduce 217 = .ok (.iload_n 1, 1) := by decide +kernel
theorem dX5_reduce_218 : decode cX5_reduce 218 = .ok (.iconst 0, 1) := by decide +kernel
theorem dX5_reduce_219 : decode cX5_reduce 219 = .ok (.invokevirtual 97, 3) := by decide +kernel
theorem dX5_reduce_222 : decode cX5_reduce 222 = .ok (.ireturn, 1) := by decide +kernel
theorem dX5_reduceImplication_0 : decode cX5_reduceImplication 0 = .ok (.aload_n 0, 1) := by decide +kernel
theorem dX5_reduceImplication_1 : decode cX5_reduceImplication 1 = .ok (.getfield 54, 3) := by decide +kernel
theorem dX5_reduceImplication_4 : decode cX5_reduceImplication 4 = .ok (.iload_n 2, 1) := by decide +kernel
theorem dX5_reduceImplication_5 : decode cX5_reduceImplication 5 = .ok (.invokevirtual 134, 3) := by decide +kernel
theorem dX5_reduceImplication_8 : decode cX5_reduceImplication 8 = .ok (.istore 4, 2) := by decide +kernel
theorem dX5_reduceImplication_10 : decode cX5_reduceImplication 10 = .ok (.aload_n 0, 1) := by decide +kernel
theorem dX5_reduceImplication_11 : decode cX5_reduceImplication 11 = .ok (.getfield 54, 3) := by decide +kernel
theorem dX5_reduceImplication_14 : decode cX5_reduceImplication 14 = .ok (.iload_n 2, 1) := by decide +kernel
theorem dX5_reduceImplication_15 : decode cX5_reduceImplication 15 = .ok (.invokevirtual 150, 3) := by decide +kernel
theorem dX5_reduceImplication_18 : decode cX5_reduceImplication 18 = .ok (.istore 5, 2) := by decide +kernel
theorem dX5_reduceImplication_20 : decode cX5_reduceImplication 20 = .ok (.aload_n 0, 1) := by decide +kernel
theorem dX5_reduceImplication_21 : decode cX5_reduceImplication 21 = .ok (.getfield 54, 3) := by decide +kernel
theorem dX5_reduceImplication_24 : decode cX5_reduceImplication 24 = .ok (.iload 4, 2) := by decide +kernel
theorem dX5_reduceImplication_26 : decode cX5_reduceImplication 26 = .ok (.invokevirtual 126, 3) := by decide +kernel
theorem dX5_reduceImplication_29 : decode cX5_reduceImplication 29 = .ok (.tableswitch 197 1 4 #[31, 67, 118, 137], 31) := by decide +kernel
theorem dX5_reduceImplication_60 : decode cX5_reduceImplication 60 = .ok (.aload_n 0, 1) := by decide +kernel
theorem dX5_reduceImplication_61 : decode cX5_reduceImplication 61 = .ok (.aload_n 0, 1) := by decide +kernel
theorem dX5_reduceImplication_62 : decode cX5_reduceImplication 62 = .ok (.getfield 23, 3) := by decide +kernel
theorem dX5_reduceImplication_65 : decode cX5_reduceImplication 65 = .ok (.iload_n 1, 1) := by decide +kernel
theorem dX5_reduceImplication_66 : decode cX5_reduceImplication 66 = .ok (.iconst 1, 1) := by decide +kernel
theorem dX5_reduceImplication_67 : decode cX5_reduceImplication 67 = .ok (.iadd, 1) := by decide +kernel
theorem dX5_reduceImplication_68 : decode cX5_reduceImplication 68 = .ok (.iload 5, 2) := by decide +kernel
theorem dX5_reduceImplication_70 : decode cX5_reduceImplication 70 = .ok (.aload_n 0, 1) := by decide +kernel
theorem dX5_reduceImplication_71 : decode cX5_reduceImplication 71 = .ok (.getfield 16, 3) := by decide +kernel
theorem dX5_reduceImplication_74 : decode cX5_reduceImplication 74 = .ok (.bipush 65, 2) := by decide +kernel
theorem dX5_reduceImplication_76 : decode cX5_reduceImplication 76 = .ok (.iload_n 3, 1) := by decide +kernel
theorem dX5_reduceImplication_77 : decode cX5_reduceImplication 77 = .ok (.aload_n 0, 1) := by decide +kernel
theorem dX5_reduceImplication_78 : decode cX5_reduceImplication 78 = .ok (.getfield 16, 3) := by decide +kernel
theorem dX5_reduceImplication_81 : decode cX5_reduceImplication 81 = .ok (.invokevirtual 122, 3) := by decide +kernel
theorem dX5_reduceImplication_84 : decode cX5_reduceImplication 84 = .ok (.invokevirtual 178, 3) := by decide +kernel
theorem dX5_reduceImplication_87 : decode cX5_reduceImplication 87 = .ok (.invokevirtual 81, 3) := by decide +kernel
theorem dX5_reduceImplication_90 : decode cX5_reduceImplication 90 = .ok (.iload_n 1, 1) := by decide +kernel
theorem dX5_reduceImplication_91 : decode cX5_reduceImplication 91 = .ok (.iconst 0, 1) := by decide +kernel
theorem dX5_reduceImplication_92 : decode cX5_reduceImplication 92 = .ok (.invokevirtual 157, 3) := by decide +kernel
theorem dX5_reduceImplication_95 : decode cX5_reduceImplication 95 = .ok (.ireturn, 1) := by decide +kernel
theorem dX5_reduceImplication_96 : decode cX5_reduceImplication 96 = .ok (.aload_n 0, 1) := by decide +kernel
theorem dX5_reduceImplication_97 : decode cX5_reduceImplication 97 = .ok (.getfield 23, 3) := by decide +kernel
theorem dX5_reduceImplication_100 : decode cX5_reduceImplication 100 = .ok (.iload_n 1, 1) := by decide +kernel
theorem dX5_reduceImplication_101 : decode cX5_reduceImplication 101 = .ok (.aload_n 0, 1) := by decide +kernel
theorem dX5_reduceImplication_102 : decode cX5_reduceImplication 102 = .ok (.getfield 23, 3) := by decide +kernel
theorem dX5_reduceImplication_105 : decode cX5_reduceImplication 105 = .ok (.iload_n 1, 1) := by decide +kernel
theorem dX5_reduceImplication_106 : decode cX5_reduceImplication 106 = .ok (.iload 4, 2) := by decide +kernel
theorem dX5_reduceImplication_108 : decode cX5_reduceImplication 108 = .ok (.invokevirtual 110, 3) := by decide +kernel
theorem dX5_reduceImplication_111 : decode cX5_reduceImplication 111 = .ok (.invokevirtual 113, 3) := by decide +kernel
theorem dX5_reduceImplication_114 : decode cX5_reduceImplication 114 = .ok (.istore 6, 2) := by decide +kernel
theorem dX5_reduceImplication_116 : decode cX5_reduceImplication 116 = .ok (.aload_n 0, 1) := by decide +kernel
theorem dX5_reduceImplication_117 : decode cX5_reduceImplication 117 = .ok (.aload_n 0, 1) := by decide +kernel
theorem dX5_reduceImplication_118 : decode cX5_reduceImplication 118 = .ok (.getfield 23, 3) := by decide +kernel
theorem dX5_reduceImplication_121 : decode cX5_reduceImplication 121 = .ok (.iload_n 1, 1) := by decide +kernel
theorem dX5_reduceImplication_122 : decode cX5_reduceImplication 122 = .ok (.iconst 1, 1) := by decide +kernel
theorem dX5_reduceImplication_123 : decode cX5_reduceImplication 123 = .ok (.iadd, 1) := by decide +kernel
theorem dX5_reduceImplication_124 : decode cX5_reduceImplication 124 = .ok (.iload 5, 2) := by decide +kernel
theorem dX5_reduceImplication_126 : decode cX5_reduceImplication 126 = .ok (.aload_n 0, 1) := by decide +kernel
theorem dX5_reduceImplication_127 : decode cX5_reduceImplication 127 = .ok (.getfield 16, 3) := by decide +kernel
theorem dX5_reduceImplication_130 : decode cX5_reduceImplication 130 = .ok (.bipush 65, 2) := by decide +kernel
theorem dX5_reduceImplication_132 : decode cX5_reduceImplication 132 = .ok (.iload_n 3, 1) := by decide +kernel
theorem dX5_reduceImplication_133 : decode cX5_reduceImplication 133 = .ok (.iload 6, 2) := by decide +kernel
theorem dX5_reduceImplication_135 : decode cX5_reduceImplication 135 = .ok (.invokevirtual 178, 3) := by decide +kernel
theorem dX5_reduceImplication_138 : decode cX5_reduceImplication 138 = .ok (.invokevirtual 81, 3) := by decide +kernel
theorem dX5_reduceImplication_141 : decode cX5_reduceImplication 141 = .ok (.iload_n 1, 1) := by decide +kernel
theorem dX5_reduceImplication_142 : decode cX5_reduceImplication 142 = .ok (.iconst 0, 1) := by decide +kernel
theorem dX5_reduceImplication_143 : decode cX5_reduceImplication 143 = .ok (.invokevirtual 157, 3) := by decide +kernel
theorem dX5_reduceImplication_146 : decode cX5_reduceImplication 146 = .ok (.ireturn, 1) := by decide +kernel
theorem dX5_reduceImplication_147 : decode cX5_reduceImplication 147 = .ok (.aload_n 0, 1) := by decide +kernel
theorem dX5_reduceImplication_148 : decode cX5_reduceImplication 148 = .ok (.aload_n 0, 1) := by decide +kernel
theorem dX5_reduceImplication_149 : decode cX5_reduceImplication 149 = .ok (.iload_n 1, 1) := by decide +kernel
theorem dX5_reduceImplication_150 : decode cX5_reduceImplication 150 = .ok (.iconst 1, 1) := by decide +kernel
theorem dX5_reduceImplication_151 : decode cX5_reduceImplication 151 = .ok (.iadd, 1) := by decide +kernel
theorem dX5_reduceImplication_152 : decode cX5_reduceImplication 152 = .ok (.iload 4, 2) := by decide +kernel
theorem dX5_reduceImplication_154 : decode cX5_reduceImplication 154 = .ok (.iload 5, 2) := by decide +kernel
theorem dX5_reduceImplication_156 : decode cX5_reduceImplication 156 = .ok (.iload_n 3, 1) := by decide +kernel
theorem dX5_reduceImplication_157 : decode cX5_reduceImplication 157 = .ok (.invokevirtual 181, 3) := by decide +kernel
theorem dX5_reduceImplication_160 : decode cX5_reduceImplication 160 = .ok (.iload_n 1, 1) := by decide +kernel
theorem dX5_reduceImplication_161 : decode cX5_reduceImplication 161 = .ok (.iconst 0, 1) := by decide +kernel
theorem dX5_reduceImplication_162 : decode cX5_reduceImplication 162 = .ok (.invokevirtual 157, 3) := by decide +kernel
theorem dX5_reduceImplication_165 : decode cX5_reduceImplication 165 = .ok (.ireturn, 1) := by decide +kernel
theorem dX5_reduceImplication_166 : decode cX5_reduceImplication 166 = .ok (.aload_n 0, 1) := by decide +kernel
theorem dX5_reduceImplication_167 : decode cX5_reduceImplication 167 = .ok (.aload_n 0, 1) := by decide +kernel
theorem dX5_reduceImplication_168 : decode cX5_reduceImplication 168 = .ok (.iload_n 1, 1) := by decide +kernel
theorem dX5_reduceImplication_169 : decode cX5_reduceImplication 169 = .ok (.iconst 1, 1) := by decide +kernel
theorem dX5_reduceImplication_170 : decode cX5_reduceImplication 170 = .ok (.iadd, 1) := by decide +kernel
theorem dX5_reduceImplication_171 : decode cX5_reduceImplication 171 = .ok (.aload_n 0, 1) := by decide +kernel
theorem dX5_reduceImplication_172 : decode cX5_reduceImplication 172 = .ok (.getfield 54, 3) := by decide +kernel
theorem dX5_reduceImplication_175 : decode cX5_reduceImplication 175 = .ok (.iload 4, 2) := by decide +kernel
theorem dX5_reduceImplication_177 : decode cX5_reduceImplication 177 = .ok (.invokevirtual 134, 3) := by decide +kernel
theorem dX5_reduceImplication_180 : decode cX5_reduceImplication 180 = .ok (.iload 5, 2) := by decide +kernel
theorem dX5_reduceImplication_182 : decode cX5_reduceImplication 182 = .ok (.iload_n 3, 1) := by decide +kernel
theorem dX5_reduceImplication_183 : decode cX5_reduceImplication 183 = .ok (.bipush 73, 2) := by decide +kernel
theorem dX5_reduceImplication_185 : decode cX5_reduceImplication 185 = .ok (.invokevirtual 185, 3) := by decide +kernel
theorem dX5_reduceImplication_188 : decode cX5_reduceImplication 188 = .ok (.ifCond .eq 31, 3) := by decide +kernel
theorem dX5_reduceImplication_191 : decode cX5_reduceImplication 191 = .ok (.aload_n 0, 1) := by decide +kernel
theorem dX5_reduceImplication_192 : decode cX5_reduceImplication 192 = .ok (.iload_n 1, 1) := by decide +kernel
theorem dX5_reduceImplication_193 : decode cX5_reduceImplication 193 = .ok (.iconst 1, 1) := by decide +kernel
theorem dX5_reduceImplication_194 : decode cX5_reduceImplication 194 = .ok (.iadd, 1) := by decide +kernel
theorem dX5_reduceImplication_195 : decode cX5_reduceImplication 195 = .ok (.aload_n 0, 1) := by decide +kernel
theorem dX5_reduceImplication_196 : decode cX5_reduceImplication 196 = .ok (.getfield 54, 3) := by decide +kernel
theorem dX5_reduceImplication_199 : decode cX5_reduceImplication 199 = .ok (.iload 4, 2) := by decide +kernel
theorem dX5_reduceImplication_201 : decode cX5_reduceImplication 201 = .ok (.invokevirtual 150, 3) := by decide +kernel
theorem dX5_reduceImplication_204 : decode cX5_reduceImplication 204 = .ok (.iload 5, 2) := by decide +kernel
theorem dX5_reduceImplication_206 : decode cX5_reduceImplication 206 = .ok (.iload_n 3, 1) := by decide +kernel
theorem dX5_reduceImplication_207 : decode cX5_reduceImplication 207 = .ok (.bipush 74, 2) := by decide +kernel
theorem dX5_reduceImplication_209 : decode cX5_reduceImplication 209 = .ok (.invokevirtual 185, 3) := by decide +kernel
theorem dX5_reduceImplication_212 : decode cX5_reduceImplication 212 = .ok (.ifCond .eq 7, 3) := by decide +kernel
theorem dX5_reduceImplication_215 : decode cX5_reduceImplication 215 = .ok (.iconst 1, 1) := by decide +kernel
theorem dX5_reduceImplication_216 : decode cX5_reduceImplication 216 = .ok (.goto 4, 3) := by decide +kernel
theorem dX5_reduceImplication_219 : decode cX5_reduceImplication 219 = .ok (.iconst 0, 1) := by decide +kernel
theorem dX5_reduceImplication_220 : decode cX5_reduceImplication 220 = .ok (.iload_n 1, 1) := by decide +kernel
theorem dX5_reduceImplication_221 : decode cX5_reduceImplication 221 = .ok (.iconst 0, 1) := by decide +kernel
theorem dX5_reduceImplication_222 : decode cX5_reduceImplication 222 = .ok (.invokevirtual 157, 3) := by decide +kernel
theorem dX5_reduceImplication_225 : decode cX5_reduceImplication 225 = .ok (.ireturn, 1) := by decide +kernel
theorem dX5_reduceImplication_226 : decode cX5_reduceImplication 226 = .ok (.aload_n 0, 1) := by decide +kernel
theorem dX5_reduceImplication_227 : decode cX5_reduceImplication 227 = .ok (.iload_n 1, 1) := by decide +kernel
theorem dX5_reduceImplication_228 : decode cX5_reduceImplication 228 = .ok (.iconst 0, 1) := by decide +kernel
theorem dX5_reduceImplication_229 : decode cX5_reduceImplication 229 = .ok (.invokevirtual 97, 3) := by decide +kernel
theorem dX5_reduceImplication_232 : decode cX5_reduceImplication 232 = .ok (.ireturn, 1) := by decide +kernel
theorem dX5_comesCurried_0 : decode cX5_comesCurried 0 = .ok (.aload_n 0, 1) := by decide +kernel
theorem dX5_comesCurried_1 : decode cX5_comesCurried 1 = .ok (.getfield 54, 3) := by decide +kernel
theorem dX5_comesCurried_4 : decode cX5_comesCurried 4 = .ok (.iload_n 2, 1) := by decide +kernel
theorem dX5_comesCurried_5 : decode cX5_comesCurried 5 = .ok (.invokevirtual 134, 3) := by decide +kernel
theorem dX5_comesCurried_8 : decode cX5_comesCurried 8 = .ok (.istore 5, 2) := by decide +kernel
theorem dX5_comesCurried_10 : decode cX5_comesCurried 10 = .ok (.aload_n 0, 1) := by decide +kernel
theorem dX5_comesCurried_11 : decode cX5_comesCurried 11 = .ok (.getfield 54, 3) := by decide +kernel
theorem dX5_comesCurried_14 : decode cX5_comesCurried 14 = .ok (.iload_n 2, 1) := by decide +kernel
theorem dX5_comesCurried_15 : decode cX5_comesCurried 15 = .ok (.invokevirtual 150, 3) := by decide +kernel
theorem dX5_comesCurried_18 : decode cX5_comesCurried 18 = .ok (.istore 6, 2) := by decide +kernel
theorem dX5_comesCurried_20 : decode cX5_comesCurried 20 = .ok (.aload_n 0, 1) := by decide +kernel
theorem dX5_comesCurried_21 : decode cX5_comesCurried 21 = .ok (.getfield 54, 3) := by decide +kernel
theorem dX5_comesCurried_24 : decode cX5_comesCurried 24 = .ok (.iconst 5, 1) := by decide +kernel
theorem dX5_comesCurried_25 : decode cX5_comesCurried 25 = .ok (.iload 6, 2) := by decide +kernel
theorem dX5_comesCurried_27 : decode cX5_comesCurried 27 = .ok (.iload_n 3, 1) := by decide +kernel
theorem dX5_comesCurried_28 : decode cX5_comesCurried 28 = .ok (.invokevirtual 189, 3) := by decide +kernel
theorem dX5_comesCurried_31 : decode cX5_comesCurried 31 = .ok (.istore 7, 2) := by decide +kernel
theorem dX5_comesCurried_33 : decode cX5_comesCurried 33 = .ok (.iload 7, 2) := by decide +kernel
theorem dX5_comesCurried_35 : decode cX5_comesCurried 35 = .ok (.ifCond .ge 7, 3) := by decide +kernel
theorem dX5_comesCurried_38 : decode cX5_comesCurried 38 = .ok (.iconst (-1), 1) := by decide +kernel
theorem dX5_comesCurried_39 : decode cX5_comesCurried 39 = .ok (.goto 15, 3) := by decide +kernel
theorem dX5_comesCurried_42 : decode cX5_comesCurried 42 = .ok (.aload_n 0, 1) := by decide +kernel
theorem dX5_comesCurried_43 : decode cX5_comesCurried 43 = .ok (.getfield 54, 3) := by decide +kernel
theorem dX5_comesCurried_46 : decode cX5_comesCurried 46 = .ok (.iconst 5, 1) := by decide +kernel
theorem dX5_comesCurried_47 : decode cX5_comesCurried 47 = .ok (.iload 5, 2) := by decide +kernel
theorem dX5_comesCurried_49 : decode cX5_comesCurried 49 = .ok (.iload 7, 2) := by decide +kernel
theorem dX5_comesCurried_51 : decode cX5_comesCurried 51 = .ok (.invokevirtual 189, 3) := by decide +kernel
theorem dX5_comesCurried_54 : decode cX5_comesCurried 54 = .ok (.istore 8, 2) := by decide +kernel
theorem dX5_comesCurried_56 : decode cX5_comesCurried 56 = .ok (.iload 8, 2) := by decide +kernel
theorem dX5_comesCurried_58 : decode cX5_comesCurried 58 = .ok (.ifCond .ge 5, 3) := by decide +kernel
theorem dX5_comesCurried_61 : decode cX5_comesCurried 61 = .ok (.iconst 0, 1) := by decide +kernel
theorem dX5_comesCurried_62 : decode cX5_comesCurried 62 = .ok (.ireturn, 1) := by decide +kernel
theorem dX5_comesCurried_63 : decode cX5_comesCurried 63 = .ok (.aload_n 0, 1) := by decide +kernel
theorem dX5_comesCurried_64 : decode cX5_comesCurried 64 = .ok (.getfield 16, 3) := by decide +kernel
theorem dX5_comesCurried_67 : decode cX5_comesCurried 67 = .ok (.iconst 0, 1) := by decide +kernel
theorem dX5_comesCurried_68 : decode cX5_comesCurried 68 = .ok (.invokevirtual 77, 3) := by decide +kernel
theorem dX5_comesCurried_71 : decode cX5_comesCurried 71 = .ok (.istore 9, 2) := by decide +kernel
theorem dX5_comesCurried_73 : decode cX5_comesCurried 73 = .ok (.aload_n 0, 1) := by decide +kernel
theorem dX5_comesCurried_74 : decode cX5_comesCurried 74 = .ok (.getfield 16, 3) := by decide +kernel
theorem dX5_comesCurried_77 : decode cX5_comesCurried 77 = .ok (.iconst 0, 1) := by decide +kernel
theorem dX5_comesCurried_78 : decode cX5_comesCurried 78 = .ok (.invokevirtual 77, 3) := by decide +kernel
theorem dX5_comesCurried_81 : decode cX5_comesCurried 81 = .ok (.istore 10, 2) := by decide +kernel
theorem dX5_comesCurried_83 : decode cX5_comesCurried 83 = .ok (.aload_n 0, 1) := by decide +kernel
theorem dX5_comesCurried_84 : decode cX5_comesCurried 84 = .ok (.getfield 16, 3) := by decide +kernel
theorem dX5_comesCurried_87 : decode cX5_comesCurried 87 = .ok (.bipush 65, 2) := by decide +kernel
theorem dX5_comesCurried_89 : decode cX5_comesCurried 89 = .ok (.iload 4, 2) := by decide +kernel
theorem dX5_comesCurried_91 : decode cX5_comesCurried 91 = .ok (.aload_n 0, 1) := by decide +kernel
theorem dX5_comesCurried_92 : decode cX5_comesCurried 92 = .ok (.getfield 16, 3) := by decide +kernel
theorem dX5_comesCurried_95 : decode cX5_comesCurried 95 = .ok (.bipush 80, 2) := by decide +kernel
theorem dX5_comesCurried_97 : decode cX5_comesCurried 97 = .ok (.iload 9, 2) := by decide +kernel
theorem dX5_comesCurried_99 : decode cX5_comesCurried 99 = .ok (.iload 10, 2) := by decide +kernel
theorem dX5_comesCurried_101 : decode cX5_comesCurried 101 = .ok (.invokevirtual 178, 3) := by decide +kernel
theorem dX5_comesCurried_104 : decode cX5_comesCurried 104 = .ok (.invokevirtual 178, 3) := by decide +kernel
theorem dX5_comesCurried_107 : decode cX5_comesCurried 107 = .ok (.istore 11, 2) := by decide +kernel
theorem dX5_comesCurried_109 : decode cX5_comesCurried 109 = .ok (.aload_n 0, 1) := by decide +kernel
theorem dX5_comesCurried_110 : decode cX5_comesCurried 110 = .ok (.getfield 23, 3) := by decide +kernel
theorem dX5_comesCurried_113 : decode cX5_comesCurried 113 = .ok (.iload_n 1, 1) := by decide +kernel
theorem dX5_comesCurried_114 : decode cX5_comesCurried 114 = .ok (.iload 8, 2) := by decide +kernel
theorem dX5_comesCurried_116 : decode cX5_comesCurried 116 = .ok (.aload_n 0, 1) := by decide +kernel
theorem dX5_comesCurried_117 : decode cX5_comesCurried 117 = .ok (.getfield 16, 3) := by decide +kernel
theorem dX5_comesCurried_120 : decode cX5_comesCurried 120 = .ok (.iload 5, 2) := by decide +kernel
theorem dX5_comesCurried_122 : decode cX5_comesCurried 122 = .ok (.aload_n 0, 1) := by decide +kernel
theorem dX5_comesCurried_123 : decode cX5_comesCurried 123 = .ok (.getfield 16, 3) := by decide +kernel
theorem dX5_comesCurried_126 : decode cX5_comesCurried 126 = .ok (.iload 6, 2) := by decide +kernel
theorem dX5_comesCurried_128 : decode cX5_comesCurried 128 = .ok (.iload 11, 2) := by decide +kernel
theorem dX5_comesCurried_130 : decode cX5_comesCurried 130 = .ok (.iload 10, 2) := by decide +kernel
theorem dX5_comesCurried_132 : decode cX5_comesCurried 132 = .ok (.invokevirtual 192, 3) := by decide +kernel
theorem dX5_comesCurried_135 : decode cX5_comesCurried 135 = .ok (.iload 9, 2) := by decide +kernel
theorem dX5_comesCurried_137 : decode cX5_comesCurried 137 = .ok (.invokevirtual 192, 3) := by decide +kernel
theorem dX5_comesCurried_140 : decode cX5_comesCurried 140 = .ok (.invokevirtual 81, 3) := by decide +kernel
theorem dX5_comesCurried_143 : decode cX5_comesCurried 143 = .ok (.ireturn, 1) := by decide +kernel
theorem dX5_comesSide_0 : decode cX5_comesSide 0 = .ok (.aload_n 0, 1) := by decide +kernel
theorem dX5_comesSide_1 : decode cX5_comesSide 1 = .ok (.getfield 54, 3) := by decide +kernel
theorem dX5_comesSide_4 : decode cX5_comesSide 4 = .ok (.iconst 5, 1) := by decide +kernel
theorem dX5_comesSide_5 : decode cX5_comesSide 5 = .ok (.iload_n 2, 1) := by decide +kernel
theorem dX5_comesSide_6 : decode cX5_comesSide 6 = .ok (.iload_n 3, 1) := by decide +kernel
theorem dX5_comesSide_7 : decode cX5_comesSide 7 = .ok (.invokevirtual 189, 3) := by decide +kernel
theorem dX5_comesSide_10 : decode cX5_comesSide 10 = .ok (.istore 6, 2) := by decide +kernel
theorem dX5_comesSide_12 : decode cX5_comesSide 12 = .ok (.iload 6, 2) := by decide +kernel
theorem dX5_comesSide_14 : decode cX5_comesSide 14 = .ok (.ifCond .ge 5, 3) := by decide +kernel
theorem dX5_comesSide_17 : decode cX5_comesSide 17 = .ok (.iconst 0, 1) := by decide +kernel
theorem dX5_comesSide_18 : decode cX5_comesSide 18 = .ok (.ireturn, 1) := by decide +kernel
theorem dX5_comesSide_19 : decode cX5_comesSide 19 = .ok (.aload_n 0, 1) := by decide +kernel
theorem dX5_comesSide_20 : decode cX5_comesSide 20 = .ok (.getfield 16, 3) := by decide +kernel
theorem dX5_comesSide_23 : decode cX5_comesSide 23 = .ok (.iconst 0, 1) := by decide +kernel
theorem dX5_comesSide_24 : decode cX5_comesSide 24 = .ok (.invokevirtual 77, 3) := by decide +kernel
theorem dX5_comesSide_27 : decode cX5_comesSide 27 = .ok (.istore 7, 2) := by decide +kernel
theorem dX5_comesSide_29 : decode cX5_comesSide 29 = .ok (.aload_n 0, 1) := by decide +kernel
theorem dX5_comesSide_30 : decode cX5_comesSide 30 = .ok (.getfield 16, 3) := by decide +kernel
theorem dX5_comesSide_33 : decode cX5_comesSide 33 = .ok (.bipush 65, 2) := by decide +kernel
theorem dX5_comesSide_35 : decode cX5_comesSide 35 = .ok (.iload 4, 2) := by decide +kernel
theorem dX5_comesSide_37 : decode cX5_comesSide 37 = .ok (.aload_n 0, 1) := by decide +kernel
theorem dX5_comesSide_38 : decode cX5_comesSide 38 = .ok (.getfield 16, 3) := by decide +kernel
theorem dX5_comesSide_41 : decode cX5_comesSide 41 = .ok (.iload 5, 2) := by decide +kernel
theorem dX5_comesSide_43 : decode cX5_comesSide 43 = .ok (.iload 7, 2) := by decide +kernel
theorem dX5_comesSide_45 : decode cX5_comesSide 45 = .ok (.invokevirtual 119, 3) := by decide +kernel
theorem dX5_comesSide_48 : decode cX5_comesSide 48 = .ok (.invokevirtual 178, 3) := by decide +kernel
theorem dX5_comesSide_51 : decode cX5_comesSide 51 = .ok (.istore 8, 2) := by decide +kernel
theorem dX5_comesSide_53 : decode cX5_comesSide 53 = .ok (.aload_n 0, 1) := by decide +kernel
theorem dX5_comesSide_54 : decode cX5_comesSide 54 = .ok (.getfield 23, 3) := by decide +kernel
theorem dX5_comesSide_57 : decode cX5_comesSide 57 = .ok (.iload_n 1, 1) := by decide +kernel
theorem dX5_comesSide_58 : decode cX5_comesSide 58 = .ok (.iload 6, 2) := by decide +kernel
theorem dX5_comesSide_60 : decode cX5_comesSide 60 = .ok (.aload_n 0, 1) := by decide +kernel
theorem dX5_comesSide_61 : decode cX5_comesSide 61 = .ok (.getfield 16, 3) := by decide +kernel
theorem dX5_comesSide_64 : decode cX5_comesSide 64 = .ok (.iload_n 2, 1) := by decide +kernel
theorem dX5_comesSide_65 : decode cX5_comesSide 65 = .ok (.iload 8, 2) := by decide +kernel
theorem dX5_comesSide_67 : decode cX5_comesSide 67 = .ok (.iload 7, 2) := by decide +kernel
theorem dX5_comesSide_69 : decode cX5_comesSide 69 = .ok (.invokevirtual 192, 3) := by decide +kernel
theorem dX5_comesSide_72 : decode cX5_comesSide 72 = .ok (.invokevirtual 81, 3) := by decide +kernel
theorem dX5_comesSide_75 : decode cX5_comesSide 75 = .ok (.ireturn, 1) := by decide +kernel
theorem dX5_tryNested_0 : decode cX5_tryNested 0 = .ok (.iload_n 2, 1) := by decide +kernel
theorem dX5_tryNested_1 : decode cX5_tryNested 1 = .ok (.iconst 0, 1) := by decide +kernel
theorem dX5_tryNested_2 : decode cX5_tryNested 2 = .ok (.invokestatic 101, 3) := by decide +kernel
theorem dX5_tryNested_5 : decode cX5_tryNested 5 = .ok (.istore_n 3, 1) := by decide +kernel
theorem dX5_tryNested_6 : decode cX5_tryNested 6 = .ok (.iload_n 3, 1) := by decide +kernel
theorem dX5_tryNested_7 : decode cX5_tryNested 7 = .ok (.aload_n 0, 1) := by decide +kernel
theorem dX5_tryNested_8 : decode cX5_tryNested 8 = .ok (.getfield 23, 3) := by decide +kernel
theorem dX5_tryNested_11 : decode cX5_tryNested 11 = .ok (.iload_n 1, 1) := by decide +kernel
theorem dX5_tryNested_12 : decode cX5_tryNested 12 = .ok (.invokevirtual 161, 3) := by decide +kernel
theorem dX5_tryNested_15 : decode cX5_tryNested 15 = .ok (.if_icmp .ge 64, 3) := by decide +kernel
theorem dX5_tryNested_18 : decode cX5_tryNested 18 = .ok (.aload_n 0, 1) := by decide +kernel
theorem dX5_tryNested_19 : decode cX5_tryNested 19 = .ok (.getfield 23, 3) := by decide +kernel
theorem dX5_tryNested_22 : decode cX5_tryNested 22 = .ok (.iload_n 1, 1) := by decide +kernel
theorem dX5_tryNested_23 : decode cX5_tryNested 23 = .ok (.iload_n 3, 1) := by decide +kernel
theorem dX5_tryNested_24 : decode cX5_tryNested 24 = .ok (.invokevirtual 164, 3) := by decide +kernel
theorem dX5_tryNested_27 : decode cX5_tryNested 27 = .ok (.istore 4, 2) := by decide +kernel
theorem dX5_tryNested_29 : decode cX5_tryNested 29 = .ok (.aload_n 0, 1) := by decide +kernel
theorem dX5_tryNested_30 : decode cX5_tryNested 30 = .ok (.getfield 54, 3) := by decide +kernel
theorem dX5_tryNested_33 : decode cX5_tryNested 33 = .ok (.iload 4, 2) := by decide +kernel
theorem dX5_tryNested_35 : decode cX5_tryNested 35 = .ok (.invokevirtual 134, 3) := by decide +kernel
theorem dX5_tryNested_38 : decode cX5_tryNested 38 = .ok (.istore 5, 2) := by decide +kernel
theorem dX5_tryNested_40 : decode cX5_tryNested 40 = .ok (.aload_n 0, 1) := by decide +kernel
theorem dX5_tryNested_41 : decode cX5_tryNested 41 = .ok (.getfield 54, 3) := by decide +kernel
theorem dX5_tryNested_44 : decode cX5_tryNested 44 = .ok (.iload 4, 2) := by decide +kernel
theorem dX5_tryNested_46 : decode cX5_tryNested 46 = .ok (.invokevirtual 126, 3) := by decide +kernel
theorem dX5_tryNested_49 : decode cX5_tryNested 49 = .ok (.iconst 5, 1) := by decide +kernel
theorem dX5_tryNested_50 : decode cX5_tryNested 50 = .ok (.if_icmp .ne 23, 3) := by decide +kernel
theorem dX5_tryNested_53 : decode cX5_tryNested 53 = .ok (.aload_n 0, 1) := by decide +kernel
theorem dX5_tryNested_54 : decode cX5_tryNested 54 = .ok (.getfield 54, 3) := by decide +kernel
theorem dX5_tryNested_57 : decode cX5_tryNested 57 = .ok (.iload 5, 2) := by decide +kernel
theorem dX5_tryNested_59 : decode cX5_tryNested 59 = .ok (.invokevirtual 126, 3) := by decide +kernel
theorem dX5_tryNested_62 : decode cX5_tryNested 62 = .ok (.iconst 5, 1) := by decide +kernel
theorem dX5_tryNested_63 : decode cX5_tryNested 63 = .ok (.if_icmp .ne 10, 3) := by decide +kernel
theorem dX5_tryNested_66 : decode cX5_tryNested 66 = .ok (.aload_n 0, 1) := by decide +kernel
theorem dX5_tryNested_67 : decode cX5_tryNested 67 = .ok (.iload_n 1, 1) := by decide +kernel
theorem dX5_tryNested_68 : decode cX5_tryNested 68 = .ok (.iload_n 3, 1) := by decide +kernel
theorem dX5_tryNested_69 : decode cX5_tryNested 69 = .ok (.invokevirtual 195, 3) := by decide +kernel
theorem dX5_tryNested_72 : decode cX5_tryNested 72 = .ok (.ireturn, 1) := by decide +kernel
theorem dX5_tryNested_73 : decode cX5_tryNested 73 = .ok (.iinc 3 1, 3) := by decide +kernel
theorem dX5_tryNested_76 : decode cX5_tryNested 76 = .ok (.goto (-70), 3) := by decide +kernel
theorem dX5_tryNested_79 : decode cX5_tryNested 79 = .ok (.aload_n 0, 1) := by decide +kernel
theorem dX5_tryNested_80 : decode cX5_tryNested 80 = .ok (.aload_n 0, 1) := by decide +kernel
theorem dX5_tryNested_81 : decode cX5_tryNested 81 = .ok (.getfield 30, 3) := by decide +kernel
theorem dX5_tryNested_84 : decode cX5_tryNested 84 = .ok (.iload_n 1, 1) := by decide +kernel
theorem dX5_tryNested_85 : decode cX5_tryNested 85 = .ok (.aload_n 0, 1) := by decide +kernel
theorem dX5_tryNested_86 : decode cX5_tryNested 86 = .ok (.iload_n 1, 1) := by decide +kernel
theorem dX5_tryNested_87 : decode cX5_tryNested 87 = .ok (.invokevirtual 167, 3) := by decide +kernel
theorem dX5_tryNested_90 : decode cX5_tryNested 90 = .ok (.invokevirtual 198, 3) := by decide +kernel
theorem dX5_tryNested_93 : decode cX5_tryNested 93 = .ok (.putfield 51, 3) := by decide +kernel
theorem dX5_tryNested_96 : decode cX5_tryNested 96 = .ok (.iconst 0, 1) := by decide +kernel
theorem dX5_tryNested_97 : decode cX5_tryNested 97 = .ok (.ireturn, 1) := by decide +kernel
theorem dX5_beginNested_0 : decode cX5_beginNested 0 = .ok (.aload_n 0, 1) := by decide +kernel
theorem dX5_beginNested_1 : decode cX5_beginNested 1 = .ok (.getfield 23, 3) := by decide +kernel
theorem dX5_beginNested_4 : decode cX5_beginNested 4 = .ok (.iload_n 1, 1) := by decide +kernel
theorem dX5_beginNested_5 : decode cX5_beginNested 5 = .ok (.iload_n 2, 1) := by decide +kernel
theorem dX5_beginNested_6 : decode cX5_beginNested 6 = .ok (.invokevirtual 164, 3) := by decide +kernel
theorem dX5_beginNested_9 : decode cX5_beginNested 9 = .ok (.istore_n 3, 1) := by decide +kernel
theorem dX5_beginNested_10 : decode cX5_beginNested 10 = .ok (.aload_n 0, 1) := by decide +kernel
theorem dX5_beginNested_11 : decode cX5_beginNested 11 = .ok (.getfield 54, 3) := by decide +kernel
theorem dX5_beginNested_14 : decode cX5_beginNested 14 = .ok (.aload_n 0, 1) := by decide +kernel
theorem dX5_beginNested_15 : decode cX5_beginNested 15 = .ok (.getfield 54, 3) := by decide +kernel
theorem dX5_beginNested_18 : decode cX5_beginNested 18 = .ok (.iload_n 3, 1) := by decide +kernel
theorem dX5_beginNested_19 : decode cX5_beginNested 19 = .ok (.invokevirtual 134, 3) := by decide +kernel
theorem dX5_beginNested_22 : decode cX5_beginNested 22 = .ok (.invokevirtual 134, 3) := by decide +kernel
theorem dX5_beginNested_25 : decode cX5_beginNested 25 = .ok (.istore 4, 2) := by decide +kernel
theorem dX5_beginNested_27 : decode cX5_beginNested 27 = .ok (.aload_n 0, 1) := by decide +kernel
theorem dX5_beginNested_28 : decode cX5_beginNested 28 = .ok (.getfield 54, 3) := by decide +kernel
theorem dX5_beginNested_31 : decode cX5_beginNested 31 = .ok (.aload_n 0, 1) := by decide +kernel
theorem dX5_beginNested_32 : decode cX5_beginNested 32 = .ok (.getfield 54, 3) := by decide +kernel
theorem dX5_beginNested_35 : decode cX5_beginNested 35 = .ok (.iload_n 3, 1) := by decide +kernel
theorem dX5_beginNested_36 : decode cX5_beginNested 36 = .ok (.invokevirtual 134, 3) := by decide +kernel
theorem dX5_beginNested_39 : decode cX5_beginNested 39 = .ok (.invokevirtual 150, 3) := by decide +kernel
theorem dX5_beginNested_42 : decode cX5_beginNested 42 = .ok (.istore 5, 2) := by decide +kernel
theorem dX5_beginNested_44 : decode cX5_beginNested 44 = .ok (.aload_n 0, 1) := by decide +kernel
theorem dX5_beginNested_45 : decode cX5_beginNested 45 = .ok (.getfield 54, 3) := by decide +kernel
theorem dX5_beginNested_48 : decode cX5_beginNested 48 = .ok (.iconst 5, 1) := by decide +kernel
theorem dX5_beginNested_49 : decode cX5_beginNested 49 = .ok (.iload 5, 2) := by decide +kernel
theorem dX5_beginNested_51 : decode cX5_beginNested 51 = .ok (.aload_n 0, 1) := by decide +kernel
theorem dX5_beginNested_52 : decode cX5_beginNested 52 = .ok (.getfield 54, 3) := by decide +kernel
theorem dX5_beginNested_55 : decode cX5_beginNested 55 = .ok (.iload_n 3, 1) := by decide +kernel
theorem dX5_beginNested_56 : decode cX5_beginNested 56 = .ok (.invokevirtual 150, 3) := by decide +kernel
theorem dX5_beginNested_59 : decode cX5_beginNested 59 = .ok (.invokevirtual 189, 3) := by decide +kernel
theorem dX5_beginNested_62 : decode cX5_beginNested 62 = .ok (.istore 6, 2) := by decide +kernel
theorem dX5_beginNested_64 : decode cX5_beginNested 64 = .ok (.iload 6, 2) := by decide +kernel
theorem dX5_beginNested_66 : decode cX5_beginNested 66 = .ok (.ifCond .ge 6, 3) := by decide +kernel
theorem dX5_beginNested_69 : decode cX5_beginNested 69 = .ok (.bipush (-7), 2) := by decide +kernel
theorem dX5_beginNested_71 : decode cX5_beginNested 71 = .ok (.ireturn, 1) := by decide +kernel
theorem dX5_beginNested_72 : decode cX5_beginNested 72 = .ok (.aload_n 0, 1) := by decide +kernel
theorem dX5_beginNested_73 : decode cX5_beginNested 73 = .ok (.getfield 16, 3) := by decide +kernel
theorem dX5_beginNested_76 : decode cX5_beginNested 76 = .ok (.iconst 0, 1) := by decide +kernel
theorem dX5_beginNested_77 : decode cX5_beginNested 77 = .ok (.invokevirtual 77, 3) := by decide +kernel
theorem dX5_beginNested_80 : decode cX5_beginNested 80 = .ok (.istore 7, 2) := by decide +kernel
theorem dX5_beginNested_82 : decode cX5_beginNested 82 = .ok (.aload_n 0, 1) := by decide +kernel
theorem dX5_beginNested_83 : decode cX5_beginNested 83 = .ok (.getfield 16, 3) := by decide +kernel
theorem dX5_beginNested_86 : decode cX5_beginNested 86 = .ok (.bipush 65, 2) := by decide +kernel
theorem dX5_beginNested_88 : decode cX5_beginNested 88 = .ok (.aload_n 0, 1) := by decide +kernel
theorem dX5_beginNested_89 : decode cX5_beginNested 89 = .ok (.getfield 23, 3) := by decide +kernel
theorem dX5_beginNested_92 : decode cX5_beginNested 92 = .ok (.iload_n 1, 1) := by decide +kernel
theorem dX5_beginNested_93 : decode cX5_beginNested 93 = .ok (.iload_n 2, 1) := by decide +kernel
theorem dX5_beginNested_94 : decode cX5_beginNested 94 = .ok (.invokevirtual 113, 3) := by decide +kernel
theorem dX5_beginNested_97 : decode cX5_beginNested 97 = .ok (.aload_n 0, 1) := by decide +kernel
theorem dX5_beginNested_98 : decode cX5_beginNested 98 = .ok (.getfield 16, 3) := by decide +kernel
theorem dX5_beginNested_101 : decode cX5_beginNested 101 = .ok (.iload 4, 2) := by decide +kernel
theorem dX5_beginNested_103 : decode cX5_beginNested 103 = .ok (.iload 7, 2) := by decide +kernel
theorem dX5_beginNested_105 : decode cX5_beginNested 105 = .ok (.iconst (-1), 1) := by decide +kernel
theorem dX5_beginNested_106 : decode cX5_beginNested 106 = .ok (.invokevirtual 192, 3) := by decide +kernel
theorem dX5_beginNested_109 : decode cX5_beginNested 109 = .ok (.invokevirtual 178, 3) := by decide +kernel
theorem dX5_beginNested_112 : decode cX5_beginNested 112 = .ok (.istore 8, 2) := by decide +kernel
theorem dX5_beginNested_114 : decode cX5_beginNested 114 = .ok (.aload_n 0, 1) := by decide +kernel
theorem dX5_beginNested_115 : decode cX5_beginNested 115 = .ok (.getfield 38, 3) := by decide +kernel
theorem dX5_beginNested_118 : decode cX5_beginNested 118 = .ok (.iload_n 1, 1) := by decide +kernel
theorem dX5_beginNested_119 : decode cX5_beginNested 119 = .ok (.iload_n 2, 1) := by decide +kernel
theorem dX5_beginNested_120 : decode cX5_beginNested 120 = .ok (.invokestatic 93, 3) := by decide +kernel
theorem dX5_beginNested_123 : decode cX5_beginNested 123 = .ok (.aload_n 0, 1) := by decide +kernel
theorem dX5_beginNested_124 : decode cX5_beginNested 124 = .ok (.getfield 44, 3) := by decide +kernel
theorem dX5_beginNested_127 : decode cX5_beginNested 127 = .ok (.iload_n 1, 1) := by decide +kernel
theorem dX5_beginNested_128 : decode cX5_beginNested 128 = .ok (.aload_n 0, 1) := by decide +kernel
theorem dX5_beginNested_129 : decode cX5_beginNested 129 = .ok (.getfield 16, 3) := by decide +kernel
theorem dX5_beginNested_132 : decode cX5_beginNested 132 = .ok (.iconst 0, 1) := by decide +kernel
theorem dX5_beginNested_133 : decode cX5_beginNested 133 = .ok (.invokevirtual 77, 3) := by decide +kernel
theorem dX5_beginNested_136 : decode cX5_beginNested 136 = .ok (.invokestatic 93, 3) := by decide +kernel
theorem dX5_beginNested_139 : decode cX5_beginNested 139 = .ok (.aload_n 0, 1) := by decide +kernel
theorem dX5_beginNested_140 : decode cX5_beginNested 140 = .ok (.getfield 23, 3) := by decide +kernel
theorem dX5_beginNested_143 : decode cX5_beginNested 143 = .ok (.iload_n 1, 1) := by decide +kernel
theorem dX5_beginNested_144 : decode cX5_beginNested 144 = .ok (.iload_n 2, 1) := by decide +kernel
theorem dX5_beginNested_145 : decode cX5_beginNested 145 = .ok (.iload 5, 2) := by decide +kernel
theorem dX5_beginNested_147 : decode cX5_beginNested 147 = .ok (.invokevirtual 137, 3) := by decide +kernel
theorem dX5_beginNested_150 : decode cX5_beginNested 150 = .ok (.aload_n 0, 1) := by decide +kernel
theorem dX5_beginNested_151 : decode cX5_beginNested 151 = .ok (.aload_n 0, 1) := by decide +kernel
theorem dX5_beginNested_152 : decode cX5_beginNested 152 = .ok (.getfield 23, 3) := by decide +kernel
theorem dX5_beginNested_155 : decode cX5_beginNested 155 = .ok (.iload_n 1, 1) := by decide +kernel
theorem dX5_beginNested_156 : decode cX5_beginNested 156 = .ok (.iconst 1, 1) := by decide +kernel
theorem dX5_beginNested_157 : decode cX5_beginNested 157 = .ok (.iadd, 1) := by decide +kernel
theorem dX5_beginNested_158 : decode cX5_beginNested 158 = .ok (.iload 6, 2) := by decide +kernel
theorem dX5_beginNested_160 : decode cX5_beginNested 160 = .ok (.aload_n 0, 1) := by decide +kernel
theorem dX5_beginNested_161 : decode cX5_beginNested 161 = .ok (.getfield 16, 3) := by decide +kernel
theorem dX5_beginNested_164 : decode cX5_beginNested 164 = .ok (.iload 5, 2) := by decide +kernel
theorem dX5_beginNested_166 : decode cX5_beginNested 166 = .ok (.iload 8, 2) := by decide +kernel
theorem dX5_beginNested_168 : decode cX5_beginNested 168 = .ok (.iload 7, 2) := by decide +kernel
theorem dX5_beginNested_170 : decode cX5_beginNested 170 = .ok (.invokevirtual 192, 3) := by decide +kernel
theorem dX5_beginNested_173 : decode cX5_beginNested 173 = .ok (.invokevirtual 81, 3) := by decide +kernel
theorem dX5_beginNested_176 : decode cX5_beginNested 176 = .ok (.ifCond .eq 30, 3) := by decide +kernel
theorem dX5_beginNested_179 : decode cX5_beginNested 179 = .ok (.aload_n 0, 1) := by decide +kernel
theorem dX5_beginNested_180 : decode cX5_beginNested 180 = .ok (.getfield 23, 3) := by decide +kernel
theorem dX5_beginNested_183 : decode cX5_beginNested 183 = .ok (.iload_n 1, 1) := by decide +kernel
theorem dX5_beginNested_184 : decode cX5_beginNested 184 = .ok (.iconst 1, 1) := by decide +kernel
theorem dX5_beginNested_185 : decode cX5_beginNested 185 = .ok (.iadd, 1) := by decide +kernel
theorem dX5_beginNested_186 : decode cX5_beginNested 186 = .ok (.iload 4, 2) := by decide +kernel
theorem dX5_beginNested_188 : decode cX5_beginNested 188 = .ok (.aload_n 0, 1) := by decide +kernel
theorem dX5_beginNested_189 : decode cX5_beginNested 189 = .ok (.getfield 44, 3) := by decide +kernel
theorem dX5_beginNested_192 : decode cX5_beginNested 192 = .ok (.iload_n 1, 1) := by decide +kernel
theorem dX5_beginNested_193 : decode cX5_beginNested 193 = .ok (.invokestatic 153, 3) := by decide +kernel
theorem dX5_beginNested_196 : decode cX5_beginNested 196 = .ok (.invokevirtual 81, 3) := by decide +kernel
theorem dX5_beginNested_199 : decode cX5_beginNested 199 = .ok (.ifCond .eq 7, 3) := by decide +kernel
theorem dX5_beginNested_202 : decode cX5_beginNested 202 = .ok (.iconst 1, 1) := by decide +kernel
theorem dX5_beginNested_203 : decode cX5_beginNested 203 = .ok (.goto 4, 3) := by decide +kernel
theorem dX5_beginNested_206 : decode cX5_beginNested 206 = .ok (.iconst 0, 1) := by decide +kernel
theorem dX5_beginNested_207 : decode cX5_beginNested 207 = .ok (.iload_n 1, 1) := by decide +kernel
theorem dX5_beginNested_208 : decode cX5_beginNested 208 = .ok (.bipush 8, 2) := by decide +kernel
theorem dX5_beginNested_210 : decode cX5_beginNested 210 = .ok (.invokevirtual 157, 3) := by decide +kernel
theorem dX5_beginNested_213 : decode cX5_beginNested 213 = .ok (.ireturn, 1) := by decide +kernel
theorem dX5_goOnProved_0 : decode cX5_goOnProved 0 = .ok (.aload_n 0, 1) := by decide +kernel
theorem dX5_goOnProved_1 : decode cX5_goOnProved 1 = .ok (.getfield 34, 3) := by decide +kernel
theorem dX5_goOnProved_4 : decode cX5_goOnProved 4 = .ok (.iload_n 1, 1) := by decide +kernel
theorem dX5_goOnProved_5 : decode cX5_goOnProved 5 = .ok (.invokestatic 153, 3) := by decide +kernel
theorem dX5_goOnProved_8 : decode cX5_goOnProved 8 = .ok (.tableswitch 256 1 8 #[48, 87, 130, 156, 162, 214, 232, 250], 48) := by decide +kernel
theorem dX5_goOnProved_56 : decode cX5_goOnProved 56 = .ok (.aload_n 0, 1) := by decide +kernel
theorem dX5_goOnProved_57 : decode cX5_goOnProved 57 = .ok (.aload_n 0, 1) := by decide +kernel
theorem dX5_goOnProved_58 : decode cX5_goOnProved 58 = .ok (.getfield 16, 3) := by decide +kernel
theorem dX5_goOnProved_61 : decode cX5_goOnProved 61 = .ok (.aload_n 0, 1) := by decide +kernel
theorem dX5_goOnProved_62 : decode cX5_goOnProved 62 = .ok (.getfield 54, 3) := by decide +kernel
theorem dX5_goOnProved_65 : decode cX5_goOnProved 65 = .ok (.aload_n 0, 1) := by decide +kernel
theorem dX5_goOnProved_66 : decode cX5_goOnProved 66 = .ok (.getfield 23, 3) := by decide +kernel
theorem dX5_goOnProved_69 : decode cX5_goOnProved 69 = .ok (.iload_n 1, 1) := by decide +kernel
theorem dX5_goOnProved_70 : decode cX5_goOnProved 70 = .ok (.invokevirtual 107, 3) := by decide +kernel
theorem dX5_goOnProved_73 : decode cX5_goOnProved 73 = .ok (.invokevirtual 134, 3) := by decide +kernel
theorem dX5_goOnProved_76 : decode cX5_goOnProved 76 = .ok (.aload_n 0, 1) := by decide +kernel
theorem dX5_goOnProved_77 : decode cX5_goOnProved 77 = .ok (.getfield 51, 3) := by decide +kernel
theorem dX5_goOnProved_80 : decode cX5_goOnProved 80 = .ok (.aload_n 0, 1) := by decide +kernel
theorem dX5_goOnProved_81 : decode cX5_goOnProved 81 = .ok (.getfield 44, 3) := by decide +kernel
theorem dX5_goOnProved_84 : decode cX5_goOnProved 84 = .ok (.iload_n 1, 1) := by decide +kernel
theorem dX5_goOnProved_85 : decode cX5_goOnProved 85 = .ok (.invokestatic 153, 3) := by decide +kernel
theorem dX5_goOnProved_88 : decode cX5_goOnProved 88 = .ok (.invokevirtual 192, 3) := by decide +kernel
theorem dX5_goOnProved_91 : decode cX5_goOnProved 91 = .ok (.invokevirtual 116, 3) := by decide +kernel
theorem dX5_goOnProved_94 : decode cX5_goOnProved 94 = .ok (.ireturn, 1) := by decide +kernel
theorem dX5_goOnProved_95 : decode cX5_goOnProved 95 = .ok (.aload_n 0, 1) := by decide +kernel
theorem dX5_goOnProved_96 : decode cX5_goOnProved 96 = .ok (.getfield 41, 3) := by decide +kernel
theorem dX5_goOnProved_99 : decode cX5_goOnProved 99 = .ok (.iload_n 1, 1) := by decide +kernel
theorem dX5_goOnProved_100 : decode cX5_goOnProved 100 = .ok (.aload_n 0, 1) := by decide +kernel
theorem dX5_goOnProved_101 : decode cX5_goOnProved 101 = .ok (.getfield 51, 3) := by decide +kernel
theorem dX5_goOnProved_104 : decode cX5_goOnProved 104 = .ok (.invokestatic 93, 3) := by decide +kernel
theorem dX5_goOnProved_107 : decode cX5_goOnProved 107 = .ok (.aload_n 0, 1) := by decide +kernel
theorem dX5_goOnProved_108 : decode cX5_goOnProved 108 = .ok (.getfield 23, 3) := by decide +kernel
theorem dX5_goOnProved_111 : decode cX5_goOnProved 111 = .ok (.iload_n 1, 1) := by decide +kernel
theorem dX5_goOnProved_112 : decode cX5_goOnProved 112 = .ok (.iconst (-1), 1) := by decide +kernel
theorem dX5_goOnProved_113 : decode cX5_goOnProved 113 = .ok (.aload_n 0, 1) := by decide +kernel
theorem dX5_goOnProved_114 : decode cX5_goOnProved 114 = .ok (.getfield 54, 3) := by decide +kernel
theorem dX5_goOnProved_117 : decode cX5_goOnProved 117 = .ok (.aload_n 0, 1) := by decide +kernel
theorem dX5_goOnProved_118 : decode cX5_goOnProved 118 = .ok (.getfield 23, 3) := by decide +kernel
theorem dX5_goOnProved_121 : decode cX5_goOnProved 121 = .ok (.iload_n 1, 1) := by decide +kernel
theorem dX5_goOnProved_122 : decode cX5_goOnProved 122 = .ok (.invokevirtual 107, 3) := by decide +kernel
theorem dX5_goOnProved_125 : decode cX5_goOnProved 125 = .ok (.invokevirtual 150, 3) := by decide +kernel
theorem dX5_goOnProved_128 : decode cX5_goOnProved 128 = .ok (.invokevirtual 137, 3) := by decide +kernel
theorem dX5_goOnProved_131 : decode cX5_goOnProved 131 = .ok (.aload_n 0, 1) := by decide +kernel
theorem dX5_goOnProved_132 : decode cX5_goOnProved 132 = .ok (.iload_n 1, 1) := by decide +kernel
theorem dX5_goOnProved_133 : decode cX5_goOnProved 133 = .ok (.iconst 3, 1) := by decide +kernel
theorem dX5_goOnProved_134 : decode cX5_goOnProved 134 = .ok (.invokevirtual 97, 3) := by decide +kernel
theorem dX5_goOnProved_137 : decode cX5_goOnProved 137 = .ok (.ireturn, 1) := by decide +kernel
theorem dX5_goOnProved_138 : decode cX5_goOnProved 138 = .ok (.aload_n 0, 1) := by decide +kernel
theorem dX5_goOnProved_139 : decode cX5_goOnProved 139 = .ok (.aload_n 0, 1) := by decide +kernel
theorem dX5_goOnProved_140 : decode cX5_goOnProved 140 = .ok (.getfield 16, 3) := by decide +kernel
theorem dX5_goOnProved_143 : decode cX5_goOnProved 143 = .ok (.bipush 80, 2) := by decide +kernel
theorem dX5_goOnProved_145 : decode cX5_goOnProved 145 = .ok (.aload_n 0, 1) := by decide +kernel
theorem dX5_goOnProved_146 : decode cX5_goOnProved 146 = .ok (.getfield 41, 3) := by decide +kernel
theorem dX5_goOnProved_149 : decode cX5_goOnProved 149 = .ok (.iload_n 1, 1) := by decide +kernel
theorem dX5_goOnProved_150 : decode cX5_goOnProved 150 = .ok (.invokestatic 153, 3) := by decide +kernel
theorem dX5_goOnProved_153 : decode cX5_goOnProved 153 = .ok (.aload_n 0, 1) := by decide +kernel
theorem dX5_goOnProved_154 : decode cX5_goOnProved 154 = .ok (.getfield 51, 3) := by decide +kernel
theorem dX5_goOnProved_157 : decode cX5_goOnProved 157 = .ok (.invokevirtual 178, 3) := by decide +kernel
theorem dX5_goOnProved_160 : decode cX5_goOnProved 160 = .ok (.invokevirtual 116, 3) := by decide +kernel
theorem dX5_goOnProved_163 : decode cX5_goOnProved 163 = .ok (.ireturn, 1) := by decide +kernel
theorem dX5_goOnProved_164 : decode cX5_goOnProved 164 = .ok (.aload_n 0, 1) := by decide +kernel
theorem dX5_goOnProved_165 : decode cX5_goOnProved 165 = .ok (.iload_n 1, 1) := by decide +kernel
theorem dX5_goOnProved_166 : decode cX5_goOnProved 166 = .ok (.invokevirtual 201, 3) := by decide +kernel
theorem dX5_goOnProved_169 : decode cX5_goOnProved 169 = .ok (.ireturn, 1) := by decide +kernel
theorem dX5_goOnProved_170 : decode cX5_goOnProved 170 = .ok (.aload_n 0, 1) := by decide +kernel
theorem dX5_goOnProved_171 : decode cX5_goOnProved 171 = .ok (.getfield 23, 3) := by decide +kernel
theorem dX5_goOnProved_174 : decode cX5_goOnProved 174 = .ok (.iload_n 1, 1) := by decide +kernel
theorem dX5_goOnProved_175 : decode cX5_goOnProved 175 = .ok (.aload_n 0, 1) := by decide +kernel
theorem dX5_goOnProved_176 : decode cX5_goOnProved 176 = .ok (.getfield 38, 3) := by decide +kernel
theorem dX5_goOnProved_179 : decode cX5_goOnProved 179 = .ok (.iload_n 1, 1) := by decide +kernel
theorem dX5_goOnProved_180 : decode cX5_goOnProved 180 = .ok (.invokestatic 153, 3) := by decide +kernel
theorem dX5_goOnProved_183 : decode cX5_goOnProved 183 = .ok (.invokevirtual 113, 3) := by decide +kernel
theorem dX5_goOnProved_186 : decode cX5_goOnProved 186 = .ok (.istore_n 2, 1) := by decide +kernel
theorem dX5_goOnProved_187 : decode cX5_goOnProved 187 = .ok (.aload_n 0, 1) := by decide +kernel
theorem dX5_goOnProved_188 : decode cX5_goOnProved 188 = .ok (.aload_n 0, 1) := by decide +kernel
theorem dX5_goOnProved_189 : decode cX5_goOnProved 189 = .ok (.getfield 16, 3) := by decide +kernel
theorem dX5_goOnProved_192 : decode cX5_goOnProved 192 = .ok (.bipush 67, 2) := by decide +kernel
theorem dX5_goOnProved_194 : decode cX5_goOnProved 194 = .ok (.iload_n 2, 1) := by decide +kernel
theorem dX5_goOnProved_195 : decode cX5_goOnProved 195 = .ok (.aload_n 0, 1) := by decide +kernel
theorem dX5_goOnProved_196 : decode cX5_goOnProved 196 = .ok (.getfield 41, 3) := by decide +kernel
theorem dX5_goOnProved_199 : decode cX5_goOnProved 199 = .ok (.iload_n 1, 1) := by decide +kernel
theorem dX5_goOnProved_200 : decode cX5_goOnProved 200 = .ok (.invokestatic 153, 3) := by decide +kernel
theorem dX5_goOnProved_203 : decode cX5_goOnProved 203 = .ok (.aload_n 0, 1) := by decide +kernel
theorem dX5_goOnProved_204 : decode cX5_goOnProved 204 = .ok (.getfield 51, 3) := by decide +kernel
theorem dX5_goOnProved_207 : decode cX5_goOnProved 207 = .ok (.aload_n 0, 1) := by decide +kernel
theorem dX5_goOnProved_208 : decode cX5_goOnProved 208 = .ok (.getfield 44, 3) := by decide +kernel
theorem dX5_goOnProved_211 : decode cX5_goOnProved 211 = .ok (.iload_n 1, 1) := by decide +kernel
theorem dX5_goOnProved_212 : decode cX5_goOnProved 212 = .ok (.invokestatic 153, 3) := by decide +kernel
theorem dX5_goOnProved_215 : decode cX5_goOnProved 215 = .ok (.invokevirtual 204, 3) := by decide +kernel
theorem dX5_goOnProved_218 : decode cX5_goOnProved 218 = .ok (.invokevirtual 116, 3) := by decide +kernel
theorem dX5_goOnProved_221 : decode cX5_goOnProved 221 = .ok (.ireturn, 1) := by decide +kernel
theorem dX5_goOnProved_222 : decode cX5_goOnProved 222 = .ok (.aload_n 0, 1) := by decide +kernel
theorem dX5_goOnProved_223 : decode cX5_goOnProved 223 = .ok (.aload_n 0, 1) := by decide +kernel
theorem dX5_goOnProved_224 : decode cX5_goOnProved 224 = .ok (.getfield 16, 3) := by decide +kernel
theorem dX5_goOnProved_227 : decode cX5_goOnProved 227 = .ok (.bipush 73, 2) := by decide +kernel
theorem dX5_goOnProved_229 : decode cX5_goOnProved 229 = .ok (.aload_n 0, 1) := by decide +kernel
theorem dX5_goOnProved_230 : decode cX5_goOnProved 230 = .ok (.getfield 51, 3) := by decide +kernel
theorem dX5_goOnProved_233 : decode cX5_goOnProved 233 = .ok (.invokevirtual 119, 3) := by decide +kernel
theorem dX5_goOnProved_236 : decode cX5_goOnProved 236 = .ok (.invokevirtual 116, 3) := by decide +kernel
theorem dX5_goOnProved_239 : decode cX5_goOnProved 239 = .ok (.ireturn, 1) := by decide +kernel
theorem dX5_goOnProved_240 : decode cX5_goOnProved 240 = .ok (.aload_n 0, 1) := by decide +kernel
theorem dX5_goOnProved_241 : decode cX5_goOnProved 241 = .ok (.aload_n 0, 1) := by decide +kernel
theorem dX5_goOnProved_242 : decode cX5_goOnProved 242 = .ok (.getfield 16, 3) := by decide +kernel
theorem dX5_goOnProved_245 : decode cX5_goOnProved 245 = .ok (.bipush 74, 2) := by decide +kernel
theorem dX5_goOnProved_247 : decode cX5_goOnProved 247 = .ok (.aload_n 0, 1) := by decide +kernel
theorem dX5_goOnProved_248 : decode cX5_goOnProved 248 = .ok (.getfield 51, 3) := by decide +kernel
theorem dX5_goOnProved_251 : decode cX5_goOnProved 251 = .ok (.invokevirtual 119, 3) := by decide +kernel
theorem dX5_goOnProved_254 : decode cX5_goOnProved 254 = .ok (.invokevirtual 116, 3) := by decide +kernel
theorem dX5_goOnProved_257 : decode cX5_goOnProved 257 = .ok (.ireturn, 1) := by decide +kernel
theorem dX5_goOnProved_258 : decode cX5_goOnProved 258 = .ok (.aload_n 0, 1) := by decide +kernel
theorem dX5_goOnProved_259 : decode cX5_goOnProved 259 = .ok (.iload_n 1, 1) := by decide +kernel
theorem dX5_goOnProved_260 : decode cX5_goOnProved 260 = .ok (.invokevirtual 207, 3) := by decide +kernel
theorem dX5_goOnProved_263 : decode cX5_goOnProved 263 = .ok (.ireturn, 1) := by decide +kernel
theorem dX5_goOnProved_264 : decode cX5_goOnProved 264 = .ok (.iconst 1, 1) := by decide +kernel
theorem dX5_goOnProved_265 : decode cX5_goOnProved 265 = .ok (.ireturn, 1) := by decide +kernel
theorem dX5_beginRightCase_0 : decode cX5_beginRightCase 0 = .ok (.aload_n 0, 1) := by decide +kernel
theorem dX5_beginRightCase_1 : decode cX5_beginRightCase 1 = .ok (.getfield 23, 3) := by decide +kernel
theorem dX5_beginRightCase_4 : decode cX5_beginRightCase 4 = .ok (.iload_n 1, 1) := by decide +kernel
theorem dX5_beginRightCase_5 : decode cX5_beginRightCase 5 = .ok (.aload_n 0, 1) := by decide +kernel
theorem dX5_beginRightCase_6 : decode cX5_beginRightCase 6 = .ok (.getfield 38, 3) := by decide +kernel
theorem dX5_beginRightCase_9 : decode cX5_beginRightCase 9 = .ok (.iload_n 1, 1) := by decide +kernel
theorem dX5_beginRightCase_10 : decode cX5_beginRightCase 10 = .ok (.invokestatic 153, 3) := by decide +kernel
theorem dX5_beginRightCase_13 : decode cX5_beginRightCase 13 = .ok (.invokevirtual 164, 3) := by decide +kernel
theorem dX5_beginRightCase_16 : decode cX5_beginRightCase 16 = .ok (.istore_n 2, 1) := by decide +kernel
theorem dX5_beginRightCase_17 : decode cX5_beginRightCase 17 = .ok (.aload_n 0, 1) := by decide +kernel
theorem dX5_beginRightCase_18 : decode cX5_beginRightCase 18 = .ok (.getfield 41, 3) := by decide +kernel
theorem dX5_beginRightCase_21 : decode cX5_beginRightCase 21 = .ok (.iload_n 1, 1) := by decide +kernel
theorem dX5_beginRightCase_22 : decode cX5_beginRightCase 22 = .ok (.aload_n 0, 1) := by decide +kernel
theorem dX5_beginRightCase_23 : decode cX5_beginRightCase 23 = .ok (.getfield 51, 3) := by decide +kernel
theorem dX5_beginRightCase_26 : decode cX5_beginRightCase 26 = .ok (.invokestatic 93, 3) := by decide +kernel
theorem dX5_beginRightCase_29 : decode cX5_beginRightCase 29 = .ok (.aload_n 0, 1) := by decide +kernel
theorem dX5_beginRightCase_30 : decode cX5_beginRightCase 30 = .ok (.getfield 23, 3) := by decide +kernel
theorem dX5_beginRightCase_33 : decode cX5_beginRightCase 33 = .ok (.iload_n 1, 1) := by decide +kernel
theorem dX5_beginRightCase_34 : decode cX5_beginRightCase 34 = .ok (.aload_n 0, 1) := by decide +kernel
theorem dX5_beginRightCase_35 : decode cX5_beginRightCase 35 = .ok (.getfield 38, 3) := by decide +kernel
theorem dX5_beginRightCase_38 : decode cX5_beginRightCase 38 = .ok (.iload_n 1, 1) := by decide +kernel
theorem dX5_beginRightCase_39 : decode cX5_beginRightCase 39 = .ok (.invokestatic 153, 3) := by decide +kernel
theorem dX5_beginRightCase_42 : decode cX5_beginRightCase 42 = .ok (.aload_n 0, 1) := by decide +kernel
theorem dX5_beginRightCase_43 : decode cX5_beginRightCase 43 = .ok (.getfield 23, 3) := by decide +kernel
theorem dX5_beginRightCase_46 : decode cX5_beginRightCase 46 = .ok (.iload_n 1, 1) := by decide +kernel
theorem dX5_beginRightCase_47 : decode cX5_beginRightCase 47 = .ok (.invokevirtual 107, 3) := by decide +kernel
theorem dX5_beginRightCase_50 : decode cX5_beginRightCase 50 = .ok (.invokevirtual 137, 3) := by decide +kernel
theorem dX5_beginRightCase_53 : decode cX5_beginRightCase 53 = .ok (.aload_n 0, 1) := by decide +kernel
theorem dX5_beginRightCase_54 : decode cX5_beginRightCase 54 = .ok (.aload_n 0, 1) := by decide +kernel
theorem dX5_beginRightCase_55 : decode cX5_beginRightCase 55 = .ok (.getfield 23, 3) := by decide +kernel
theorem dX5_beginRightCase_58 : decode cX5_beginRightCase 58 = .ok (.iload_n 1, 1) := by decide +kernel
theorem dX5_beginRightCase_59 : decode cX5_beginRightCase 59 = .ok (.iconst 1, 1) := by decide +kernel
theorem dX5_beginRightCase_60 : decode cX5_beginRightCase 60 = .ok (.iadd, 1) := by decide +kernel
theorem dX5_beginRightCase_61 : decode cX5_beginRightCase 61 = .ok (.aload_n 0, 1) := by decide +kernel
theorem dX5_beginRightCase_62 : decode cX5_beginRightCase 62 = .ok (.getfield 54, 3) := by decide +kernel
theorem dX5_beginRightCase_65 : decode cX5_beginRightCase 65 = .ok (.iload_n 2, 1) := by decide +kernel
theorem dX5_beginRightCase_66 : decode cX5_beginRightCase 66 = .ok (.invokevirtual 150, 3) := by decide +kernel
theorem dX5_beginRightCase_69 : decode cX5_beginRightCase 69 = .ok (.aload_n 0, 1) := by decide +kernel
theorem dX5_beginRightCase_70 : decode cX5_beginRightCase 70 = .ok (.getfield 44, 3) := by decide +kernel
theorem dX5_beginRightCase_73 : decode cX5_beginRightCase 73 = .ok (.iload_n 1, 1) := by decide +kernel
theorem dX5_beginRightCase_74 : decode cX5_beginRightCase 74 = .ok (.invokestatic 153, 3) := by decide +kernel
theorem dX5_beginRightCase_77 : decode cX5_beginRightCase 77 = .ok (.invokevirtual 81, 3) := by decide +kernel
theorem dX5_beginRightCase_80 : decode cX5_beginRightCase 80 = .ok (.iload_n 1, 1) := by decide +kernel
theorem dX5_beginRightCase_81 : decode cX5_beginRightCase 81 = .ok (.iconst 5, 1) := by decide +kernel
theorem dX5_beginRightCase_82 : decode cX5_beginRightCase 82 = .ok (.invokevirtual 157, 3) := by decide +kernel
theorem dX5_beginRightCase_85 : decode cX5_beginRightCase 85 = .ok (.ireturn, 1) := by decide +kernel
theorem dX5_beginAfterNested_0 : decode cX5_beginAfterNested 0 = .ok (.aload_n 0, 1) := by decide +kernel
theorem dX5_beginAfterNested_1 : decode cX5_beginAfterNested 1 = .ok (.getfield 38, 3) := by decide +kernel
theorem dX5_beginAfterNested_4 : decode cX5_beginAfterNested 4 = .ok (.iload_n 1, 1) := by decide +kernel
theorem dX5_beginAfterNested_5 : decode cX5_beginAfterNested 5 = .ok (.invokestatic 153, 3) := by decide +kernel
theorem dX5_beginAfterNested_8 : decode cX5_beginAfterNested 8 = .ok (.istore_n 2, 1) := by decide +kernel
theorem dX5_beginAfterNested_9 : decode cX5_beginAfterNested 9 = .ok (.aload_n 0, 1) := by decide +kernel
theorem dX5_beginAfterNested_10 : decode cX5_beginAfterNested 10 = .ok (.getfield 23, 3) := by decide +kernel
theorem dX5_beginAfterNested_13 : decode cX5_beginAfterNested 13 = .ok (.iload_n 1, 1) := by decide +kernel
theorem dX5_beginAfterNested_14 : decode cX5_beginAfterNested 14 = .ok (.iload_n 2, 1) := by decide +kernel
theorem dX5_beginAfterNested_15 : decode cX5_beginAfterNested 15 = .ok (.invokevirtual 164, 3) := by decide +kernel
theorem dX5_beginAfterNested_18 : decode cX5_beginAfterNested 18 = .ok (.istore_n 3, 1) := by decide +kernel
theorem dX5_beginAfterNested_19 : decode cX5_beginAfterNested 19 = .ok (.aload_n 0, 1) := by decide +kernel
theorem dX5_beginAfterNested_20 : decode cX5_beginAfterNested 20 = .ok (.getfield 16, 3) := by decide +kernel
theorem dX5_beginAfterNested_23 : decode cX5_beginAfterNested 23 = .ok (.aload_n 0, 1) := by decide +kernel
theorem dX5_beginAfterNested_24 : decode cX5_beginAfterNested 24 = .ok (.getfield 54, 3) := by decide +kernel
theorem dX5_beginAfterNested_27 : decode cX5_beginAfterNested 27 = .ok (.aload_n 0, 1) := by decide +kernel
theorem dX5_beginAfterNested_28 : decode cX5_beginAfterNested 28 = .ok (.getfield 54, 3) := by decide +kernel
theorem dX5_beginAfterNested_31 : decode cX5_beginAfterNested 31 = .ok (.iload_n 3, 1) := by decide +kernel
theorem dX5_beginAfterNested_32 : decode cX5_beginAfterNested 32 = .ok (.invokevirtual 134, 3) := by decide +kernel
theorem dX5_beginAfterNested_35 : decode cX5_beginAfterNested 35 = .ok (.invokevirtual 134, 3) := by decide +kernel
theorem dX5_beginAfterNested_38 : decode cX5_beginAfterNested 38 = .ok (.aload_n 0, 1) := by decide +kernel
theorem dX5_beginAfterNested_39 : decode cX5_beginAfterNested 39 = .ok (.getfield 51, 3) := by decide +kernel
theorem dX5_beginAfterNested_42 : decode cX5_beginAfterNested 42 = .ok (.aload_n 0, 1) := by decide +kernel
theorem dX5_beginAfterNested_43 : decode cX5_beginAfterNested 43 = .ok (.getfield 44, 3) := by decide +kernel
theorem dX5_beginAfterNested_46 : decode cX5_beginAfterNested 46 = .ok (.iload_n 1, 1) := by decide +kernel
theorem dX5_beginAfterNested_47 : decode cX5_beginAfterNested 47 = .ok (.invokestatic 153, 3) := by decide +kernel
theorem dX5_beginAfterNested_50 : decode cX5_beginAfterNested 50 = .ok (.invokevirtual 192, 3) := by decide +kernel
theorem dX5_beginAfterNested_53 : decode cX5_beginAfterNested 53 = .ok (.istore 4, 2) := by decide +kernel
theorem dX5_beginAfterNested_55 : decode cX5_beginAfterNested 55 = .ok (.aload_n 0, 1) := by decide +kernel
theorem dX5_beginAfterNested_56 : decode cX5_beginAfterNested 56 = .ok (.getfield 16, 3) := by decide +kernel
theorem dX5_beginAfterNested_59 : decode cX5_beginAfterNested 59 = .ok (.bipush 65, 2) := by decide +kernel
theorem dX5_beginAfterNested_61 : decode cX5_beginAfterNested 61 = .ok (.aload_n 0, 1) := by decide +kernel
theorem dX5_beginAfterNested_62 : decode cX5_beginAfterNested 62 = .ok (.getfield 23, 3) := by decide +kernel
theorem dX5_beginAfterNested_65 : decode cX5_beginAfterNested 65 = .ok (.iload_n 1, 1) := by decide +kernel
theorem dX5_beginAfterNested_66 : decode cX5_beginAfterNested 66 = .ok (.iload_n 2, 1) := by decide +kernel
theorem dX5_beginAfterNested_67 : decode cX5_beginAfterNested 67 = .ok (.invokevirtual 113, 3) := by decide +kernel
theorem dX5_beginAfterNested_70 : decode cX5_beginAfterNested 70 = .ok (.iload 4, 2) := by decide +kernel
theorem dX5_beginAfterNested_72 : decode cX5_beginAfterNested 72 = .ok (.invokevirtual 178, 3) := by decide +kernel
theorem dX5_beginAfterNested_75 : decode cX5_beginAfterNested 75 = .ok (.istore 5, 2) := by decide +kernel
theorem dX5_beginAfterNested_77 : decode cX5_beginAfterNested 77 = .ok (.aload_n 0, 1) := by decide +kernel
theorem dX5_beginAfterNested_78 : decode cX5_beginAfterNested 78 = .ok (.getfield 23, 3) := by decide +kernel
theorem dX5_beginAfterNested_81 : decode cX5_beginAfterNested 81 = .ok (.iload_n 1, 1) := by decide +kernel
theorem dX5_beginAfterNested_82 : decode cX5_beginAfterNested 82 = .ok (.iload_n 2, 1) := by decide +kernel
theorem dX5_beginAfterNested_83 : decode cX5_beginAfterNested 83 = .ok (.aload_n 0, 1) := by decide +kernel
theorem dX5_beginAfterNested_84 : decode cX5_beginAfterNested 84 = .ok (.getfield 23, 3) := by decide +kernel
theorem dX5_beginAfterNested_87 : decode cX5_beginAfterNested 87 = .ok (.iload_n 1, 1) := by decide +kernel
theorem dX5_beginAfterNested_88 : decode cX5_beginAfterNested 88 = .ok (.invokevirtual 107, 3) := by decide +kernel
theorem dX5_beginAfterNested_91 : decode cX5_beginAfterNested 91 = .ok (.invokevirtual 137, 3) := by decide +kernel
theorem dX5_beginAfterNested_94 : decode cX5_beginAfterNested 94 = .ok (.aload_n 0, 1) := by decide +kernel
theorem dX5_beginAfterNested_95 : decode cX5_beginAfterNested 95 = .ok (.aload_n 0, 1) := by decide +kernel
theorem dX5_beginAfterNested_96 : decode cX5_beginAfterNested 96 = .ok (.getfield 23, 3) := by decide +kernel
theorem dX5_beginAfterNested_99 : decode cX5_beginAfterNested 99 = .ok (.iload_n 1, 1) := by decide +kernel
theorem dX5_beginAfterNested_100 : decode cX5_beginAfterNested 100 = .ok (.iconst 1, 1) := by decide +kernel
theorem dX5_beginAfterNested_101 : decode cX5_beginAfterNested 101 = .ok (.iadd, 1) := by decide +kernel
theorem dX5_beginAfterNested_102 : decode cX5_beginAfterNested 102 = .ok (.aload_n 0, 1) := by decide +kernel
theorem dX5_beginAfterNested_103 : decode cX5_beginAfterNested 103 = .ok (.getfield 54, 3) := by decide +kernel
theorem dX5_beginAfterNested_106 : decode cX5_beginAfterNested 106 = .ok (.iload_n 3, 1) := by decide +kernel
theorem dX5_beginAfterNested_107 : decode cX5_beginAfterNested 107 = .ok (.invokevirtual 150, 3) := by decide +kernel
theorem dX5_beginAfterNested_110 : decode cX5_beginAfterNested 110 = .ok (.iload 5, 2) := by decide +kernel
theorem dX5_beginAfterNested_112 : decode cX5_beginAfterNested 112 = .ok (.invokevirtual 81, 3) := by decide +kernel
theorem dX5_beginAfterNested_115 : decode cX5_beginAfterNested 115 = .ok (.iload_n 1, 1) := by decide +kernel
theorem dX5_beginAfterNested_116 : decode cX5_beginAfterNested 116 = .ok (.iconst 0, 1) := by decide +kernel
theorem dX5_beginAfterNested_117 : decode cX5_beginAfterNested 117 = .ok (.invokevirtual 157, 3) := by decide +kernel
theorem dX5_beginAfterNested_120 : decode cX5_beginAfterNested 120 = .ok (.ireturn, 1) := by decide +kernel
theorem dX5_goOnFailed_0 : decode cX5_goOnFailed 0 = .ok (.aload_n 0, 1) := by decide +kernel
theorem dX5_goOnFailed_1 : decode cX5_goOnFailed 1 = .ok (.getfield 34, 3) := by decide +kernel
theorem dX5_goOnFailed_4 : decode cX5_goOnFailed 4 = .ok (.iload_n 1, 1) := by decide +kernel
theorem dX5_goOnFailed_5 : decode cX5_goOnFailed 5 = .ok (.invokestatic 153, 3) := by decide +kernel
theorem dX5_goOnFailed_8 : decode cX5_goOnFailed 8 = .ok (.tableswitch 119 6 8 #[28, 72, 91], 28) := by decide +kernel
theorem dX5_goOnFailed_36 : decode cX5_goOnFailed 36 = .ok (.aload_n 0, 1) := by decide +kernel
theorem dX5_goOnFailed_37 : decode cX5_goOnFailed 37 = .ok (.getfield 30, 3) := by decide +kernel
theorem dX5_goOnFailed_40 : decode cX5_goOnFailed 40 = .ok (.iload_n 1, 1) := by decide +kernel
theorem dX5_goOnFailed_41 : decode cX5_goOnFailed 41 = .ok (.aload_n 0, 1) := by decide +kernel
theorem dX5_goOnFailed_42 : decode cX5_goOnFailed 42 = .ok (.getfield 51, 3) := by decide +kernel
theorem dX5_goOnFailed_45 : decode cX5_goOnFailed 45 = .ok (.invokevirtual 210, 3) := by decide +kernel
theorem dX5_goOnFailed_48 : decode cX5_goOnFailed 48 = .ok (.aload_n 0, 1) := by decide +kernel
theorem dX5_goOnFailed_49 : decode cX5_goOnFailed 49 = .ok (.getfield 23, 3) := by decide +kernel
theorem dX5_goOnFailed_52 : decode cX5_goOnFailed 52 = .ok (.iload_n 1, 1) := by decide +kernel
theorem dX5_goOnFailed_53 : decode cX5_goOnFailed 53 = .ok (.iconst (-1), 1) := by decide +kernel
theorem dX5_goOnFailed_54 : decode cX5_goOnFailed 54 = .ok (.aload_n 0, 1) := by decide +kernel
theorem dX5_goOnFailed_55 : decode cX5_goOnFailed 55 = .ok (.getfield 54, 3) := by decide +kernel
theorem dX5_goOnFailed_58 : decode cX5_goOnFailed 58 = .ok (.aload_n 0, 1) := by decide +kernel
theorem dX5_goOnFailed_59 : decode cX5_goOnFailed 59 = .ok (.getfield 23, 3) := by decide +kernel
theorem dX5_goOnFailed_62 : decode cX5_goOnFailed 62 = .ok (.iload_n 1, 1) := by decide +kernel
theorem dX5_goOnFailed_63 : decode cX5_goOnFailed 63 = .ok (.invokevirtual 107, 3) := by decide +kernel
theorem dX5_goOnFailed_66 : decode cX5_goOnFailed 66 = .ok (.invokevirtual 150, 3) := by decide +kernel
theorem dX5_goOnFailed_69 : decode cX5_goOnFailed 69 = .ok (.invokevirtual 137, 3) := by decide +kernel
theorem dX5_goOnFailed_72 : decode cX5_goOnFailed 72 = .ok (.aload_n 0, 1) := by decide +kernel
theorem dX5_goOnFailed_73 : decode cX5_goOnFailed 73 = .ok (.iload_n 1, 1) := by decide +kernel
theorem dX5_goOnFailed_74 : decode cX5_goOnFailed 74 = .ok (.bipush 7, 2) := by decide +kernel
theorem dX5_goOnFailed_76 : decode cX5_goOnFailed 76 = .ok (.invokevirtual 97, 3) := by decide +kernel
theorem dX5_goOnFailed_79 : decode cX5_goOnFailed 79 = .ok (.ireturn, 1) := by decide +kernel
theorem dX5_goOnFailed_80 : decode cX5_goOnFailed 80 = .ok (.aload_n 0, 1) := by decide +kernel
theorem dX5_goOnFailed_81 : decode cX5_goOnFailed 81 = .ok (.getfield 30, 3) := by decide +kernel
theorem dX5_goOnFailed_84 : decode cX5_goOnFailed 84 = .ok (.iload_n 1, 1) := by decide +kernel
theorem dX5_goOnFailed_85 : decode cX5_goOnFailed 85 = .ok (.aload_n 0, 1) := by decide +kernel
theorem dX5_goOnFailed_86 : decode cX5_goOnFailed 86 = .ok (.getfield 51, 3) := by decide +kernel
theorem dX5_goOnFailed_89 : decode cX5_goOnFailed 89 = .ok (.invokevirtual 210, 3) := by decide +kernel
theorem dX5_goOnFailed_92 : decode cX5_goOnFailed 92 = .ok (.aload_n 0, 1) := by decide +kernel
theorem dX5_goOnFailed_93 : decode cX5_goOnFailed 93 = .ok (.iload_n 1, 1) := by decide +kernel
theorem dX5_goOnFailed_94 : decode cX5_goOnFailed 94 = .ok (.iconst 0, 1) := by decide +kernel
theorem dX5_goOnFailed_95 : decode cX5_goOnFailed 95 = .ok (.invokevirtual 147, 3) := by decide +kernel
theorem dX5_goOnFailed_98 : decode cX5_goOnFailed 98 = .ok (.ireturn, 1) := by decide +kernel
theorem dX5_goOnFailed_99 : decode cX5_goOnFailed 99 = .ok (.aload_n 0, 1) := by decide +kernel
theorem dX5_goOnFailed_100 : decode cX5_goOnFailed 100 = .ok (.getfield 30, 3) := by decide +kernel
theorem dX5_goOnFailed_103 : decode cX5_goOnFailed 103 = .ok (.iload_n 1, 1) := by decide +kernel
theorem dX5_goOnFailed_104 : decode cX5_goOnFailed 104 = .ok (.aload_n 0, 1) := by decide +kernel
theorem dX5_goOnFailed_105 : decode cX5_goOnFailed 105 = .ok (.getfield 51, 3) := by decide +kernel
theorem dX5_goOnFailed_108 : decode cX5_goOnFailed 108 = .ok (.invokevirtual 210, 3) := by decide +kernel
theorem dX5_goOnFailed_111 : decode cX5_goOnFailed 111 = .ok (.aload_n 0, 1) := by decide +kernel
theorem dX5_goOnFailed_112 : decode cX5_goOnFailed 112 = .ok (.iload_n 1, 1) := by decide +kernel
theorem dX5_goOnFailed_113 : decode cX5_goOnFailed 113 = .ok (.aload_n 0, 1) := by decide +kernel
theorem dX5_goOnFailed_114 : decode cX5_goOnFailed 114 = .ok (.getfield 38, 3) := by decide +kernel
theorem dX5_goOnFailed_117 : decode cX5_goOnFailed 117 = .ok (.iload_n 1, 1) := by decide +kernel
theorem dX5_goOnFailed_118 : decode cX5_goOnFailed 118 = .ok (.invokestatic 153, 3) := by decide +kernel
theorem dX5_goOnFailed_121 : decode cX5_goOnFailed 121 = .ok (.iconst 1, 1) := by decide +kernel
theorem dX5_goOnFailed_122 : decode cX5_goOnFailed 122 = .ok (.iadd, 1) := by decide +kernel
theorem dX5_goOnFailed_123 : decode cX5_goOnFailed 123 = .ok (.invokevirtual 147, 3) := by decide +kernel
theorem dX5_goOnFailed_126 : decode cX5_goOnFailed 126 = .ok (.ireturn, 1) := by decide +kernel
theorem dX5_goOnFailed_127 : decode cX5_goOnFailed 127 = .ok (.iconst 0, 1) := by decide +kernel
theorem dX5_goOnFailed_128 : decode cX5_goOnFailed 128 = .ok (.ireturn, 1) := by decide +kernel
