theorem dX0_init_0 : decode cX0_init 0 = .ok (.aload_n 0, 1) := by decide +kernel
theorem dX0_init_1 : decode cX0_init 1 = .ok (.invokespecial 3, 3) := by decide +kernel
theorem dX0_init_4 : decode cX0_init 4 = .ok (.aload_n 0, 1) := by decide +kernel
theorem dX0_init_5 : decode cX0_init 5 = .ok (.new 9, 3) := by decide +kernel
theorem dX0_init_8 : decode cX0_init 8 = .ok (.dup, 1) := by decide +kernel
theorem dX0_init_9 : decode cX0_init 9 = .ok (.sipush 3000, 3) := by decide +kernel
theorem dX0_init_12 : decode cX0_init 12 = .ok (.invokespecial 11, 3) := by decide +kernel
theorem dX0_init_15 : decode cX0_init 15 = .ok (.putfield 14, 3) := by decide +kernel
theorem dX0_init_18 : decode cX0_init 18 = .ok (.aload_n 0, 1) := by decide +kernel
theorem dX0_init_19 : decode cX0_init 19 = .ok (.bipush 60, 2) := by decide +kernel
theorem dX0_init_21 : decode cX0_init 21 = .ok (.newarray .int, 2) := by decide +kernel
theorem dX0_init_23 : decode cX0_init 23 = .ok (.putfield 20, 3) := by decide +kernel
theorem dX0_init_26 : decode cX0_init 26 = .ok (.aload_n 0, 1) := by decide +kernel
theorem dX0_init_27 : decode cX0_init 27 = .ok (.aload_n 1, 1) := by decide +kernel
theorem dX0_init_28 : decode cX0_init 28 = .ok (.putfield 24, 3) := by decide +kernel
theorem dX0_init_31 : decode cX0_init 31 = .ok (.aload_n 0, 1) := by decide +kernel
theorem dX0_init_32 : decode cX0_init 32 = .ok (.aload_n 2, 1) := by decide +kernel
theorem dX0_init_33 : decode cX0_init 33 = .ok (.putfield 27, 3) := by decide +kernel
theorem dX0_init_36 : decode cX0_init 36 = .ok (.return_, 1) := by decide +kernel
theorem dX0_accepts_0 : decode cX0_accepts 0 = .ok (.aload_n 0, 1) := by decide +kernel
theorem dX0_accepts_1 : decode cX0_accepts 1 = .ok (.getfield 14, 3) := by decide +kernel
theorem dX0_accepts_4 : decode cX0_accepts 4 = .ok (.invokevirtual 31, 3) := by decide +kernel
theorem dX0_accepts_7 : decode cX0_accepts 7 = .ok (.iconst 0, 1) := by decide +kernel
theorem dX0_accepts_8 : decode cX0_accepts 8 = .ok (.istore 5, 2) := by decide +kernel
theorem dX0_accepts_10 : decode cX0_accepts 10 = .ok (.iload 5, 2) := by decide +kernel
theorem dX0_accepts_12 : decode cX0_accepts 12 = .ok (.iload 4, 2) := by decide +kernel
theorem dX0_accepts_14 : decode cX0_accepts 14 = .ok (.if_icmp .ge 34, 3) := by decide +kernel
theorem dX0_accepts_17 : decode cX0_accepts 17 = .ok (.iload 5, 2) := by decide +kernel
theorem dX0_accepts_19 : decode cX0_accepts 19 = .ok (.aload_n 3, 1) := by decide +kernel
theorem dX0_accepts_20 : decode cX0_accepts 20 = .ok (.arraylength, 1) := by decide +kernel
theorem dX0_accepts_21 : decode cX0_accepts 21 = .ok (.if_icmp .ge 27, 3) := by decide +kernel
theorem dX0_accepts_24 : decode cX0_accepts 24 = .ok (.iload 5, 2) := by decide +kernel
theorem dX0_accepts_26 : decode cX0_accepts 26 = .ok (.bipush 60, 2) := by decide +kernel
theorem dX0_accepts_28 : decode cX0_accepts 28 = .ok (.if_icmp .ge 20, 3) := by decide +kernel
theorem dX0_accepts_31 : decode cX0_accepts 31 = .ok (.aload_n 0, 1) := by decide +kernel
theorem dX0_accepts_32 : decode cX0_accepts 32 = .ok (.getfield 20, 3) := by decide +kernel
theorem dX0_accepts_35 : decode cX0_accepts 35 = .ok (.iload 5, 2) := by decide +kernel
theorem dX0_accepts_37 : decode cX0_accepts 37 = .ok (.aload_n 3, 1) := by decide +kernel
theorem dX0_accepts_38 : decode cX0_accepts 38 = .ok (.iload 5, 2) := by decide +kernel
theorem dX0_accepts_40 : decode cX0_accepts 40 = .ok (.iaload, 1) := by decide +kernel
theorem dX0_accepts_41 : decode cX0_accepts 41 = .ok (.iastore, 1) := by decide +kernel
theorem dX0_accepts_42 : decode cX0_accepts 42 = .ok (.iinc 5 1, 3) := by decide +kernel
theorem dX0_accepts_45 : decode cX0_accepts 45 = .ok (.goto (-35), 3) := by decide +kernel
theorem dX0_accepts_48 : decode cX0_accepts 48 = .ok (.aload_n 0, 1) := by decide +kernel
theorem dX0_accepts_49 : decode cX0_accepts 49 = .ok (.iload_n 1, 1) := by decide +kernel
theorem dX0_accepts_50 : decode cX0_accepts 50 = .ok (.iload_n 2, 1) := by decide +kernel
theorem dX0_accepts_51 : decode cX0_accepts 51 = .ok (.iload 4, 2) := by decide +kernel
theorem dX0_accepts_53 : decode cX0_accepts 53 = .ok (.iconst 0, 1) := by decide +kernel
theorem dX0_accepts_54 : decode cX0_accepts 54 = .ok (.invokevirtual 34, 3) := by decide +kernel
theorem dX0_accepts_57 : decode cX0_accepts 57 = .ok (.ireturn, 1) := by decide +kernel
theorem dX0_kindOf_0 : decode cX0_kindOf 0 = .ok (.iload_n 1, 1) := by decide +kernel
theorem dX0_kindOf_1 : decode cX0_kindOf 1 = .ok (.sipush 2000, 3) := by decide +kernel
theorem dX0_kindOf_4 : decode cX0_kindOf 4 = .ok (.if_icmp .ge 14, 3) := by decide +kernel
theorem dX0_kindOf_7 : decode cX0_kindOf 7 = .ok (.aload_n 0, 1) := by decide +kernel
theorem dX0_kindOf_8 : decode cX0_kindOf 8 = .ok (.getfield 24, 3) := by decide +kernel
theorem dX0_kindOf_11 : decode cX0_kindOf 11 = .ok (.iload_n 1, 1) := by decide +kernel
theorem dX0_kindOf_12 : decode cX0_kindOf 12 = .ok (.invokevirtual 38, 3) := by decide +kernel
theorem dX0_kindOf_15 : decode cX0_kindOf 15 = .ok (.goto 15, 3) := by decide +kernel
theorem dX0_kindOf_18 : decode cX0_kindOf 18 = .ok (.aload_n 0, 1) := by decide +kernel
theorem dX0_kindOf_19 : decode cX0_kindOf 19 = .ok (.getfield 14, 3) := by decide +kernel
theorem dX0_kindOf_22 : decode cX0_kindOf 22 = .ok (.iload_n 1, 1) := by decide +kernel
theorem dX0_kindOf_23 : decode cX0_kindOf 23 = .ok (.sipush 2000, 3) := by decide +kernel
theorem dX0_kindOf_26 : decode cX0_kindOf 26 = .ok (.isub, 1) := by decide +kernel
theorem dX0_kindOf_27 : decode cX0_kindOf 27 = .ok (.invokevirtual 38, 3) := by decide +kernel
theorem dX0_kindOf_30 : decode cX0_kindOf 30 = .ok (.ireturn, 1) := by decide +kernel
theorem dX0_firstOf_0 : decode cX0_firstOf 0 = .ok (.iload_n 1, 1) := by decide +kernel
theorem dX0_firstOf_1 : decode cX0_firstOf 1 = .ok (.sipush 2000, 3) := by decide +kernel
theorem dX0_firstOf_4 : decode cX0_firstOf 4 = .ok (.if_icmp .ge 14, 3) := by decide +kernel
theorem dX0_firstOf_7 : decode cX0_firstOf 7 = .ok (.aload_n 0, 1) := by decide +kernel
theorem dX0_firstOf_8 : decode cX0_firstOf 8 = .ok (.getfield 24, 3) := by decide +kernel
theorem dX0_firstOf_11 : decode cX0_firstOf 11 = .ok (.iload_n 1, 1) := by decide +kernel
theorem dX0_firstOf_12 : decode cX0_firstOf 12 = .ok (.invokevirtual 42, 3) := by decide +kernel
theorem dX0_firstOf_15 : decode cX0_firstOf 15 = .ok (.goto 15, 3) := by decide +kernel
theorem dX0_firstOf_18 : decode cX0_firstOf 18 = .ok (.aload_n 0, 1) := by decide +kernel
theorem dX0_firstOf_19 : decode cX0_firstOf 19 = .ok (.getfield 14, 3) := by decide +kernel
theorem dX0_firstOf_22 : decode cX0_firstOf 22 = .ok (.iload_n 1, 1) := by decide +kernel
theorem dX0_firstOf_23 : decode cX0_firstOf 23 = .ok (.sipush 2000, 3) := by decide +kernel
theorem dX0_firstOf_26 : decode cX0_firstOf 26 = .ok (.isub, 1) := by decide +kernel
theorem dX0_firstOf_27 : decode cX0_firstOf 27 = .ok (.invokevirtual 42, 3) := by decide +kernel
theorem dX0_firstOf_30 : decode cX0_firstOf 30 = .ok (.ireturn, 1) := by decide +kernel
theorem dX0_secondOf_0 : decode cX0_secondOf 0 = .ok (.iload_n 1, 1) := by decide +kernel
theorem dX0_secondOf_1 : decode cX0_secondOf 1 = .ok (.sipush 2000, 3) := by decide +kernel
theorem dX0_secondOf_4 : decode cX0_secondOf 4 = .ok (.if_icmp .ge 14, 3) := by decide +kernel
theorem dX0_secondOf_7 : decode cX0_secondOf 7 = .ok (.aload_n 0, 1) := by decide +kernel
theorem dX0_secondOf_8 : decode cX0_secondOf 8 = .ok (.getfield 24, 3) := by decide +kernel
theorem dX0_secondOf_11 : decode cX0_secondOf 11 = .ok (.iload_n 1, 1) := by decide +kernel
theorem dX0_secondOf_12 : decode cX0_secondOf 12 = .ok (.invokevirtual 45, 3) := by decide +kernel
theorem dX0_secondOf_15 : decode cX0_secondOf 15 = .ok (.goto 15, 3) := by decide +kernel
theorem dX0_secondOf_18 : decode cX0_secondOf 18 = .ok (.aload_n 0, 1) := by decide +kernel
theorem dX0_secondOf_19 : decode cX0_secondOf 19 = .ok (.getfield 14, 3) := by decide +kernel
theorem dX0_secondOf_22 : decode cX0_secondOf 22 = .ok (.iload_n 1, 1) := by decide +kernel
theorem dX0_secondOf_23 : decode cX0_secondOf 23 = .ok (.sipush 2000, 3) := by decide +kernel
theorem dX0_secondOf_26 : decode cX0_secondOf 26 = .ok (.isub, 1) := by decide +kernel
theorem dX0_secondOf_27 : decode cX0_secondOf 27 = .ok (.invokevirtual 45, 3) := by decide +kernel
theorem dX0_secondOf_30 : decode cX0_secondOf 30 = .ok (.ireturn, 1) := by decide +kernel
theorem dX0_joined_0 : decode cX0_joined 0 = .ok (.iload_n 2, 1) := by decide +kernel
theorem dX0_joined_1 : decode cX0_joined 1 = .ok (.ifCond .lt 7, 3) := by decide +kernel
theorem dX0_joined_4 : decode cX0_joined 4 = .ok (.iload_n 3, 1) := by decide +kernel
theorem dX0_joined_5 : decode cX0_joined 5 = .ok (.ifCond .ge 5, 3) := by decide +kernel
theorem dX0_joined_8 : decode cX0_joined 8 = .ok (.iconst (-1), 1) := by decide +kernel
theorem dX0_joined_9 : decode cX0_joined 9 = .ok (.ireturn, 1) := by decide +kernel
theorem dX0_joined_10 : decode cX0_joined 10 = .ok (.aload_n 0, 1) := by decide +kernel
theorem dX0_joined_11 : decode cX0_joined 11 = .ok (.getfield 24, 3) := by decide +kernel
theorem dX0_joined_14 : decode cX0_joined 14 = .ok (.iload_n 1, 1) := by decide +kernel
theorem dX0_joined_15 : decode cX0_joined 15 = .ok (.iload_n 2, 1) := by decide +kernel
theorem dX0_joined_16 : decode cX0_joined 16 = .ok (.iload_n 3, 1) := by decide +kernel
theorem dX0_joined_17 : decode cX0_joined 17 = .ok (.invokevirtual 48, 3) := by decide +kernel
theorem dX0_joined_20 : decode cX0_joined 20 = .ok (.istore 4, 2) := by decide +kernel
theorem dX0_joined_22 : decode cX0_joined 22 = .ok (.iload 4, 2) := by decide +kernel
theorem dX0_joined_24 : decode cX0_joined 24 = .ok (.ifCond .lt 6, 3) := by decide +kernel
theorem dX0_joined_27 : decode cX0_joined 27 = .ok (.iload 4, 2) := by decide +kernel
theorem dX0_joined_29 : decode cX0_joined 29 = .ok (.ireturn, 1) := by decide +kernel
theorem dX0_joined_30 : decode cX0_joined 30 = .ok (.aload_n 0, 1) := by decide +kernel
theorem dX0_joined_31 : decode cX0_joined 31 = .ok (.getfield 14, 3) := by decide +kernel
theorem dX0_joined_34 : decode cX0_joined 34 = .ok (.iload_n 1, 1) := by decide +kernel
theorem dX0_joined_35 : decode cX0_joined 35 = .ok (.iload_n 2, 1) := by decide +kernel
theorem dX0_joined_36 : decode cX0_joined 36 = .ok (.iload_n 3, 1) := by decide +kernel
theorem dX0_joined_37 : decode cX0_joined 37 = .ok (.invokevirtual 52, 3) := by decide +kernel
theorem dX0_joined_40 : decode cX0_joined 40 = .ok (.istore 5, 2) := by decide +kernel
theorem dX0_joined_42 : decode cX0_joined 42 = .ok (.iload 5, 2) := by decide +kernel
theorem dX0_joined_44 : decode cX0_joined 44 = .ok (.ifCond .ge 7, 3) := by decide +kernel
theorem dX0_joined_47 : decode cX0_joined 47 = .ok (.iconst (-1), 1) := by decide +kernel
theorem dX0_joined_48 : decode cX0_joined 48 = .ok (.goto 9, 3) := by decide +kernel
theorem dX0_joined_51 : decode cX0_joined 51 = .ok (.sipush 2000, 3) := by decide +kernel
theorem dX0_joined_54 : decode cX0_joined 54 = .ok (.iload 5, 2) := by decide +kernel
theorem dX0_joined_56 : decode cX0_joined 56 = .ok (.iadd, 1) := by decide +kernel
theorem dX0_joined_57 : decode cX0_joined 57 = .ok (.ireturn, 1) := by decide +kernel
theorem dX0_hypothesis_0 : decode cX0_hypothesis 0 = .ok (.iload_n 1, 1) := by decide +kernel
theorem dX0_hypothesis_1 : decode cX0_hypothesis 1 = .ok (.ifCond .lt 23, 3) := by decide +kernel
theorem dX0_hypothesis_4 : decode cX0_hypothesis 4 = .ok (.iload_n 1, 1) := by decide +kernel
theorem dX0_hypothesis_5 : decode cX0_hypothesis 5 = .ok (.iload_n 2, 1) := by decide +kernel
theorem dX0_hypothesis_6 : decode cX0_hypothesis 6 = .ok (.if_icmp .ge 18, 3) := by decide +kernel
theorem dX0_hypothesis_9 : decode cX0_hypothesis 9 = .ok (.iload_n 1, 1) := by decide +kernel
theorem dX0_hypothesis_10 : decode cX0_hypothesis 10 = .ok (.bipush 60, 2) := by decide +kernel
theorem dX0_hypothesis_12 : decode cX0_hypothesis 12 = .ok (.if_icmp .ge 12, 3) := by decide +kernel
theorem dX0_hypothesis_15 : decode cX0_hypothesis 15 = .ok (.aload_n 0, 1) := by decide +kernel
theorem dX0_hypothesis_16 : decode cX0_hypothesis 16 = .ok (.getfield 20, 3) := by decide +kernel
theorem dX0_hypothesis_19 : decode cX0_hypothesis 19 = .ok (.iload_n 1, 1) := by decide +kernel
theorem dX0_hypothesis_20 : decode cX0_hypothesis 20 = .ok (.iaload, 1) := by decide +kernel
theorem dX0_hypothesis_21 : decode cX0_hypothesis 21 = .ok (.goto 4, 3) := by decide +kernel
theorem dX0_hypothesis_24 : decode cX0_hypothesis 24 = .ok (.iconst (-1), 1) := by decide +kernel
theorem dX0_hypothesis_25 : decode cX0_hypothesis 25 = .ok (.ireturn, 1) := by decide +kernel
theorem dX0_binds_0 : decode cX0_binds 0 = .ok (.iload_n 2, 1) := by decide +kernel
theorem dX0_binds_1 : decode cX0_binds 1 = .ok (.ifCond .lt 9, 3) := by decide +kernel
theorem dX0_binds_4 : decode cX0_binds 4 = .ok (.iload_n 2, 1) := by decide +kernel
theorem dX0_binds_5 : decode cX0_binds 5 = .ok (.bipush 60, 2) := by decide +kernel
theorem dX0_binds_7 : decode cX0_binds 7 = .ok (.if_icmp .lt 5, 3) := by decide +kernel
theorem dX0_binds_10 : decode cX0_binds 10 = .ok (.iconst 0, 1) := by decide +kernel
theorem dX0_binds_11 : decode cX0_binds 11 = .ok (.ireturn, 1) := by decide +kernel
theorem dX0_binds_12 : decode cX0_binds 12 = .ok (.aload_n 0, 1) := by decide +kernel
theorem dX0_binds_13 : decode cX0_binds 13 = .ok (.getfield 20, 3) := by decide +kernel
theorem dX0_binds_16 : decode cX0_binds 16 = .ok (.iload_n 2, 1) := by decide +kernel
theorem dX0_binds_17 : decode cX0_binds 17 = .ok (.iload_n 1, 1) := by decide +kernel
theorem dX0_binds_18 : decode cX0_binds 18 = .ok (.iastore, 1) := by decide +kernel
theorem dX0_binds_19 : decode cX0_binds 19 = .ok (.iconst 1, 1) := by decide +kernel
theorem dX0_binds_20 : decode cX0_binds 20 = .ok (.ireturn, 1) := by decide +kernel
theorem dX0_isProof_0 : decode cX0_isProof 0 = .ok (.iload_n 2, 1) := by decide +kernel
theorem dX0_isProof_1 : decode cX0_isProof 1 = .ok (.ifCond .lt 10, 3) := by decide +kernel
theorem dX0_isProof_4 : decode cX0_isProof 4 = .ok (.iload 4, 2) := by decide +kernel
theorem dX0_isProof_6 : decode cX0_isProof 6 = .ok (.bipush 40, 2) := by decide +kernel
theorem dX0_isProof_8 : decode cX0_isProof 8 = .ok (.if_icmp .le 5, 3) := by decide +kernel
theorem dX0_isProof_11 : decode cX0_isProof 11 = .ok (.iconst 0, 1) := by decide +kernel
theorem dX0_isProof_12 : decode cX0_isProof 12 = .ok (.ireturn, 1) := by decide +kernel
theorem dX0_isProof_13 : decode cX0_isProof 13 = .ok (.aload_n 0, 1) := by decide +kernel
theorem dX0_isProof_14 : decode cX0_isProof 14 = .ok (.getfield 27, 3) := by decide +kernel
theorem dX0_isProof_17 : decode cX0_isProof 17 = .ok (.iload_n 1, 1) := by decide +kernel
theorem dX0_isProof_18 : decode cX0_isProof 18 = .ok (.iconst 0, 1) := by decide +kernel
theorem dX0_isProof_19 : decode cX0_isProof 19 = .ok (.invokevirtual 55, 3) := by decide +kernel
theorem dX0_isProof_22 : decode cX0_isProof 22 = .ok (.istore 5, 2) := by decide +kernel
theorem dX0_isProof_24 : decode cX0_isProof 24 = .ok (.aload_n 0, 1) := by decide +kernel
theorem dX0_isProof_25 : decode cX0_isProof 25 = .ok (.getfield 27, 3) := by decide +kernel
theorem dX0_isProof_28 : decode cX0_isProof 28 = .ok (.iload_n 1, 1) := by decide +kernel
theorem dX0_isProof_29 : decode cX0_isProof 29 = .ok (.iconst 1, 1) := by decide +kernel
theorem dX0_isProof_30 : decode cX0_isProof 30 = .ok (.invokevirtual 55, 3) := by decide +kernel
theorem dX0_isProof_33 : decode cX0_isProof 33 = .ok (.istore 6, 2) := by decide +kernel
theorem dX0_isProof_35 : decode cX0_isProof 35 = .ok (.aload_n 0, 1) := by decide +kernel
theorem dX0_isProof_36 : decode cX0_isProof 36 = .ok (.getfield 27, 3) := by decide +kernel
theorem dX0_isProof_39 : decode cX0_isProof 39 = .ok (.iload_n 1, 1) := by decide +kernel
theorem dX0_isProof_40 : decode cX0_isProof 40 = .ok (.invokevirtual 61, 3) := by decide +kernel
theorem dX0_isProof_43 : decode cX0_isProof 43 = .ok (.lookupswitch 354 #[(67, 256), (73, 175), (74, 209), (76, 57), (80, 122), (88, 243)], 57) := by decide +kernel
theorem dX0_isProof_100 : decode cX0_isProof 100 = .ok (.aload_n 0, 1) := by decide +kernel
theorem dX0_isProof_101 : decode cX0_isProof 101 = .ok (.iload_n 2, 1) := by decide +kernel
theorem dX0_isProof_102 : decode cX0_isProof 102 = .ok (.invokevirtual 62, 3) := by decide +kernel
theorem dX0_isProof_105 : decode cX0_isProof 105 = .ok (.iconst 5, 1) := by decide +kernel
theorem dX0_isProof_106 : decode cX0_isProof 106 = .ok (.if_icmp .ne 57, 3) := by decide +kernel
theorem dX0_isProof_109 : decode cX0_isProof 109 = .ok (.aload_n 0, 1) := by decide +kernel
theorem dX0_isProof_110 : decode cX0_isProof 110 = .ok (.iload_n 2, 1) := by decide +kernel
theorem dX0_isProof_111 : decode cX0_isProof 111 = .ok (.invokevirtual 63, 3) := by decide +kernel
theorem dX0_isProof_114 : decode cX0_isProof 114 = .ok (.aload_n 0, 1) := by decide +kernel
theorem dX0_isProof_115 : decode cX0_isProof 115 = .ok (.getfield 27, 3) := by decide +kernel
theorem dX0_isProof_118 : decode cX0_isProof 118 = .ok (.iload_n 1, 1) := by decide +kernel
theorem dX0_isProof_119 : decode cX0_isProof 119 = .ok (.invokevirtual 64, 3) := by decide +kernel
theorem dX0_isProof_122 : decode cX0_isProof 122 = .ok (.if_icmp .ne 41, 3) := by decide +kernel
theorem dX0_isProof_125 : decode cX0_isProof 125 = .ok (.aload_n 0, 1) := by decide +kernel
theorem dX0_isProof_126 : decode cX0_isProof 126 = .ok (.aload_n 0, 1) := by decide +kernel
theorem dX0_isProof_127 : decode cX0_isProof 127 = .ok (.iload_n 2, 1) := by decide +kernel
theorem dX0_isProof_128 : decode cX0_isProof 128 = .ok (.invokevirtual 63, 3) := by decide +kernel
theorem dX0_isProof_131 : decode cX0_isProof 131 = .ok (.iload_n 3, 1) := by decide +kernel
theorem dX0_isProof_132 : decode cX0_isProof 132 = .ok (.invokevirtual 67, 3) := by decide +kernel
theorem dX0_isProof_135 : decode cX0_isProof 135 = .ok (.ifCond .eq 28, 3) := by decide +kernel
theorem dX0_isProof_138 : decode cX0_isProof 138 = .ok (.aload_n 0, 1) := by decide +kernel
theorem dX0_isProof_139 : decode cX0_isProof 139 = .ok (.iload 5, 2) := by decide +kernel
theorem dX0_isProof_141 : decode cX0_isProof 141 = .ok (.aload_n 0, 1) := by decide +kernel
theorem dX0_isProof_142 : decode cX0_isProof 142 = .ok (.iload_n 2, 1) := by decide +kernel
theorem dX0_isProof_143 : decode cX0_isProof 143 = .ok (.invokevirtual 71, 3) := by decide +kernel
theorem dX0_isProof_146 : decode cX0_isProof 146 = .ok (.iload_n 3, 1) := by decide +kernel
theorem dX0_isProof_147 : decode cX0_isProof 147 = .ok (.iconst 1, 1) := by decide +kernel
theorem dX0_isProof_148 : decode cX0_isProof 148 = .ok (.iadd, 1) := by decide +kernel
theorem dX0_isProof_149 : decode cX0_isProof 149 = .ok (.iload 4, 2) := by decide +kernel
theorem dX0_isProof_151 : decode cX0_isProof 151 = .ok (.iconst 1, 1) := by decide +kernel
theorem dX0_isProof_152 : decode cX0_isProof 152 = .ok (.iadd, 1) := by decide +kernel
theorem dX0_isProof_153 : decode cX0_isProof 153 = .ok (.invokevirtual 34, 3) := by decide +kernel
theorem dX0_isProof_156 : decode cX0_isProof 156 = .ok (.ifCond .eq 7, 3) := by decide +kernel
theorem dX0_isProof_159 : decode cX0_isProof 159 = .ok (.iconst 1, 1) := by decide +kernel
theorem dX0_isProof_160 : decode cX0_isProof 160 = .ok (.goto 4, 3) := by decide +kernel
theorem dX0_isProof_163 : decode cX0_isProof 163 = .ok (.iconst 0, 1) := by decide +kernel
theorem dX0_isProof_164 : decode cX0_isProof 164 = .ok (.ireturn, 1) := by decide +kernel
theorem dX0_isProof_165 : decode cX0_isProof 165 = .ok (.aload_n 0, 1) := by decide +kernel
theorem dX0_isProof_166 : decode cX0_isProof 166 = .ok (.iload_n 2, 1) := by decide +kernel
theorem dX0_isProof_167 : decode cX0_isProof 167 = .ok (.invokevirtual 62, 3) := by decide +kernel
theorem dX0_isProof_170 : decode cX0_isProof 170 = .ok (.iconst 3, 1) := by decide +kernel
theorem dX0_isProof_171 : decode cX0_isProof 171 = .ok (.if_icmp .ne 45, 3) := by decide +kernel
theorem dX0_isProof_174 : decode cX0_isProof 174 = .ok (.aload_n 0, 1) := by decide +kernel
theorem dX0_isProof_175 : decode cX0_isProof 175 = .ok (.iload 5, 2) := by decide +kernel
theorem dX0_isProof_177 : decode cX0_isProof 177 = .ok (.aload_n 0, 1) := by decide +kernel
theorem dX0_isProof_178 : decode cX0_isProof 178 = .ok (.iload_n 2, 1) := by decide +kernel
theorem dX0_isProof_179 : decode cX0_isProof 179 = .ok (.invokevirtual 63, 3) := by decide +kernel
theorem dX0_isProof_182 : decode cX0_isProof 182 = .ok (.iload_n 3, 1) := by decide +kernel
theorem dX0_isProof_183 : decode cX0_isProof 183 = .ok (.iload 4, 2) := by decide +kernel
theorem dX0_isProof_185 : decode cX0_isProof 185 = .ok (.iconst 1, 1) := by decide +kernel
theorem dX0_isProof_186 : decode cX0_isProof 186 = .ok (.iadd, 1) := by decide +kernel
theorem dX0_isProof_187 : decode cX0_isProof 187 = .ok (.invokevirtual 34, 3) := by decide +kernel
theorem dX0_isProof_190 : decode cX0_isProof 190 = .ok (.ifCond .eq 26, 3) := by decide +kernel
theorem dX0_isProof_193 : decode cX0_isProof 193 = .ok (.aload_n 0, 1) := by decide +kernel
theorem dX0_isProof_194 : decode cX0_isProof 194 = .ok (.iload 6, 2) := by decide +kernel
theorem dX0_isProof_196 : decode cX0_isProof 196 = .ok (.aload_n 0, 1) := by decide +kernel
theorem dX0_isProof_197 : decode cX0_isProof 197 = .ok (.iload_n 2, 1) := by decide +kernel
theorem dX0_isProof_198 : decode cX0_isProof 198 = .ok (.invokevirtual 71, 3) := by decide +kernel
theorem dX0_isProof_201 : decode cX0_isProof 201 = .ok (.iload_n 3, 1) := by decide +kernel
theorem dX0_isProof_202 : decode cX0_isProof 202 = .ok (.iload 4, 2) := by decide +kernel
theorem dX0_isProof_204 : decode cX0_isProof 204 = .ok (.iconst 1, 1) := by decide +kernel
theorem dX0_isProof_205 : decode cX0_isProof 205 = .ok (.iadd, 1) := by decide +kernel
theorem dX0_isProof_206 : decode cX0_isProof 206 = .ok (.invokevirtual 34, 3) := by decide +kernel
theorem dX0_isProof_209 : decode cX0_isProof 209 = .ok (.ifCond .eq 7, 3) := by decide +kernel
theorem dX0_isProof_212 : decode cX0_isProof 212 = .ok (.iconst 1, 1) := by decide +kernel
theorem dX0_isProof_213 : decode cX0_isProof 213 = .ok (.goto 4, 3) := by decide +kernel
theorem dX0_isProof_216 : decode cX0_isProof 216 = .ok (.iconst 0, 1) := by decide +kernel
theorem dX0_isProof_217 : decode cX0_isProof 217 = .ok (.ireturn, 1) := by decide +kernel
theorem dX0_isProof_218 : decode cX0_isProof 218 = .ok (.aload_n 0, 1) := by decide +kernel
theorem dX0_isProof_219 : decode cX0_isProof 219 = .ok (.iload_n 2, 1) := by decide +kernel
theorem dX0_isProof_220 : decode cX0_isProof 220 = .ok (.invokevirtual 62, 3) := by decide +kernel
theorem dX0_isProof_223 : decode cX0_isProof 223 = .ok (.iconst 4, 1) := by decide +kernel
theorem dX0_isProof_224 : decode cX0_isProof 224 = .ok (.if_icmp .ne 26, 3) := by decide +kernel
theorem dX0_isProof_227 : decode cX0_isProof 227 = .ok (.aload_n 0, 1) := by decide +kernel
theorem dX0_isProof_228 : decode cX0_isProof 228 = .ok (.iload 5, 2) := by decide +kernel
theorem dX0_isProof_230 : decode cX0_isProof 230 = .ok (.aload_n 0, 1) := by decide +kernel
theorem dX0_isProof_231 : decode cX0_isProof 231 = .ok (.iload_n 2, 1) := by decide +kernel
theorem dX0_isProof_232 : decode cX0_isProof 232 = .ok (.invokevirtual 63, 3) := by decide +kernel
theorem dX0_isProof_235 : decode cX0_isProof 235 = .ok (.iload_n 3, 1) := by decide +kernel
theorem dX0_isProof_236 : decode cX0_isProof 236 = .ok (.iload 4, 2) := by decide +kernel
theorem dX0_isProof_238 : decode cX0_isProof 238 = .ok (.iconst 1, 1) := by decide +kernel
theorem dX0_isProof_239 : decode cX0_isProof 239 = .ok (.iadd, 1) := by decide +kernel
theorem dX0_isProof_240 : decode cX0_isProof 240 = .ok (.invokevirtual 34, 3) := by decide +kernel
theorem dX0_isProof_243 : decode cX0_isProof 243 = .ok (.ifCond .eq 7, 3) := by decide +kernel
theorem dX0_isProof_246 : decode cX0_isProof 246 = .ok (.iconst 1, 1) := by decide +kernel
theorem dX0_isProof_247 : decode cX0_isProof 247 = .ok (.goto 4, 3) := by decide +kernel
theorem dX0_isProof_250 : decode cX0_isProof 250 = .ok (.iconst 0, 1) := by decide +kernel
theorem dX0_isProof_251 : decode cX0_isProof 251 = .ok (.ireturn, 1) := by decide +kernel
theorem dX0_isProof_252 : decode cX0_isProof 252 = .ok (.aload_n 0, 1) := by decide +kernel
theorem dX0_isProof_253 : decode cX0_isProof 253 = .ok (.iload_n 2, 1) := by decide +kernel
theorem dX0_isProof_254 : decode cX0_isProof 254 = .ok (.invokevirtual 62, 3) := by decide +kernel
theorem dX0_isProof_257 : decode cX0_isProof 257 = .ok (.iconst 4, 1) := by decide +kernel
theorem dX0_isProof_258 : decode cX0_isProof 258 = .ok (.if_icmp .ne 26, 3) := by decide +kernel
theorem dX0_isProof_261 : decode cX0_isProof 261 = .ok (.aload_n 0, 1) := by decide +kernel
theorem dX0_isProof_262 : decode cX0_isProof 262 = .ok (.iload 5, 2) := by decide +kernel
theorem dX0_isProof_264 : decode cX0_isProof 264 = .ok (.aload_n 0, 1) := by decide +kernel
theorem dX0_isProof_265 : decode cX0_isProof 265 = .ok (.iload_n 2, 1) := by decide +kernel
theorem dX0_isProof_266 : decode cX0_isProof 266 = .ok (.invokevirtual 71, 3) := by decide +kernel
theorem dX0_isProof_269 : decode cX0_isProof 269 = .ok (.iload_n 3, 1) := by decide +kernel
theorem dX0_isProof_270 : decode cX0_isProof 270 = .ok (.iload 4, 2) := by decide +kernel
theorem dX0_isProof_272 : decode cX0_isProof 272 = .ok (.iconst 1, 1) := by decide +kernel
theorem dX0_isProof_273 : decode cX0_isProof 273 = .ok (.iadd, 1) := by decide +kernel
theorem dX0_isProof_274 : decode cX0_isProof 274 = .ok (.invokevirtual 34, 3) := by decide +kernel
theorem dX0_isProof_277 : decode cX0_isProof 277 = .ok (.ifCond .eq 7, 3) := by decide +kernel
theorem dX0_isProof_280 : decode cX0_isProof 280 = .ok (.iconst 1, 1) := by decide +kernel
theorem dX0_isProof_281 : decode cX0_isProof 281 = .ok (.goto 4, 3) := by decide +kernel
theorem dX0_isProof_284 : decode cX0_isProof 284 = .ok (.iconst 0, 1) := by decide +kernel
theorem dX0_isProof_285 : decode cX0_isProof 285 = .ok (.ireturn, 1) := by decide +kernel
theorem dX0_isProof_286 : decode cX0_isProof 286 = .ok (.aload_n 0, 1) := by decide +kernel
theorem dX0_isProof_287 : decode cX0_isProof 287 = .ok (.iload 5, 2) := by decide +kernel
theorem dX0_isProof_289 : decode cX0_isProof 289 = .ok (.iconst 0, 1) := by decide +kernel
theorem dX0_isProof_290 : decode cX0_isProof 290 = .ok (.iload_n 3, 1) := by decide +kernel
theorem dX0_isProof_291 : decode cX0_isProof 291 = .ok (.iload 4, 2) := by decide +kernel
theorem dX0_isProof_293 : decode cX0_isProof 293 = .ok (.iconst 1, 1) := by decide +kernel
theorem dX0_isProof_294 : decode cX0_isProof 294 = .ok (.iadd, 1) := by decide +kernel
theorem dX0_isProof_295 : decode cX0_isProof 295 = .ok (.invokevirtual 34, 3) := by decide +kernel
theorem dX0_isProof_298 : decode cX0_isProof 298 = .ok (.ireturn, 1) := by decide +kernel
theorem dX0_isProof_299 : decode cX0_isProof 299 = .ok (.aload_n 0, 1) := by decide +kernel
theorem dX0_isProof_300 : decode cX0_isProof 300 = .ok (.iload 5, 2) := by decide +kernel
theorem dX0_isProof_302 : decode cX0_isProof 302 = .ok (.iload_n 3, 1) := by decide +kernel
theorem dX0_isProof_303 : decode cX0_isProof 303 = .ok (.iload 4, 2) := by decide +kernel
theorem dX0_isProof_305 : decode cX0_isProof 305 = .ok (.iconst 1, 1) := by decide +kernel
theorem dX0_isProof_306 : decode cX0_isProof 306 = .ok (.iadd, 1) := by decide +kernel
theorem dX0_isProof_307 : decode cX0_isProof 307 = .ok (.invokevirtual 72, 3) := by decide +kernel
theorem dX0_isProof_310 : decode cX0_isProof 310 = .ok (.istore 7, 2) := by decide +kernel
theorem dX0_isProof_312 : decode cX0_isProof 312 = .ok (.aload_n 0, 1) := by decide +kernel
theorem dX0_isProof_313 : decode cX0_isProof 313 = .ok (.iload 7, 2) := by decide +kernel
theorem dX0_isProof_315 : decode cX0_isProof 315 = .ok (.invokevirtual 62, 3) := by decide +kernel
theorem dX0_isProof_318 : decode cX0_isProof 318 = .ok (.iconst 4, 1) := by decide +kernel
theorem dX0_isProof_319 : decode cX0_isProof 319 = .ok (.if_icmp .ne 76, 3) := by decide +kernel
theorem dX0_isProof_322 : decode cX0_isProof 322 = .ok (.aload_n 0, 1) := by decide +kernel
theorem dX0_isProof_323 : decode cX0_isProof 323 = .ok (.aload_n 0, 1) := by decide +kernel
theorem dX0_isProof_324 : decode cX0_isProof 324 = .ok (.iload 7, 2) := by decide +kernel
theorem dX0_isProof_326 : decode cX0_isProof 326 = .ok (.invokevirtual 63, 3) := by decide +kernel
theorem dX0_isProof_329 : decode cX0_isProof 329 = .ok (.iload_n 3, 1) := by decide +kernel
theorem dX0_isProof_330 : decode cX0_isProof 330 = .ok (.invokevirtual 67, 3) := by decide +kernel
theorem dX0_isProof_333 : decode cX0_isProof 333 = .ok (.ifCond .eq 62, 3) := by decide +kernel
theorem dX0_isProof_336 : decode cX0_isProof 336 = .ok (.aload_n 0, 1) := by decide +kernel
theorem dX0_isProof_337 : decode cX0_isProof 337 = .ok (.iload 6, 2) := by decide +kernel
theorem dX0_isProof_339 : decode cX0_isProof 339 = .ok (.iload_n 2, 1) := by decide +kernel
theorem dX0_isProof_340 : decode cX0_isProof 340 = .ok (.iload_n 3, 1) := by decide +kernel
theorem dX0_isProof_341 : decode cX0_isProof 341 = .ok (.iconst 1, 1) := by decide +kernel
theorem dX0_isProof_342 : decode cX0_isProof 342 = .ok (.iadd, 1) := by decide +kernel
theorem dX0_isProof_343 : decode cX0_isProof 343 = .ok (.iload 4, 2) := by decide +kernel
theorem dX0_isProof_345 : decode cX0_isProof 345 = .ok (.iconst 1, 1) := by decide +kernel
theorem dX0_isProof_346 : decode cX0_isProof 346 = .ok (.iadd, 1) := by decide +kernel
theorem dX0_isProof_347 : decode cX0_isProof 347 = .ok (.invokevirtual 34, 3) := by decide +kernel
theorem dX0_isProof_350 : decode cX0_isProof 350 = .ok (.ifCond .eq 45, 3) := by decide +kernel
theorem dX0_isProof_353 : decode cX0_isProof 353 = .ok (.aload_n 0, 1) := by decide +kernel
theorem dX0_isProof_354 : decode cX0_isProof 354 = .ok (.aload_n 0, 1) := by decide +kernel
theorem dX0_isProof_355 : decode cX0_isProof 355 = .ok (.iload 7, 2) := by decide +kernel
theorem dX0_isProof_357 : decode cX0_isProof 357 = .ok (.invokevirtual 71, 3) := by decide +kernel
theorem dX0_isProof_360 : decode cX0_isProof 360 = .ok (.iload_n 3, 1) := by decide +kernel
theorem dX0_isProof_361 : decode cX0_isProof 361 = .ok (.invokevirtual 67, 3) := by decide +kernel
theorem dX0_isProof_364 : decode cX0_isProof 364 = .ok (.ifCond .eq 31, 3) := by decide +kernel
theorem dX0_isProof_367 : decode cX0_isProof 367 = .ok (.aload_n 0, 1) := by decide +kernel
theorem dX0_isProof_368 : decode cX0_isProof 368 = .ok (.aload_n 0, 1) := by decide +kernel
theorem dX0_isProof_369 : decode cX0_isProof 369 = .ok (.getfield 27, 3) := by decide +kernel
theorem dX0_isProof_372 : decode cX0_isProof 372 = .ok (.iload_n 1, 1) := by decide +kernel
theorem dX0_isProof_373 : decode cX0_isProof 373 = .ok (.iconst 2, 1) := by decide +kernel
theorem dX0_isProof_374 : decode cX0_isProof 374 = .ok (.invokevirtual 55, 3) := by decide +kernel
theorem dX0_isProof_377 : decode cX0_isProof 377 = .ok (.iload_n 2, 1) := by decide +kernel
theorem dX0_isProof_378 : decode cX0_isProof 378 = .ok (.iload_n 3, 1) := by decide +kernel
theorem dX0_isProof_379 : decode cX0_isProof 379 = .ok (.iconst 1, 1) := by decide +kernel
theorem dX0_isProof_380 : decode cX0_isProof 380 = .ok (.iadd, 1) := by decide +kernel
theorem dX0_isProof_381 : decode cX0_isProof 381 = .ok (.iload 4, 2) := by decide +kernel
theorem dX0_isProof_383 : decode cX0_isProof 383 = .ok (.iconst 1, 1) := by decide +kernel
theorem dX0_isProof_384 : decode cX0_isProof 384 = .ok (.iadd, 1) := by decide +kernel
theorem dX0_isProof_385 : decode cX0_isProof 385 = .ok (.invokevirtual 34, 3) := by decide +kernel
theorem dX0_isProof_388 : decode cX0_isProof 388 = .ok (.ifCond .eq 7, 3) := by decide +kernel
theorem dX0_isProof_391 : decode cX0_isProof 391 = .ok (.iconst 1, 1) := by decide +kernel
theorem dX0_isProof_392 : decode cX0_isProof 392 = .ok (.goto 4, 3) := by decide +kernel
theorem dX0_isProof_395 : decode cX0_isProof 395 = .ok (.iconst 0, 1) := by decide +kernel
theorem dX0_isProof_396 : decode cX0_isProof 396 = .ok (.ireturn, 1) := by decide +kernel
theorem dX0_isProof_397 : decode cX0_isProof 397 = .ok (.aload_n 0, 1) := by decide +kernel
theorem dX0_isProof_398 : decode cX0_isProof 398 = .ok (.iload_n 1, 1) := by decide +kernel
theorem dX0_isProof_399 : decode cX0_isProof 399 = .ok (.iload_n 3, 1) := by decide +kernel
theorem dX0_isProof_400 : decode cX0_isProof 400 = .ok (.iload 4, 2) := by decide +kernel
theorem dX0_isProof_402 : decode cX0_isProof 402 = .ok (.invokevirtual 72, 3) := by decide +kernel
theorem dX0_isProof_405 : decode cX0_isProof 405 = .ok (.iload_n 2, 1) := by decide +kernel
theorem dX0_isProof_406 : decode cX0_isProof 406 = .ok (.if_icmp .ne 7, 3) := by decide +kernel
theorem dX0_isProof_409 : decode cX0_isProof 409 = .ok (.iconst 1, 1) := by decide +kernel
theorem dX0_isProof_410 : decode cX0_isProof 410 = .ok (.goto 4, 3) := by decide +kernel
theorem dX0_isProof_413 : decode cX0_isProof 413 = .ok (.iconst 0, 1) := by decide +kernel
theorem dX0_isProof_414 : decode cX0_isProof 414 = .ok (.ireturn, 1) := by decide +kernel
theorem dX0_formulaOf_0 : decode cX0_formulaOf 0 = .ok (.iload_n 3, 1) := by decide +kernel
theorem dX0_formulaOf_1 : decode cX0_formulaOf 1 = .ok (.bipush 40, 2) := by decide +kernel
theorem dX0_formulaOf_3 : decode cX0_formulaOf 3 = .ok (.if_icmp .le 5, 3) := by decide +kernel
theorem dX0_formulaOf_6 : decode cX0_formulaOf 6 = .ok (.iconst (-1), 1) := by decide +kernel
theorem dX0_formulaOf_7 : decode cX0_formulaOf 7 = .ok (.ireturn, 1) := by decide +kernel
theorem dX0_formulaOf_8 : decode cX0_formulaOf 8 = .ok (.aload_n 0, 1) := by decide +kernel
theorem dX0_formulaOf_9 : decode cX0_formulaOf 9 = .ok (.getfield 27, 3) := by decide +kernel
theorem dX0_formulaOf_12 : decode cX0_formulaOf 12 = .ok (.iload_n 1, 1) := by decide +kernel
theorem dX0_formulaOf_13 : decode cX0_formulaOf 13 = .ok (.iconst 0, 1) := by decide +kernel
theorem dX0_formulaOf_14 : decode cX0_formulaOf 14 = .ok (.invokevirtual 55, 3) := by decide +kernel
theorem dX0_formulaOf_17 : decode cX0_formulaOf 17 = .ok (.istore 4, 2) := by decide +kernel
theorem dX0_formulaOf_19 : decode cX0_formulaOf 19 = .ok (.aload_n 0, 1) := by decide +kernel
theorem dX0_formulaOf_20 : decode cX0_formulaOf 20 = .ok (.getfield 27, 3) := by decide +kernel
theorem dX0_formulaOf_23 : decode cX0_formulaOf 23 = .ok (.iload_n 1, 1) := by decide +kernel
theorem dX0_formulaOf_24 : decode cX0_formulaOf 24 = .ok (.invokevirtual 61, 3) := by decide +kernel
theorem dX0_formulaOf_27 : decode cX0_formulaOf 27 = .ok (.lookupswitch 281 #[(65, 156), (70, 215), (76, 75), (80, 119), (83, 248), (84, 73), (104, 65)], 65) := by decide +kernel
theorem dX0_formulaOf_92 : decode cX0_formulaOf 92 = .ok (.aload_n 0, 1) := by decide +kernel
theorem dX0_formulaOf_93 : decode cX0_formulaOf 93 = .ok (.iload 4, 2) := by decide +kernel
theorem dX0_formulaOf_95 : decode cX0_formulaOf 95 = .ok (.iload_n 2, 1) := by decide +kernel
theorem dX0_formulaOf_96 : decode cX0_formulaOf 96 = .ok (.invokevirtual 74, 3) := by decide +kernel
theorem dX0_formulaOf_99 : decode cX0_formulaOf 99 = .ok (.ireturn, 1) := by decide +kernel
theorem dX0_formulaOf_100 : decode cX0_formulaOf 100 = .ok (.iconst 1, 1) := by decide +kernel
theorem dX0_formulaOf_101 : decode cX0_formulaOf 101 = .ok (.ireturn, 1) := by decide +kernel
theorem dX0_formulaOf_102 : decode cX0_formulaOf 102 = .ok (.aload_n 0, 1) := by decide +kernel
theorem dX0_formulaOf_103 : decode cX0_formulaOf 103 = .ok (.getfield 27, 3) := by decide +kernel
theorem dX0_formulaOf_106 : decode cX0_formulaOf 106 = .ok (.iload_n 1, 1) := by decide +kernel
theorem dX0_formulaOf_107 : decode cX0_formulaOf 107 = .ok (.invokevirtual 64, 3) := by decide +kernel
theorem dX0_formulaOf_110 : decode cX0_formulaOf 110 = .ok (.istore 5, 2) := by decide +kernel
theorem dX0_formulaOf_112 : decode cX0_formulaOf 112 = .ok (.aload_n 0, 1) := by decide +kernel
theorem dX0_formulaOf_113 : decode cX0_formulaOf 113 = .ok (.iload 5, 2) := by decide +kernel
theorem dX0_formulaOf_115 : decode cX0_formulaOf 115 = .ok (.iload_n 2, 1) := by decide +kernel
theorem dX0_formulaOf_116 : decode cX0_formulaOf 116 = .ok (.invokevirtual 67, 3) := by decide +kernel
theorem dX0_formulaOf_119 : decode cX0_formulaOf 119 = .ok (.ifCond .eq 25, 3) := by decide +kernel
theorem dX0_formulaOf_122 : decode cX0_formulaOf 122 = .ok (.aload_n 0, 1) := by decide +kernel
theorem dX0_formulaOf_123 : decode cX0_formulaOf 123 = .ok (.iconst 5, 1) := by decide +kernel
theorem dX0_formulaOf_124 : decode cX0_formulaOf 124 = .ok (.iload 5, 2) := by decide +kernel
theorem dX0_formulaOf_126 : decode cX0_formulaOf 126 = .ok (.aload_n 0, 1) := by decide +kernel
theorem dX0_formulaOf_127 : decode cX0_formulaOf 127 = .ok (.iload 4, 2) := by decide +kernel
theorem dX0_formulaOf_129 : decode cX0_formulaOf 129 = .ok (.iload_n 2, 1) := by decide +kernel
theorem dX0_formulaOf_130 : decode cX0_formulaOf 130 = .ok (.iconst 1, 1) := by decide +kernel
theorem dX0_formulaOf_131 : decode cX0_formulaOf 131 = .ok (.iadd, 1) := by decide +kernel
theorem dX0_formulaOf_132 : decode cX0_formulaOf 132 = .ok (.iload_n 3, 1) := by decide +kernel
theorem dX0_formulaOf_133 : decode cX0_formulaOf 133 = .ok (.iconst 1, 1) := by decide +kernel
theorem dX0_formulaOf_134 : decode cX0_formulaOf 134 = .ok (.iadd, 1) := by decide +kernel
theorem dX0_formulaOf_135 : decode cX0_formulaOf 135 = .ok (.invokevirtual 72, 3) := by decide +kernel
theorem dX0_formulaOf_138 : decode cX0_formulaOf 138 = .ok (.invokevirtual 77, 3) := by decide +kernel
theorem dX0_formulaOf_141 : decode cX0_formulaOf 141 = .ok (.goto 4, 3) := by decide +kernel
theorem dX0_formulaOf_144 : decode cX0_formulaOf 144 = .ok (.iconst (-1), 1) := by decide +kernel
theorem dX0_formulaOf_145 : decode cX0_formulaOf 145 = .ok (.ireturn, 1) := by decide +kernel
theorem dX0_formulaOf_146 : decode cX0_formulaOf 146 = .ok (.aload_n 0, 1) := by decide +kernel
theorem dX0_formulaOf_147 : decode cX0_formulaOf 147 = .ok (.iload 4, 2) := by decide +kernel
theorem dX0_formulaOf_149 : decode cX0_formulaOf 149 = .ok (.iload_n 2, 1) := by decide +kernel
theorem dX0_formulaOf_150 : decode cX0_formulaOf 150 = .ok (.iload_n 3, 1) := by decide +kernel
theorem dX0_formulaOf_151 : decode cX0_formulaOf 151 = .ok (.iconst 1, 1) := by decide +kernel
theorem dX0_formulaOf_152 : decode cX0_formulaOf 152 = .ok (.iadd, 1) := by decide +kernel
theorem dX0_formulaOf_153 : decode cX0_formulaOf 153 = .ok (.invokevirtual 72, 3) := by decide +kernel
theorem dX0_formulaOf_156 : decode cX0_formulaOf 156 = .ok (.istore 6, 2) := by decide +kernel
theorem dX0_formulaOf_158 : decode cX0_formulaOf 158 = .ok (.aload_n 0, 1) := by decide +kernel
theorem dX0_formulaOf_159 : decode cX0_formulaOf 159 = .ok (.iconst 3, 1) := by decide +kernel
theorem dX0_formulaOf_160 : decode cX0_formulaOf 160 = .ok (.iload 6, 2) := by decide +kernel
theorem dX0_formulaOf_162 : decode cX0_formulaOf 162 = .ok (.aload_n 0, 1) := by decide +kernel
theorem dX0_formulaOf_163 : decode cX0_formulaOf 163 = .ok (.aload_n 0, 1) := by decide +kernel
theorem dX0_formulaOf_164 : decode cX0_formulaOf 164 = .ok (.getfield 27, 3) := by decide +kernel
theorem dX0_formulaOf_167 : decode cX0_formulaOf 167 = .ok (.iload_n 1, 1) := by decide +kernel
theorem dX0_formulaOf_168 : decode cX0_formulaOf 168 = .ok (.iconst 1, 1) := by decide +kernel
theorem dX0_formulaOf_169 : decode cX0_formulaOf 169 = .ok (.invokevirtual 55, 3) := by decide +kernel
theorem dX0_formulaOf_172 : decode cX0_formulaOf 172 = .ok (.iload_n 2, 1) := by decide +kernel
theorem dX0_formulaOf_173 : decode cX0_formulaOf 173 = .ok (.iload_n 3, 1) := by decide +kernel
theorem dX0_formulaOf_174 : decode cX0_formulaOf 174 = .ok (.iconst 1, 1) := by decide +kernel
theorem dX0_formulaOf_175 : decode cX0_formulaOf 175 = .ok (.iadd, 1) := by decide +kernel
theorem dX0_formulaOf_176 : decode cX0_formulaOf 176 = .ok (.invokevirtual 72, 3) := by decide +kernel
theorem dX0_formulaOf_179 : decode cX0_formulaOf 179 = .ok (.invokevirtual 77, 3) := by decide +kernel
theorem dX0_formulaOf_182 : decode cX0_formulaOf 182 = .ok (.ireturn, 1) := by decide +kernel
theorem dX0_formulaOf_183 : decode cX0_formulaOf 183 = .ok (.aload_n 0, 1) := by decide +kernel
theorem dX0_formulaOf_184 : decode cX0_formulaOf 184 = .ok (.iload 4, 2) := by decide +kernel
theorem dX0_formulaOf_186 : decode cX0_formulaOf 186 = .ok (.iload_n 2, 1) := by decide +kernel
theorem dX0_formulaOf_187 : decode cX0_formulaOf 187 = .ok (.iload_n 3, 1) := by decide +kernel
theorem dX0_formulaOf_188 : decode cX0_formulaOf 188 = .ok (.iconst 1, 1) := by decide +kernel
theorem dX0_formulaOf_189 : decode cX0_formulaOf 189 = .ok (.iadd, 1) := by decide +kernel
theorem dX0_formulaOf_190 : decode cX0_formulaOf 190 = .ok (.invokevirtual 72, 3) := by decide +kernel
theorem dX0_formulaOf_193 : decode cX0_formulaOf 193 = .ok (.istore 7, 2) := by decide +kernel
theorem dX0_formulaOf_195 : decode cX0_formulaOf 195 = .ok (.aload_n 0, 1) := by decide +kernel
theorem dX0_formulaOf_196 : decode cX0_formulaOf 196 = .ok (.iload 7, 2) := by decide +kernel
theorem dX0_formulaOf_198 : decode cX0_formulaOf 198 = .ok (.invokevirtual 62, 3) := by decide +kernel
theorem dX0_formulaOf_201 : decode cX0_formulaOf 201 = .ok (.iconst 5, 1) := by decide +kernel
theorem dX0_formulaOf_202 : decode cX0_formulaOf 202 = .ok (.if_icmp .ne 38, 3) := by decide +kernel
theorem dX0_formulaOf_205 : decode cX0_formulaOf 205 = .ok (.aload_n 0, 1) := by decide +kernel
theorem dX0_formulaOf_206 : decode cX0_formulaOf 206 = .ok (.aload_n 0, 1) := by decide +kernel
theorem dX0_formulaOf_207 : decode cX0_formulaOf 207 = .ok (.getfield 27, 3) := by decide +kernel
theorem dX0_formulaOf_210 : decode cX0_formulaOf 210 = .ok (.iload_n 1, 1) := by decide +kernel
theorem dX0_formulaOf_211 : decode cX0_formulaOf 211 = .ok (.iconst 1, 1) := by decide +kernel
theorem dX0_formulaOf_212 : decode cX0_formulaOf 212 = .ok (.invokevirtual 55, 3) := by decide +kernel
theorem dX0_formulaOf_215 : decode cX0_formulaOf 215 = .ok (.aload_n 0, 1) := by decide +kernel
theorem dX0_formulaOf_216 : decode cX0_formulaOf 216 = .ok (.iload 7, 2) := by decide +kernel
theorem dX0_formulaOf_218 : decode cX0_formulaOf 218 = .ok (.invokevirtual 63, 3) := by decide +kernel
theorem dX0_formulaOf_221 : decode cX0_formulaOf 221 = .ok (.iload_n 2, 1) := by decide +kernel
theorem dX0_formulaOf_222 : decode cX0_formulaOf 222 = .ok (.iload_n 3, 1) := by decide +kernel
theorem dX0_formulaOf_223 : decode cX0_formulaOf 223 = .ok (.iconst 1, 1) := by decide +kernel
theorem dX0_formulaOf_224 : decode cX0_formulaOf 224 = .ok (.iadd, 1) := by decide +kernel
theorem dX0_formulaOf_225 : decode cX0_formulaOf 225 = .ok (.invokevirtual 34, 3) := by decide +kernel
theorem dX0_formulaOf_228 : decode cX0_formulaOf 228 = .ok (.ifCond .eq 12, 3) := by decide +kernel
theorem dX0_formulaOf_231 : decode cX0_formulaOf 231 = .ok (.aload_n 0, 1) := by decide +kernel
theorem dX0_formulaOf_232 : decode cX0_formulaOf 232 = .ok (.iload 7, 2) := by decide +kernel
theorem dX0_formulaOf_234 : decode cX0_formulaOf 234 = .ok (.invokevirtual 71, 3) := by decide +kernel
theorem dX0_formulaOf_237 : decode cX0_formulaOf 237 = .ok (.goto 4, 3) := by decide +kernel
theorem dX0_formulaOf_240 : decode cX0_formulaOf 240 = .ok (.iconst (-1), 1) := by decide +kernel
theorem dX0_formulaOf_241 : decode cX0_formulaOf 241 = .ok (.ireturn, 1) := by decide +kernel
theorem dX0_formulaOf_242 : decode cX0_formulaOf 242 = .ok (.aload_n 0, 1) := by decide +kernel
theorem dX0_formulaOf_243 : decode cX0_formulaOf 243 = .ok (.iload 4, 2) := by decide +kernel
theorem dX0_formulaOf_245 : decode cX0_formulaOf 245 = .ok (.iload_n 2, 1) := by decide +kernel
theorem dX0_formulaOf_246 : decode cX0_formulaOf 246 = .ok (.iload_n 3, 1) := by decide +kernel
theorem dX0_formulaOf_247 : decode cX0_formulaOf 247 = .ok (.iconst 1, 1) := by decide +kernel
theorem dX0_formulaOf_248 : decode cX0_formulaOf 248 = .ok (.iadd, 1) := by decide +kernel
theorem dX0_formulaOf_249 : decode cX0_formulaOf 249 = .ok (.invokevirtual 72, 3) := by decide +kernel
theorem dX0_formulaOf_252 : decode cX0_formulaOf 252 = .ok (.istore 8, 2) := by decide +kernel
theorem dX0_formulaOf_254 : decode cX0_formulaOf 254 = .ok (.aload_n 0, 1) := by decide +kernel
theorem dX0_formulaOf_255 : decode cX0_formulaOf 255 = .ok (.iload 8, 2) := by decide +kernel
theorem dX0_formulaOf_257 : decode cX0_formulaOf 257 = .ok (.invokevirtual 62, 3) := by decide +kernel
theorem dX0_formulaOf_260 : decode cX0_formulaOf 260 = .ok (.iconst 3, 1) := by decide +kernel
theorem dX0_formulaOf_261 : decode cX0_formulaOf 261 = .ok (.if_icmp .ne 12, 3) := by decide +kernel
theorem dX0_formulaOf_264 : decode cX0_formulaOf 264 = .ok (.aload_n 0, 1) := by decide +kernel
theorem dX0_formulaOf_265 : decode cX0_formulaOf 265 = .ok (.iload 8, 2) := by decide +kernel
theorem dX0_formulaOf_267 : decode cX0_formulaOf 267 = .ok (.invokevirtual 63, 3) := by decide +kernel
theorem dX0_formulaOf_270 : decode cX0_formulaOf 270 = .ok (.goto 4, 3) := by decide +kernel
theorem dX0_formulaOf_273 : decode cX0_formulaOf 273 = .ok (.iconst (-1), 1) := by decide +kernel
theorem dX0_formulaOf_274 : decode cX0_formulaOf 274 = .ok (.ireturn, 1) := by decide +kernel
theorem dX0_formulaOf_275 : decode cX0_formulaOf 275 = .ok (.aload_n 0, 1) := by decide +kernel
theorem dX0_formulaOf_276 : decode cX0_formulaOf 276 = .ok (.iload 4, 2) := by decide +kernel
theorem dX0_formulaOf_278 : decode cX0_formulaOf 278 = .ok (.iload_n 2, 1) := by decide +kernel
theorem dX0_formulaOf_279 : decode cX0_formulaOf 279 = .ok (.iload_n 3, 1) := by decide +kernel
theorem dX0_formulaOf_280 : decode cX0_formulaOf 280 = .ok (.iconst 1, 1) := by decide +kernel
theorem dX0_formulaOf_281 : decode cX0_formulaOf 281 = .ok (.iadd, 1) := by decide +kernel
theorem dX0_formulaOf_282 : decode cX0_formulaOf 282 = .ok (.invokevirtual 72, 3) := by decide +kernel
theorem dX0_formulaOf_285 : decode cX0_formulaOf 285 = .ok (.istore 9, 2) := by decide +kernel
theorem dX0_formulaOf_287 : decode cX0_formulaOf 287 = .ok (.aload_n 0, 1) := by decide +kernel
theorem dX0_formulaOf_288 : decode cX0_formulaOf 288 = .ok (.iload 9, 2) := by decide +kernel
theorem dX0_formulaOf_290 : decode cX0_formulaOf 290 = .ok (.invokevirtual 62, 3) := by decide +kernel
theorem dX0_formulaOf_293 : decode cX0_formulaOf 293 = .ok (.iconst 3, 1) := by decide +kernel
theorem dX0_formulaOf_294 : decode cX0_formulaOf 294 = .ok (.if_icmp .ne 12, 3) := by decide +kernel
theorem dX0_formulaOf_297 : decode cX0_formulaOf 297 = .ok (.aload_n 0, 1) := by decide +kernel
theorem dX0_formulaOf_298 : decode cX0_formulaOf 298 = .ok (.iload 9, 2) := by decide +kernel
theorem dX0_formulaOf_300 : decode cX0_formulaOf 300 = .ok (.invokevirtual 71, 3) := by decide +kernel
theorem dX0_formulaOf_303 : decode cX0_formulaOf 303 = .ok (.goto 4, 3) := by decide +kernel
theorem dX0_formulaOf_306 : decode cX0_formulaOf 306 = .ok (.iconst (-1), 1) := by decide +kernel
theorem dX0_formulaOf_307 : decode cX0_formulaOf 307 = .ok (.ireturn, 1) := by decide +kernel
theorem dX0_formulaOf_308 : decode cX0_formulaOf 308 = .ok (.iconst (-1), 1) := by decide +kernel
theorem dX0_formulaOf_309 : decode cX0_formulaOf 309 = .ok (.ireturn, 1) := by decide +kernel
