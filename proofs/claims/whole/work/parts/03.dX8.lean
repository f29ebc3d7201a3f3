theorem dX8_init_0 : decode cX8_init 0 = .ok (.aload_n 0, 1) := by decide +kernel
theorem dX8_init_1 : decode cX8_init 1 = .ok (.invokespecial 3, 3) := by decide +kernel
theorem dX8_init_4 : decode cX8_init 4 = .ok (.aload_n 0, 1) := by decide +kernel
theorem dX8_init_5 : decode cX8_init 5 = .ok (.sipush 3000, 3) := by decide +kernel
theorem dX8_init_8 : decode cX8_init 8 = .ok (.newarray .byte, 2) := by decide +kernel
theorem dX8_init_10 : decode cX8_init 10 = .ok (.putfield 9, 3) := by decide +kernel
theorem dX8_init_13 : decode cX8_init 13 = .ok (.return_, 1) := by decide +kernel
theorem dX8_byteAt_0 : decode cX8_byteAt 0 = .ok (.iload_n 1, 1) := by decide +kernel
theorem dX8_byteAt_1 : decode cX8_byteAt 1 = .ok (.ifCond .lt 31, 3) := by decide +kernel
theorem dX8_byteAt_4 : decode cX8_byteAt 4 = .ok (.iload_n 1, 1) := by decide +kernel
theorem dX8_byteAt_5 : decode cX8_byteAt 5 = .ok (.aload_n 0, 1) := by decide +kernel
theorem dX8_byteAt_6 : decode cX8_byteAt 6 = .ok (.getfield 15, 3) := by decide +kernel
theorem dX8_byteAt_9 : decode cX8_byteAt 9 = .ok (.if_icmp .ge 23, 3) := by decide +kernel
theorem dX8_byteAt_12 : decode cX8_byteAt 12 = .ok (.iload_n 1, 1) := by decide +kernel
theorem dX8_byteAt_13 : decode cX8_byteAt 13 = .ok (.sipush 3000, 3) := by decide +kernel
theorem dX8_byteAt_16 : decode cX8_byteAt 16 = .ok (.if_icmp .ge 16, 3) := by decide +kernel
theorem dX8_byteAt_19 : decode cX8_byteAt 19 = .ok (.aload_n 0, 1) := by decide +kernel
theorem dX8_byteAt_20 : decode cX8_byteAt 20 = .ok (.getfield 9, 3) := by decide +kernel
theorem dX8_byteAt_23 : decode cX8_byteAt 23 = .ok (.iload_n 1, 1) := by decide +kernel
theorem dX8_byteAt_24 : decode cX8_byteAt 24 = .ok (.baload, 1) := by decide +kernel
theorem dX8_byteAt_25 : decode cX8_byteAt 25 = .ok (.sipush 255, 3) := by decide +kernel
theorem dX8_byteAt_28 : decode cX8_byteAt 28 = .ok (.iand, 1) := by decide +kernel
theorem dX8_byteAt_29 : decode cX8_byteAt 29 = .ok (.goto 4, 3) := by decide +kernel
theorem dX8_byteAt_32 : decode cX8_byteAt 32 = .ok (.iconst (-1), 1) := by decide +kernel
theorem dX8_byteAt_33 : decode cX8_byteAt 33 = .ok (.ireturn, 1) := by decide +kernel
theorem dX8_drop_0 : decode cX8_drop 0 = .ok (.aload_n 0, 1) := by decide +kernel
theorem dX8_drop_1 : decode cX8_drop 1 = .ok (.iconst 0, 1) := by decide +kernel
theorem dX8_drop_2 : decode cX8_drop 2 = .ok (.putfield 15, 3) := by decide +kernel
theorem dX8_drop_5 : decode cX8_drop 5 = .ok (.return_, 1) := by decide +kernel
theorem dX8_append_0 : decode cX8_append 0 = .ok (.iload_n 3, 1) := by decide +kernel
theorem dX8_append_1 : decode cX8_append 1 = .ok (.ifCond .lt 15, 3) := by decide +kernel
theorem dX8_append_4 : decode cX8_append 4 = .ok (.iload_n 3, 1) := by decide +kernel
theorem dX8_append_5 : decode cX8_append 5 = .ok (.sipush 3000, 3) := by decide +kernel
theorem dX8_append_8 : decode cX8_append 8 = .ok (.aload_n 0, 1) := by decide +kernel
theorem dX8_append_9 : decode cX8_append 9 = .ok (.getfield 15, 3) := by decide +kernel
theorem dX8_append_12 : decode cX8_append 12 = .ok (.isub, 1) := by decide +kernel
theorem dX8_append_13 : decode cX8_append 13 = .ok (.if_icmp .le 6, 3) := by decide +kernel
theorem dX8_append_16 : decode cX8_append 16 = .ok (.bipush (-4), 2) := by decide +kernel
theorem dX8_append_18 : decode cX8_append 18 = .ok (.ireturn, 1) := by decide +kernel
theorem dX8_append_19 : decode cX8_append 19 = .ok (.iload_n 3, 1) := by decide +kernel
theorem dX8_append_20 : decode cX8_append 20 = .ok (.iconst 1, 1) := by decide +kernel
theorem dX8_append_21 : decode cX8_append 21 = .ok (.isub, 1) := by decide +kernel
theorem dX8_append_22 : decode cX8_append 22 = .ok (.istore 4, 2) := by decide +kernel
theorem dX8_append_24 : decode cX8_append 24 = .ok (.iload 4, 2) := by decide +kernel
theorem dX8_append_26 : decode cX8_append 26 = .ok (.ifCond .lt 54, 3) := by decide +kernel
theorem dX8_append_29 : decode cX8_append 29 = .ok (.aload_n 0, 1) := by decide +kernel
theorem dX8_append_30 : decode cX8_append 30 = .ok (.getfield 15, 3) := by decide +kernel
theorem dX8_append_33 : decode cX8_append 33 = .ok (.ifCond .lt 41, 3) := by decide +kernel
theorem dX8_append_36 : decode cX8_append 36 = .ok (.aload_n 0, 1) := by decide +kernel
theorem dX8_append_37 : decode cX8_append 37 = .ok (.getfield 15, 3) := by decide +kernel
theorem dX8_append_40 : decode cX8_append 40 = .ok (.sipush 3000, 3) := by decide +kernel
theorem dX8_append_43 : decode cX8_append 43 = .ok (.if_icmp .ge 31, 3) := by decide +kernel
theorem dX8_append_46 : decode cX8_append 46 = .ok (.aload_n 0, 1) := by decide +kernel
theorem dX8_append_47 : decode cX8_append 47 = .ok (.getfield 9, 3) := by decide +kernel
theorem dX8_append_50 : decode cX8_append 50 = .ok (.aload_n 0, 1) := by decide +kernel
theorem dX8_append_51 : decode cX8_append 51 = .ok (.getfield 15, 3) := by decide +kernel
theorem dX8_append_54 : decode cX8_append 54 = .ok (.lload_n 1, 1) := by decide +kernel
theorem dX8_append_55 : decode cX8_append 55 = .ok (.bipush 8, 2) := by decide +kernel
theorem dX8_append_57 : decode cX8_append 57 = .ok (.iload 4, 2) := by decide +kernel
theorem dX8_append_59 : decode cX8_append 59 = .ok (.imul, 1) := by decide +kernel
theorem dX8_append_60 : decode cX8_append 60 = .ok (.lushr, 1) := by decide +kernel
theorem dX8_append_61 : decode cX8_append 61 = .ok (.l2i, 1) := by decide +kernel
theorem dX8_append_62 : decode cX8_append 62 = .ok (.i2b, 1) := by decide +kernel
theorem dX8_append_63 : decode cX8_append 63 = .ok (.bastore, 1) := by decide +kernel
theorem dX8_append_64 : decode cX8_append 64 = .ok (.aload_n 0, 1) := by decide +kernel
theorem dX8_append_65 : decode cX8_append 65 = .ok (.dup, 1) := by decide +kernel
theorem dX8_append_66 : decode cX8_append 66 = .ok (.getfield 15, 3) := by decide +kernel
theorem dX8_append_69 : decode cX8_append 69 = .ok (.iconst 1, 1) := by decide +kernel
theorem dX8_append_70 : decode cX8_append 70 = .ok (.iadd, 1) := by decide +kernel
theorem dX8_append_71 : decode cX8_append 71 = .ok (.putfield 15, 3) := by decide +kernel
theorem dX8_append_74 : decode cX8_append 74 = .ok (.iinc 4 (-1), 3) := by decide +kernel
theorem dX8_append_77 : decode cX8_append 77 = .ok (.goto (-53), 3) := by decide +kernel
theorem dX8_append_80 : decode cX8_append 80 = .ok (.aload_n 0, 1) := by decide +kernel
theorem dX8_append_81 : decode cX8_append 81 = .ok (.getfield 15, 3) := by decide +kernel
theorem dX8_append_84 : decode cX8_append 84 = .ok (.ireturn, 1) := by decide +kernel
theorem dX8_begin_0 : decode cX8_begin 0 = .ok (.aload_n 0, 1) := by decide +kernel
theorem dX8_begin_1 : decode cX8_begin 1 = .ok (.iload_n 1, 1) := by decide +kernel
theorem dX8_begin_2 : decode cX8_begin 2 = .ok (.putfield 19, 3) := by decide +kernel
theorem dX8_begin_5 : decode cX8_begin 5 = .ok (.aload_n 0, 1) := by decide +kernel
theorem dX8_begin_6 : decode cX8_begin 6 = .ok (.iconst 0, 1) := by decide +kernel
theorem dX8_begin_7 : decode cX8_begin 7 = .ok (.putfield 23, 3) := by decide +kernel
theorem dX8_begin_10 : decode cX8_begin 10 = .ok (.aload_n 0, 1) := by decide +kernel
theorem dX8_begin_11 : decode cX8_begin 11 = .ok (.iconst 0, 1) := by decide +kernel
theorem dX8_begin_12 : decode cX8_begin 12 = .ok (.putfield 26, 3) := by decide +kernel
theorem dX8_begin_15 : decode cX8_begin 15 = .ok (.return_, 1) := by decide +kernel
theorem dX8_look_0 : decode cX8_look 0 = .ok (.aload_n 0, 1) := by decide +kernel
theorem dX8_look_1 : decode cX8_look 1 = .ok (.getfield 23, 3) := by decide +kernel
theorem dX8_look_4 : decode cX8_look 4 = .ok (.ifCond .ne 12, 3) := by decide +kernel
theorem dX8_look_7 : decode cX8_look 7 = .ok (.aload_n 0, 1) := by decide +kernel
theorem dX8_look_8 : decode cX8_look 8 = .ok (.invokevirtual 29, 3) := by decide +kernel
theorem dX8_look_11 : decode cX8_look 11 = .ok (.aload_n 0, 1) := by decide +kernel
theorem dX8_look_12 : decode cX8_look 12 = .ok (.iconst 1, 1) := by decide +kernel
theorem dX8_look_13 : decode cX8_look 13 = .ok (.putfield 23, 3) := by decide +kernel
theorem dX8_look_16 : decode cX8_look 16 = .ok (.aload_n 0, 1) := by decide +kernel
theorem dX8_look_17 : decode cX8_look 17 = .ok (.getfield 32, 3) := by decide +kernel
theorem dX8_look_20 : decode cX8_look 20 = .ok (.ireturn, 1) := by decide +kernel
theorem dX8_take_0 : decode cX8_take 0 = .ok (.aload_n 0, 1) := by decide +kernel
theorem dX8_take_1 : decode cX8_take 1 = .ok (.iconst 0, 1) := by decide +kernel
theorem dX8_take_2 : decode cX8_take 2 = .ok (.putfield 23, 3) := by decide +kernel
theorem dX8_take_5 : decode cX8_take 5 = .ok (.return_, 1) := by decide +kernel
theorem dX8_start_0 : decode cX8_start 0 = .ok (.aload_n 0, 1) := by decide +kernel
theorem dX8_start_1 : decode cX8_start 1 = .ok (.getfield 35, 3) := by decide +kernel
theorem dX8_start_4 : decode cX8_start 4 = .ok (.ireturn, 1) := by decide +kernel
theorem dX8_name_0 : decode cX8_name 0 = .ok (.aload_n 0, 1) := by decide +kernel
theorem dX8_name_1 : decode cX8_name 1 = .ok (.getfield 38, 3) := by decide +kernel
theorem dX8_name_4 : decode cX8_name 4 = .ok (.lreturn, 1) := by decide +kernel
theorem dX8_hypothesis_0 : decode cX8_hypothesis 0 = .ok (.aload_n 0, 1) := by decide +kernel
theorem dX8_hypothesis_1 : decode cX8_hypothesis 1 = .ok (.getfield 26, 3) := by decide +kernel
theorem dX8_hypothesis_4 : decode cX8_hypothesis 4 = .ok (.aload_n 0, 1) := by decide +kernel
theorem dX8_hypothesis_5 : decode cX8_hypothesis 5 = .ok (.getfield 35, 3) := by decide +kernel
theorem dX8_hypothesis_8 : decode cX8_hypothesis 8 = .ok (.isub, 1) := by decide +kernel
theorem dX8_hypothesis_9 : decode cX8_hypothesis 9 = .ok (.iconst 1, 1) := by decide +kernel
theorem dX8_hypothesis_10 : decode cX8_hypothesis 10 = .ok (.isub, 1) := by decide +kernel
theorem dX8_hypothesis_11 : decode cX8_hypothesis 11 = .ok (.istore_n 1, 1) := by decide +kernel
theorem dX8_hypothesis_12 : decode cX8_hypothesis 12 = .ok (.aload_n 0, 1) := by decide +kernel
theorem dX8_hypothesis_13 : decode cX8_hypothesis 13 = .ok (.aload_n 0, 1) := by decide +kernel
theorem dX8_hypothesis_14 : decode cX8_hypothesis 14 = .ok (.getfield 35, 3) := by decide +kernel
theorem dX8_hypothesis_17 : decode cX8_hypothesis 17 = .ok (.iconst 1, 1) := by decide +kernel
theorem dX8_hypothesis_18 : decode cX8_hypothesis 18 = .ok (.iadd, 1) := by decide +kernel
theorem dX8_hypothesis_19 : decode cX8_hypothesis 19 = .ok (.invokevirtual 42, 3) := by decide +kernel
theorem dX8_hypothesis_22 : decode cX8_hypothesis 22 = .ok (.istore_n 2, 1) := by decide +kernel
theorem dX8_hypothesis_23 : decode cX8_hypothesis 23 = .ok (.aload_n 0, 1) := by decide +kernel
theorem dX8_hypothesis_24 : decode cX8_hypothesis 24 = .ok (.aload_n 0, 1) := by decide +kernel
theorem dX8_hypothesis_25 : decode cX8_hypothesis 25 = .ok (.getfield 35, 3) := by decide +kernel
theorem dX8_hypothesis_28 : decode cX8_hypothesis 28 = .ok (.invokevirtual 42, 3) := by decide +kernel
theorem dX8_hypothesis_31 : decode cX8_hypothesis 31 = .ok (.bipush 104, 2) := by decide +kernel
theorem dX8_hypothesis_33 : decode cX8_hypothesis 33 = .ok (.if_icmp .ne 19, 3) := by decide +kernel
theorem dX8_hypothesis_36 : decode cX8_hypothesis 36 = .ok (.iload_n 1, 1) := by decide +kernel
theorem dX8_hypothesis_37 : decode cX8_hypothesis 37 = .ok (.iconst 1, 1) := by decide +kernel
theorem dX8_hypothesis_38 : decode cX8_hypothesis 38 = .ok (.if_icmp .lt 14, 3) := by decide +kernel
theorem dX8_hypothesis_41 : decode cX8_hypothesis 41 = .ok (.iload_n 2, 1) := by decide +kernel
theorem dX8_hypothesis_42 : decode cX8_hypothesis 42 = .ok (.bipush 48, 2) := by decide +kernel
theorem dX8_hypothesis_44 : decode cX8_hypothesis 44 = .ok (.if_icmp .ne 10, 3) := by decide +kernel
theorem dX8_hypothesis_47 : decode cX8_hypothesis 47 = .ok (.iload_n 1, 1) := by decide +kernel
theorem dX8_hypothesis_48 : decode cX8_hypothesis 48 = .ok (.iconst 1, 1) := by decide +kernel
theorem dX8_hypothesis_49 : decode cX8_hypothesis 49 = .ok (.if_icmp .le 5, 3) := by decide +kernel
theorem dX8_hypothesis_52 : decode cX8_hypothesis 52 = .ok (.iconst (-1), 1) := by decide +kernel
theorem dX8_hypothesis_53 : decode cX8_hypothesis 53 = .ok (.ireturn, 1) := by decide +kernel
theorem dX8_hypothesis_54 : decode cX8_hypothesis 54 = .ok (.iconst 0, 1) := by decide +kernel
theorem dX8_hypothesis_55 : decode cX8_hypothesis 55 = .ok (.istore_n 3, 1) := by decide +kernel
theorem dX8_hypothesis_56 : decode cX8_hypothesis 56 = .ok (.aload_n 0, 1) := by decide +kernel
theorem dX8_hypothesis_57 : decode cX8_hypothesis 57 = .ok (.getfield 35, 3) := by decide +kernel
theorem dX8_hypothesis_60 : decode cX8_hypothesis 60 = .ok (.iconst 1, 1) := by decide +kernel
theorem dX8_hypothesis_61 : decode cX8_hypothesis 61 = .ok (.iadd, 1) := by decide +kernel
theorem dX8_hypothesis_62 : decode cX8_hypothesis 62 = .ok (.istore 4, 2) := by decide +kernel
theorem dX8_hypothesis_64 : decode cX8_hypothesis 64 = .ok (.iload 4, 2) := by decide +kernel
theorem dX8_hypothesis_66 : decode cX8_hypothesis 66 = .ok (.aload_n 0, 1) := by decide +kernel
theorem dX8_hypothesis_67 : decode cX8_hypothesis 67 = .ok (.getfield 26, 3) := by decide +kernel
theorem dX8_hypothesis_70 : decode cX8_hypothesis 70 = .ok (.if_icmp .ge 38, 3) := by decide +kernel
theorem dX8_hypothesis_73 : decode cX8_hypothesis 73 = .ok (.aload_n 0, 1) := by decide +kernel
theorem dX8_hypothesis_74 : decode cX8_hypothesis 74 = .ok (.iload 4, 2) := by decide +kernel
theorem dX8_hypothesis_76 : decode cX8_hypothesis 76 = .ok (.invokevirtual 42, 3) := by decide +kernel
theorem dX8_hypothesis_79 : decode cX8_hypothesis 79 = .ok (.istore 5, 2) := by decide +kernel
theorem dX8_hypothesis_81 : decode cX8_hypothesis 81 = .ok (.iload 5, 2) := by decide +kernel
theorem dX8_hypothesis_83 : decode cX8_hypothesis 83 = .ok (.invokestatic 46, 3) := by decide +kernel
theorem dX8_hypothesis_86 : decode cX8_hypothesis 86 = .ok (.ifCond .ne 5, 3) := by decide +kernel
theorem dX8_hypothesis_89 : decode cX8_hypothesis 89 = .ok (.iconst (-1), 1) := by decide +kernel
theorem dX8_hypothesis_90 : decode cX8_hypothesis 90 = .ok (.ireturn, 1) := by decide +kernel
theorem dX8_hypothesis_91 : decode cX8_hypothesis 91 = .ok (.iload_n 3, 1) := by decide +kernel
theorem dX8_hypothesis_92 : decode cX8_hypothesis 92 = .ok (.bipush 10, 2) := by decide +kernel
theorem dX8_hypothesis_94 : decode cX8_hypothesis 94 = .ok (.imul, 1) := by decide +kernel
theorem dX8_hypothesis_95 : decode cX8_hypothesis 95 = .ok (.iload 5, 2) := by decide +kernel
theorem dX8_hypothesis_97 : decode cX8_hypothesis 97 = .ok (.iadd, 1) := by decide +kernel
theorem dX8_hypothesis_98 : decode cX8_hypothesis 98 = .ok (.bipush 48, 2) := by decide +kernel
theorem dX8_hypothesis_100 : decode cX8_hypothesis 100 = .ok (.isub, 1) := by decide +kernel
theorem dX8_hypothesis_101 : decode cX8_hypothesis 101 = .ok (.istore_n 3, 1) := by decide +kernel
theorem dX8_hypothesis_102 : decode cX8_hypothesis 102 = .ok (.iinc 4 1, 3) := by decide +kernel
theorem dX8_hypothesis_105 : decode cX8_hypothesis 105 = .ok (.goto (-41), 3) := by decide +kernel
theorem dX8_hypothesis_108 : decode cX8_hypothesis 108 = .ok (.iload_n 3, 1) := by decide +kernel
theorem dX8_hypothesis_109 : decode cX8_hypothesis 109 = .ok (.ireturn, 1) := by decide +kernel
theorem dX8_scan_0 : decode cX8_scan 0 = .ok (.aload_n 0, 1) := by decide +kernel
theorem dX8_scan_1 : decode cX8_scan 1 = .ok (.aload_n 0, 1) := by decide +kernel
theorem dX8_scan_2 : decode cX8_scan 2 = .ok (.getfield 26, 3) := by decide +kernel
theorem dX8_scan_5 : decode cX8_scan 5 = .ok (.putfield 35, 3) := by decide +kernel
theorem dX8_scan_8 : decode cX8_scan 8 = .ok (.aload_n 0, 1) := by decide +kernel
theorem dX8_scan_9 : decode cX8_scan 9 = .ok (.getfield 26, 3) := by decide +kernel
theorem dX8_scan_12 : decode cX8_scan 12 = .ok (.istore_n 1, 1) := by decide +kernel
theorem dX8_scan_13 : decode cX8_scan 13 = .ok (.iload_n 1, 1) := by decide +kernel
theorem dX8_scan_14 : decode cX8_scan 14 = .ok (.aload_n 0, 1) := by decide +kernel
theorem dX8_scan_15 : decode cX8_scan 15 = .ok (.getfield 15, 3) := by decide +kernel
theorem dX8_scan_18 : decode cX8_scan 18 = .ok (.if_icmp .ge 27, 3) := by decide +kernel
theorem dX8_scan_21 : decode cX8_scan 21 = .ok (.aload_n 0, 1) := by decide +kernel
theorem dX8_scan_22 : decode cX8_scan 22 = .ok (.iload_n 1, 1) := by decide +kernel
theorem dX8_scan_23 : decode cX8_scan 23 = .ok (.invokevirtual 42, 3) := by decide +kernel
theorem dX8_scan_26 : decode cX8_scan 26 = .ok (.invokestatic 50, 3) := by decide +kernel
theorem dX8_scan_29 : decode cX8_scan 29 = .ok (.ifCond .eq 16, 3) := by decide +kernel
theorem dX8_scan_32 : decode cX8_scan 32 = .ok (.aload_n 0, 1) := by decide +kernel
theorem dX8_scan_33 : decode cX8_scan 33 = .ok (.iload_n 1, 1) := by decide +kernel
theorem dX8_scan_34 : decode cX8_scan 34 = .ok (.iconst 1, 1) := by decide +kernel
theorem dX8_scan_35 : decode cX8_scan 35 = .ok (.iadd, 1) := by decide +kernel
theorem dX8_scan_36 : decode cX8_scan 36 = .ok (.putfield 35, 3) := by decide +kernel
theorem dX8_scan_39 : decode cX8_scan 39 = .ok (.iinc 1 1, 3) := by decide +kernel
theorem dX8_scan_42 : decode cX8_scan 42 = .ok (.goto (-29), 3) := by decide +kernel
theorem dX8_scan_45 : decode cX8_scan 45 = .ok (.aload_n 0, 1) := by decide +kernel
theorem dX8_scan_46 : decode cX8_scan 46 = .ok (.aload_n 0, 1) := by decide +kernel
theorem dX8_scan_47 : decode cX8_scan 47 = .ok (.getfield 35, 3) := by decide +kernel
theorem dX8_scan_50 : decode cX8_scan 50 = .ok (.invokevirtual 42, 3) := by decide +kernel
theorem dX8_scan_53 : decode cX8_scan 53 = .ok (.istore_n 1, 1) := by decide +kernel
theorem dX8_scan_54 : decode cX8_scan 54 = .ok (.iload_n 1, 1) := by decide +kernel
theorem dX8_scan_55 : decode cX8_scan 55 = .ok (.ifCond .ge 12, 3) := by decide +kernel
theorem dX8_scan_58 : decode cX8_scan 58 = .ok (.aload_n 0, 1) := by decide +kernel
theorem dX8_scan_59 : decode cX8_scan 59 = .ok (.iconst 0, 1) := by decide +kernel
theorem dX8_scan_60 : decode cX8_scan 60 = .ok (.iconst 0, 1) := by decide +kernel
theorem dX8_scan_61 : decode cX8_scan 61 = .ok (.invokevirtual 53, 3) := by decide +kernel
theorem dX8_scan_64 : decode cX8_scan 64 = .ok (.goto 136, 3) := by decide +kernel
theorem dX8_scan_67 : decode cX8_scan 67 = .ok (.iload_n 1, 1) := by decide +kernel
theorem dX8_scan_68 : decode cX8_scan 68 = .ok (.invokestatic 57, 3) := by decide +kernel
theorem dX8_scan_71 : decode cX8_scan 71 = .ok (.ifCond .eq 10, 3) := by decide +kernel
theorem dX8_scan_74 : decode cX8_scan 74 = .ok (.aload_n 0, 1) := by decide +kernel
theorem dX8_scan_75 : decode cX8_scan 75 = .ok (.invokevirtual 60, 3) := by decide +kernel
theorem dX8_scan_78 : decode cX8_scan 78 = .ok (.goto 122, 3) := by decide +kernel
theorem dX8_scan_81 : decode cX8_scan 81 = .ok (.iload_n 1, 1) := by decide +kernel
theorem dX8_scan_82 : decode cX8_scan 82 = .ok (.bipush 45, 2) := by decide +kernel
theorem dX8_scan_84 : decode cX8_scan 84 = .ok (.if_icmp .ne 28, 3) := by decide +kernel
theorem dX8_scan_87 : decode cX8_scan 87 = .ok (.aload_n 0, 1) := by decide +kernel
theorem dX8_scan_88 : decode cX8_scan 88 = .ok (.aload_n 0, 1) := by decide +kernel
theorem dX8_scan_89 : decode cX8_scan 89 = .ok (.getfield 35, 3) := by decide +kernel
theorem dX8_scan_92 : decode cX8_scan 92 = .ok (.iconst 1, 1) := by decide +kernel
theorem dX8_scan_93 : decode cX8_scan 93 = .ok (.iadd, 1) := by decide +kernel
theorem dX8_scan_94 : decode cX8_scan 94 = .ok (.invokevirtual 42, 3) := by decide +kernel
theorem dX8_scan_97 : decode cX8_scan 97 = .ok (.bipush 62, 2) := by decide +kernel
theorem dX8_scan_99 : decode cX8_scan 99 = .ok (.if_icmp .ne 13, 3) := by decide +kernel
theorem dX8_scan_102 : decode cX8_scan 102 = .ok (.aload_n 0, 1) := by decide +kernel
theorem dX8_scan_103 : decode cX8_scan 103 = .ok (.bipush 62, 2) := by decide +kernel
theorem dX8_scan_105 : decode cX8_scan 105 = .ok (.iconst 2, 1) := by decide +kernel
theorem dX8_scan_106 : decode cX8_scan 106 = .ok (.invokevirtual 53, 3) := by decide +kernel
theorem dX8_scan_109 : decode cX8_scan 109 = .ok (.goto 91, 3) := by decide +kernel
theorem dX8_scan_112 : decode cX8_scan 112 = .ok (.iload_n 1, 1) := by decide +kernel
theorem dX8_scan_113 : decode cX8_scan 113 = .ok (.bipush 60, 2) := by decide +kernel
theorem dX8_scan_115 : decode cX8_scan 115 = .ok (.if_icmp .ne 43, 3) := by decide +kernel
theorem dX8_scan_118 : decode cX8_scan 118 = .ok (.aload_n 0, 1) := by decide +kernel
theorem dX8_scan_119 : decode cX8_scan 119 = .ok (.aload_n 0, 1) := by decide +kernel
theorem dX8_scan_120 : decode cX8_scan 120 = .ok (.getfield 35, 3) := by decide +kernel
theorem dX8_scan_123 : decode cX8_scan 123 = .ok (.iconst 1, 1) := by decide +kernel
theorem dX8_scan_124 : decode cX8_scan 124 = .ok (.iadd, 1) := by decide +kernel
theorem dX8_scan_125 : decode cX8_scan 125 = .ok (.invokevirtual 42, 3) := by decide +kernel
theorem dX8_scan_128 : decode cX8_scan 128 = .ok (.bipush 45, 2) := by decide +kernel
theorem dX8_scan_130 : decode cX8_scan 130 = .ok (.if_icmp .ne 28, 3) := by decide +kernel
theorem dX8_scan_133 : decode cX8_scan 133 = .ok (.aload_n 0, 1) := by decide +kernel
theorem dX8_scan_134 : decode cX8_scan 134 = .ok (.aload_n 0, 1) := by decide +kernel
theorem dX8_scan_135 : decode cX8_scan 135 = .ok (.getfield 35, 3) := by decide +kernel
theorem dX8_scan_138 : decode cX8_scan 138 = .ok (.iconst 2, 1) := by decide +kernel
theorem dX8_scan_139 : decode cX8_scan 139 = .ok (.iadd, 1) := by decide +kernel
theorem dX8_scan_140 : decode cX8_scan 140 = .ok (.invokevirtual 42, 3) := by decide +kernel
theorem dX8_scan_143 : decode cX8_scan 143 = .ok (.bipush 62, 2) := by decide +kernel
theorem dX8_scan_145 : decode cX8_scan 145 = .ok (.if_icmp .ne 13, 3) := by decide +kernel
theorem dX8_scan_148 : decode cX8_scan 148 = .ok (.aload_n 0, 1) := by decide +kernel
theorem dX8_scan_149 : decode cX8_scan 149 = .ok (.bipush 61, 2) := by decide +kernel
theorem dX8_scan_151 : decode cX8_scan 151 = .ok (.iconst 3, 1) := by decide +kernel
theorem dX8_scan_152 : decode cX8_scan 152 = .ok (.invokevirtual 53, 3) := by decide +kernel
theorem dX8_scan_155 : decode cX8_scan 155 = .ok (.goto 45, 3) := by decide +kernel
theorem dX8_scan_158 : decode cX8_scan 158 = .ok (.ldc 63, 2) := by decide +kernel
theorem dX8_scan_160 : decode cX8_scan 160 = .ok (.iload_n 1, 1) := by decide +kernel
theorem dX8_scan_161 : decode cX8_scan 161 = .ok (.i2c, 1) := by decide +kernel
theorem dX8_scan_162 : decode cX8_scan 162 = .ok (.invokevirtual 65, 3) := by decide +kernel
theorem dX8_scan_165 : decode cX8_scan 165 = .ok (.ifCond .ge 20, 3) := by decide +kernel
theorem dX8_scan_168 : decode cX8_scan 168 = .ok (.aload_n 0, 1) := by decide +kernel
theorem dX8_scan_169 : decode cX8_scan 169 = .ok (.getfield 19, 3) := by decide +kernel
theorem dX8_scan_172 : decode cX8_scan 172 = .ok (.ifCond .eq 22, 3) := by decide +kernel
theorem dX8_scan_175 : decode cX8_scan 175 = .ok (.ldc 70, 2) := by decide +kernel
theorem dX8_scan_177 : decode cX8_scan 177 = .ok (.iload_n 1, 1) := by decide +kernel
theorem dX8_scan_178 : decode cX8_scan 178 = .ok (.i2c, 1) := by decide +kernel
theorem dX8_scan_179 : decode cX8_scan 179 = .ok (.invokevirtual 65, 3) := by decide +kernel
theorem dX8_scan_182 : decode cX8_scan 182 = .ok (.ifCond .lt 12, 3) := by decide +kernel
theorem dX8_scan_185 : decode cX8_scan 185 = .ok (.aload_n 0, 1) := by decide +kernel
theorem dX8_scan_186 : decode cX8_scan 186 = .ok (.iload_n 1, 1) := by decide +kernel
theorem dX8_scan_187 : decode cX8_scan 187 = .ok (.iconst 1, 1) := by decide +kernel
theorem dX8_scan_188 : decode cX8_scan 188 = .ok (.invokevirtual 53, 3) := by decide +kernel
theorem dX8_scan_191 : decode cX8_scan 191 = .ok (.goto 9, 3) := by decide +kernel
theorem dX8_scan_194 : decode cX8_scan 194 = .ok (.aload_n 0, 1) := by decide +kernel
theorem dX8_scan_195 : decode cX8_scan 195 = .ok (.iconst (-1), 1) := by decide +kernel
theorem dX8_scan_196 : decode cX8_scan 196 = .ok (.iconst 0, 1) := by decide +kernel
theorem dX8_scan_197 : decode cX8_scan 197 = .ok (.invokevirtual 53, 3) := by decide +kernel
theorem dX8_scan_200 : decode cX8_scan 200 = .ok (.return_, 1) := by decide +kernel
theorem dX8_scanName_0 : decode cX8_scanName 0 = .ok (.iconst 0, 1) := by decide +kernel
theorem dX8_scanName_1 : decode cX8_scanName 1 = .ok (.istore_n 1, 1) := by decide +kernel
theorem dX8_scanName_2 : decode cX8_scanName 2 = .ok (.lconst 0, 1) := by decide +kernel
theorem dX8_scanName_3 : decode cX8_scanName 3 = .ok (.lstore_n 2, 1) := by decide +kernel
theorem dX8_scanName_4 : decode cX8_scanName 4 = .ok (.aload_n 0, 1) := by decide +kernel
theorem dX8_scanName_5 : decode cX8_scanName 5 = .ok (.getfield 35, 3) := by decide +kernel
theorem dX8_scanName_8 : decode cX8_scanName 8 = .ok (.istore 4, 2) := by decide +kernel
theorem dX8_scanName_10 : decode cX8_scanName 10 = .ok (.iload 4, 2) := by decide +kernel
theorem dX8_scanName_12 : decode cX8_scanName 12 = .ok (.aload_n 0, 1) := by decide +kernel
theorem dX8_scanName_13 : decode cX8_scanName 13 = .ok (.getfield 15, 3) := by decide +kernel
theorem dX8_scanName_16 : decode cX8_scanName 16 = .ok (.if_icmp .ge 37, 3) := by decide +kernel
theorem dX8_scanName_19 : decode cX8_scanName 19 = .ok (.aload_n 0, 1) := by decide +kernel
theorem dX8_scanName_20 : decode cX8_scanName 20 = .ok (.iload 4, 2) := by decide +kernel
theorem dX8_scanName_22 : decode cX8_scanName 22 = .ok (.invokevirtual 42, 3) := by decide +kernel
theorem dX8_scanName_25 : decode cX8_scanName 25 = .ok (.invokestatic 72, 3) := by decide +kernel
theorem dX8_scanName_28 : decode cX8_scanName 28 = .ok (.ifCond .eq 25, 3) := by decide +kernel
theorem dX8_scanName_31 : decode cX8_scanName 31 = .ok (.lload_n 2, 1) := by decide +kernel
theorem dX8_scanName_32 : decode cX8_scanName 32 = .ok (.bipush 8, 2) := by decide +kernel
theorem dX8_scanName_34 : decode cX8_scanName 34 = .ok (.lshl, 1) := by decide +kernel
theorem dX8_scanName_35 : decode cX8_scanName 35 = .ok (.aload_n 0, 1) := by decide +kernel
theorem dX8_scanName_36 : decode cX8_scanName 36 = .ok (.iload 4, 2) := by decide +kernel
theorem dX8_scanName_38 : decode cX8_scanName 38 = .ok (.invokevirtual 42, 3) := by decide +kernel
theorem dX8_scanName_41 : decode cX8_scanName 41 = .ok (.i2l, 1) := by decide +kernel
theorem dX8_scanName_42 : decode cX8_scanName 42 = .ok (.lor, 1) := by decide +kernel
theorem dX8_scanName_43 : decode cX8_scanName 43 = .ok (.lstore_n 2, 1) := by decide +kernel
theorem dX8_scanName_44 : decode cX8_scanName 44 = .ok (.iinc 1 1, 3) := by decide +kernel
theorem dX8_scanName_47 : decode cX8_scanName 47 = .ok (.iinc 4 1, 3) := by decide +kernel
theorem dX8_scanName_50 : decode cX8_scanName 50 = .ok (.goto (-40), 3) := by decide +kernel
theorem dX8_scanName_53 : decode cX8_scanName 53 = .ok (.aload_n 0, 1) := by decide +kernel
theorem dX8_scanName_54 : decode cX8_scanName 54 = .ok (.lload_n 2, 1) := by decide +kernel
theorem dX8_scanName_55 : decode cX8_scanName 55 = .ok (.putfield 38, 3) := by decide +kernel
theorem dX8_scanName_58 : decode cX8_scanName 58 = .ok (.iload_n 1, 1) := by decide +kernel
theorem dX8_scanName_59 : decode cX8_scanName 59 = .ok (.bipush 6, 2) := by decide +kernel
theorem dX8_scanName_61 : decode cX8_scanName 61 = .ok (.if_icmp .le 12, 3) := by decide +kernel
theorem dX8_scanName_64 : decode cX8_scanName 64 = .ok (.aload_n 0, 1) := by decide +kernel
theorem dX8_scanName_65 : decode cX8_scanName 65 = .ok (.iconst (-1), 1) := by decide +kernel
theorem dX8_scanName_66 : decode cX8_scanName 66 = .ok (.iconst 0, 1) := by decide +kernel
theorem dX8_scanName_67 : decode cX8_scanName 67 = .ok (.invokevirtual 53, 3) := by decide +kernel
theorem dX8_scanName_70 : decode cX8_scanName 70 = .ok (.goto 46, 3) := by decide +kernel
theorem dX8_scanName_73 : decode cX8_scanName 73 = .ok (.lload_n 2, 1) := by decide +kernel
theorem dX8_scanName_74 : decode cX8_scanName 74 = .ok (.ldc2_w 75, 3) := by decide +kernel
theorem dX8_scanName_77 : decode cX8_scanName 77 = .ok (.lcmp, 1) := by decide +kernel
theorem dX8_scanName_78 : decode cX8_scanName 78 = .ok (.ifCond .ne 13, 3) := by decide +kernel
theorem dX8_scanName_81 : decode cX8_scanName 81 = .ok (.aload_n 0, 1) := by decide +kernel
theorem dX8_scanName_82 : decode cX8_scanName 82 = .ok (.bipush 116, 2) := by decide +kernel
theorem dX8_scanName_84 : decode cX8_scanName 84 = .ok (.iload_n 1, 1) := by decide +kernel
theorem dX8_scanName_85 : decode cX8_scanName 85 = .ok (.invokevirtual 53, 3) := by decide +kernel
theorem dX8_scanName_88 : decode cX8_scanName 88 = .ok (.goto 28, 3) := by decide +kernel
theorem dX8_scanName_91 : decode cX8_scanName 91 = .ok (.lload_n 2, 1) := by decide +kernel
theorem dX8_scanName_92 : decode cX8_scanName 92 = .ok (.ldc2_w 77, 3) := by decide +kernel
theorem dX8_scanName_95 : decode cX8_scanName 95 = .ok (.lcmp, 1) := by decide +kernel
theorem dX8_scanName_96 : decode cX8_scanName 96 = .ok (.ifCond .ne 13, 3) := by decide +kernel
theorem dX8_scanName_99 : decode cX8_scanName 99 = .ok (.aload_n 0, 1) := by decide +kernel
theorem dX8_scanName_100 : decode cX8_scanName 100 = .ok (.bipush 102, 2) := by decide +kernel
theorem dX8_scanName_102 : decode cX8_scanName 102 = .ok (.iload_n 1, 1) := by decide +kernel
theorem dX8_scanName_103 : decode cX8_scanName 103 = .ok (.invokevirtual 53, 3) := by decide +kernel
theorem dX8_scanName_106 : decode cX8_scanName 106 = .ok (.goto 10, 3) := by decide +kernel
theorem dX8_scanName_109 : decode cX8_scanName 109 = .ok (.aload_n 0, 1) := by decide +kernel
theorem dX8_scanName_110 : decode cX8_scanName 110 = .ok (.bipush 110, 2) := by decide +kernel
theorem dX8_scanName_112 : decode cX8_scanName 112 = .ok (.iload_n 1, 1) := by decide +kernel
theorem dX8_scanName_113 : decode cX8_scanName 113 = .ok (.invokevirtual 53, 3) := by decide +kernel
theorem dX8_scanName_116 : decode cX8_scanName 116 = .ok (.return_, 1) := by decide +kernel
theorem dX8_token_0 : decode cX8_token 0 = .ok (.aload_n 0, 1) := by decide +kernel
theorem dX8_token_1 : decode cX8_token 1 = .ok (.iload_n 1, 1) := by decide +kernel
theorem dX8_token_2 : decode cX8_token 2 = .ok (.putfield 32, 3) := by decide +kernel
theorem dX8_token_5 : decode cX8_token 5 = .ok (.aload_n 0, 1) := by decide +kernel
theorem dX8_token_6 : decode cX8_token 6 = .ok (.aload_n 0, 1) := by decide +kernel
theorem dX8_token_7 : decode cX8_token 7 = .ok (.getfield 35, 3) := by decide +kernel
theorem dX8_token_10 : decode cX8_token 10 = .ok (.iload_n 2, 1) := by decide +kernel
theorem dX8_token_11 : decode cX8_token 11 = .ok (.iadd, 1) := by decide +kernel
theorem dX8_token_12 : decode cX8_token 12 = .ok (.putfield 26, 3) := by decide +kernel
theorem dX8_token_15 : decode cX8_token 15 = .ok (.return_, 1) := by decide +kernel
theorem dX8_isBlank_0 : decode cX8_isBlank 0 = .ok (.iload_n 0, 1) := by decide +kernel
theorem dX8_isBlank_1 : decode cX8_isBlank 1 = .ok (.bipush 9, 2) := by decide +kernel
theorem dX8_isBlank_3 : decode cX8_isBlank 3 = .ok (.if_icmp .eq 21, 3) := by decide +kernel
theorem dX8_isBlank_6 : decode cX8_isBlank 6 = .ok (.iload_n 0, 1) := by decide +kernel
theorem dX8_isBlank_7 : decode cX8_isBlank 7 = .ok (.bipush 10, 2) := by decide +kernel
theorem dX8_isBlank_9 : decode cX8_isBlank 9 = .ok (.if_icmp .eq 15, 3) := by decide +kernel
theorem dX8_isBlank_12 : decode cX8_isBlank 12 = .ok (.iload_n 0, 1) := by decide +kernel
theorem dX8_isBlank_13 : decode cX8_isBlank 13 = .ok (.bipush 13, 2) := by decide +kernel
theorem dX8_isBlank_15 : decode cX8_isBlank 15 = .ok (.if_icmp .eq 9, 3) := by decide +kernel
theorem dX8_isBlank_18 : decode cX8_isBlank 18 = .ok (.iload_n 0, 1) := by decide +kernel
theorem dX8_isBlank_19 : decode cX8_isBlank 19 = .ok (.bipush 32, 2) := by decide +kernel
theorem dX8_isBlank_21 : decode cX8_isBlank 21 = .ok (.if_icmp .ne 7, 3) := by decide +kernel
theorem dX8_isBlank_24 : decode cX8_isBlank 24 = .ok (.iconst 1, 1) := by decide +kernel
theorem dX8_isBlank_25 : decode cX8_isBlank 25 = .ok (.goto 4, 3) := by decide +kernel
theorem dX8_isBlank_28 : decode cX8_isBlank 28 = .ok (.iconst 0, 1) := by decide +kernel
theorem dX8_isBlank_29 : decode cX8_isBlank 29 = .ok (.ireturn, 1) := by decide +kernel
theorem dX8_isLetter_0 : decode cX8_isLetter 0 = .ok (.iload_n 0, 1) := by decide +kernel
theorem dX8_isLetter_1 : decode cX8_isLetter 1 = .ok (.bipush 97, 2) := by decide +kernel
theorem dX8_isLetter_3 : decode cX8_isLetter 3 = .ok (.if_icmp .lt 13, 3) := by decide +kernel
theorem dX8_isLetter_6 : decode cX8_isLetter 6 = .ok (.iload_n 0, 1) := by decide +kernel
theorem dX8_isLetter_7 : decode cX8_isLetter 7 = .ok (.bipush 122, 2) := by decide +kernel
theorem dX8_isLetter_9 : decode cX8_isLetter 9 = .ok (.if_icmp .gt 7, 3) := by decide +kernel
theorem dX8_isLetter_12 : decode cX8_isLetter 12 = .ok (.iconst 1, 1) := by decide +kernel
theorem dX8_isLetter_13 : decode cX8_isLetter 13 = .ok (.goto 4, 3) := by decide +kernel
theorem dX8_isLetter_16 : decode cX8_isLetter 16 = .ok (.iconst 0, 1) := by decide +kernel
theorem dX8_isLetter_17 : decode cX8_isLetter 17 = .ok (.ireturn, 1) := by decide +kernel
theorem dX8_isDigit_0 : decode cX8_isDigit 0 = .ok (.iload_n 0, 1) := by decide +kernel
theorem dX8_isDigit_1 : decode cX8_isDigit 1 = .ok (.bipush 48, 2) := by decide +kernel
theorem dX8_isDigit_3 : decode cX8_isDigit 3 = .ok (.if_icmp .lt 13, 3) := by decide +kernel
theorem dX8_isDigit_6 : decode cX8_isDigit 6 = .ok (.iload_n 0, 1) := by decide +kernel
theorem dX8_isDigit_7 : decode cX8_isDigit 7 = .ok (.bipush 57, 2) := by decide +kernel
theorem dX8_isDigit_9 : decode cX8_isDigit 9 = .ok (.if_icmp .gt 7, 3) := by decide +kernel
theorem dX8_isDigit_12 : decode cX8_isDigit 12 = .ok (.iconst 1, 1) := by decide +kernel
theorem dX8_isDigit_13 : decode cX8_isDigit 13 = .ok (.goto 4, 3) := by decide +kernel
theorem dX8_isDigit_16 : decode cX8_isDigit 16 = .ok (.iconst 0, 1) := by decide +kernel
theorem dX8_isDigit_17 : decode cX8_isDigit 17 = .ok (.ireturn, 1) := by decide +kernel
theorem dX8_isOfName_0 : decode cX8_isOfName 0 = .ok (.iload_n 0, 1) := by decide +kernel
theorem dX8_isOfName_1 : decode cX8_isOfName 1 = .ok (.invokestatic 57, 3) := by decide +kernel
theorem dX8_isOfName_4 : decode cX8_isOfName 4 = .ok (.ifCond .ne 10, 3) := by decide +kernel
theorem dX8_isOfName_7 : decode cX8_isOfName 7 = .ok (.iload_n 0, 1) := by decide +kernel
theorem dX8_isOfName_8 : decode cX8_isOfName 8 = .ok (.invokestatic 46, 3) := by decide +kernel
theorem dX8_isOfName_11 : decode cX8_isOfName 11 = .ok (.ifCond .eq 7, 3) := by decide +kernel
theorem dX8_isOfName_14 : decode cX8_isOfName 14 = .ok (.iconst 1, 1) := by decide +kernel
theorem dX8_isOfName_15 : decode cX8_isOfName 15 = .ok (.goto 4, 3) := by decide +kernel
theorem dX8_isOfName_18 : decode cX8_isOfName 18 = .ok (.iconst 0, 1) := by decide +kernel
theorem dX8_isOfName_19 : decode cX8_isOfName 19 = .ok (.ireturn, 1) := by decide +kernel
