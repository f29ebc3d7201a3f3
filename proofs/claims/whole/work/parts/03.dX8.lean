theorem dX8_init_0 : decode cX8_init 0 = .ok (.aload_n 0, 1) := by decide +kernel
theorem dX8_init_1 : decode cX8_init 1 = .ok (.invokespecial 3, 3) := by decide +kernel
theorem dX8_init_4 : decode cX8_init 4 = .ok (.aload_n 0, 1) := by decide +kernel
theorem dX8_init_5 : decode cX8_init 5 = .ok (.sipush 3000, 3) := by decide +kernel
theorem dX8_init_8 : decode cX8_init 8 = .ok (.newarray .byte, 2) := by decide +kernel
theorem dX8_init_10 : decode cX8_init 10 = .ok (.putfield 9, 3) := by decide +kernel
theorem dX8_init_13 : decode cX8_init 13 = .ok (.return_, 1) := by decide +kernel
theorem dX8_byteAt_0 : decode cX8_byteAt 0 = .ok (.iload_n 1, 1) := by decide +kernel
theorem dX8_byteAt_1 : decode cX8_byteAt 1 = .ok (.ifCond .lt 31, 3) := by decide +kernel
theorem dX8_byteAt_4 : decode cX8_byteAt 4 = .ok (.iload_n 1, 1) := by decide +kernel
theorem dX8_byteAt_5 : decode cX8_byteAt 5 = .ok (.aload_n 0, 1) := by decide +kernel
theorem dX8_byteAt_6 : decode cX8_byteAt 6 = .ok (.getfield 15, 3) := by decide +kernel
theorem dX8_byteAt_9 : decode cX8_byteAt 9 = .ok (.if_icmp .ge 23, 3) := by decide +kernel
theorem dX8_byteAt_12 : decode cX8_byteAt 12 = .ok (.iload_n 1, 1) := by decide +kernel
theorem dX8_byteAt_13 : decode cX8_byteAt 13 = .ok (.sipush 3000, 3) := by decide +kernel
theorem dX8_byteAt_16 : decode cX8_byteAt 16 = .ok (.if_icmp .ge 16, 3) := by decide +kernel
theorem dX8_byteAt_19 : decode cX8_byteAt 19 = .ok (.aload_n 0, 1) := by decide +kernel
theorem dX8_byteAt_20 : decode cX8_byteAt 20 = .ok (.getfield 9, 3) := by decide +kernel
theorem dX8_byteAt_23 : decode cX8_byteAt 23 = .ok (.iload_n 1, 1) := by decide +kernel
theorem dX8_byteAt_24 : decode cX8_byteAt 24 = .ok (.baload, 1) := by decide +kernel
theorem dX8_byteAt_25 : decode cX8_byteAt 25 = .ok (.sipush 255, 3) := by decide +kernel
theorem dX8_byteAt_28 : decode cX8_byteAt 28 = .ok (.iand, 1) := by decide +kernel
theorem dX8_byteAt_29 : decode cX8_byteAt 29 = .ok (.goto 4, 3) := by decide +kernel
theorem dX8_byteAt_32 : decode cX8_byteAt 32 = .ok (.iconst (-1), 1) := by decide +kernel
theorem dX8_byteAt_33 : decode cX8_byteAt 33 = .ok (.ireturn, 1) := by decide +kernel
theorem dX8_drop_0 : decode cX8_drop 0 = .ok (.aload_n 0, 1) := by decide +kernel
theorem dX8_drop_1 : decode cX8_drop 1 = .ok (.iconst 0, 1) := by decide +kernel
theorem dX8_drop_2 : decode cX8_drop 2 = .ok (.putfield 15, 3) := by decide +kernel
theorem dX8_drop_5 : decode cX8_drop 5 = .ok (.return_, 1) := by decide +kernel
theorem dX8_append_0 : decode cX8_append 0 = .ok (.iload_n 3, 1) := by decide +kernel
theorem dX8_append_1 : decode cX8_append 1 = .ok (.ifCond .lt 15, 3) := by decide +kernel
theorem dX8_append_4 : decode cX8_append 4 = .ok (.iload_n 3, 1) := by decide +kernel
theorem dX8_append_5 : decode cX8_append 5 = .ok (.sipush 3000, 3) := by decide +kernel
theorem dX8_append_8 : decode cX8_append 8 = .ok (.aload_n 0, 1) := by decide +kernel
theorem dX8_append_9 : decode cX8_append 9 = .ok (.getfield 15, 3) := by decide +kernel
theorem dX8_append_12 : decode cX8_append 12 = .ok (.isub, 1) := by decide +kernel
theorem dX8_append_13 : decode cX8_append 13 = .ok (.if_icmp .le 6, 3) := by decide +kernel
theorem dX8_append_16 : decode cX8_append 16 = .ok (.bipush (-4), 2) := by decide +kernel
theorem dX8_append_18 : decode cX8_append 18 = .ok (.ireturn, 1) := by decide +kernel
theorem dX8_append_19 : decode cX8_append 19 = .ok (.iload_n 3, 1) := by decide +kernel
theorem dX8_append_20 : decode cX8_append 20 = .ok (.iconst 1, 1) := by decide +kernel
theorem dX8_append_21 : decode cX8_append 21 = .ok (.isub, 1) := by decide +kernel
theorem dX8_append_22 : decode cX8_append 22 = .ok (.istore 4, 2) := by decide +kernel
theorem dX8_append_24 : decode cX8_append 24 = .ok (.iload 4, 2) := by decide +kernel
theorem dX8_append_26 : decode cX8_append 26 = .ok (.ifCond .lt 54, 3) := by decide +kernel
theorem dX8_append_29 : decode cX8_append 29 = .ok (.aload_n 0, 1) := by decide +kernel
theorem dX8_append_30 : decode cX8_append 30 = .ok (.getfield 15, 3) := by decide +kernel
theorem dX8_append_33 : decode cX8_append 33 = .ok (.ifCond .lt 41, 3) := by decide +kernel
theorem dX8_append_36 : decode cX8_append 36 = .ok (.aload_n 0, 1) := by decide +kernel
theorem dX8_append_37 : decode cX8_append 37 = .ok (.getfield 15, 3) := by decide +kernel
theorem dX8_append_40 : decode cX8_append 40 = .ok (.sipush 3000, 3) := by decide +kernel
theorem dX8_append_43 : decode cX8_append 43 = .ok (.if_icmp .ge 31, 3) := by decide +kernel
theorem dX8_append_46 : decode cX8_append 46 = .ok (.aload_n 0, 1) := by decide +kernel
theorem dX8_append_47 : decode cX8_append 47 = .ok (.getfield 9, 3) := by decide +kernel
theorem dX8_append_50 : decode cX8_append 50 = .ok (.aload_n 0, 1) := by decide +kernel
theorem dX8_append_51 : decode cX8_append 51 = .ok (.getfield 15, 3) := by decide +kernel
theorem dX8_append_54 : decode cX8_append 54 = .ok (.lload_n 1, 1) := by decide +kernel
theorem dX8_append_55 : decode cX8_append 55 = .ok (.bipush 8, 2) := by decide +kernel
theorem dX8_append_57 : decode cX8_append 57 = .ok (.iload 4, 2) := by decide +kernel
theorem dX8_append_59 : decode cX8_append 59 = .ok (.imul, 1) := by decide +kernel
theorem dX8_append_60 : decode cX8_append 60 = .ok (.lushr, 1) := by decide +kernel
theorem dX8_append_61 : decode cX8_append 61 = .ok (.l2i, 1) := by decide +kernel
theorem dX8_append_62 : decode cX8_append 62 = .ok (.i2b, 1) := by decide +kernel
theorem dX8_append_63 : decode cX8_append 63 = .ok (.bastore, 1) := by decide +kernel
theorem dX8_append_64 : decode cX8_append 64 = .ok (.aload_n 0, 1) := by decide +kernel
theorem dX8_append_65 : decode cX8_append 65 = .ok (.dup, 1) := by decide +kernel
theorem dX8_append_66 : decode cX8_append 66 = .ok (.getfield 15, 3) := by decide +kernel
theorem dX8_append_69 : decode cX8_append 69 = .ok (.iconst 1, 1) := by decide +kernel
theorem dX8_append_70 : decode cX8_append 70 = .ok (.iadd, 1) := by decide +kernel
theorem dX8_append_71 : decode cX8_append 71 = .ok (.putfield 15, 3) := by decide +kernel
theorem dX8_append_74 : decode cX8_append 74 = .ok (.iinc 4 (-1), 3) := by decide +kernel
theorem dX8_append_77 : decode cX8_append 77 = .ok (.goto (-53), 3) := by decide +kernel
theorem dX8_append_80 : decode cX8_append 80 = .ok (.aload_n 0, 1) := by decide +kernel
theorem dX8_append_81 : decode cX8_append 81 = .ok (.getfield 15, 3) := by decide +kernel
theorem dX8_append_84 : decode cX8_append 84 = .ok (.ireturn, 1) := by decide +kernel
theorem dX8_begin_0 : decode cX8_begin 0 = .ok (.aload_n 0, 1) := by decide +kernel
theorem dX8_begin_1 : decode cX8_begin 1 = .ok (.iload_n 1, 1) := by decide +kernel
theorem dX8_begin_2 : decode cX8_begin 2 = .ok (.putfield 19, 3) := by decide +kernel
theorem dX8_begin_5 : decode cX8_begin 5 = .ok (.aload_n 0, 1) := by decide +kernel
theorem dX8_begin_6 : decode cX8_begin 6 = .ok (.iconst 0, 1) := by decide +kernel
theorem dX8_begin_7 : decode cX8_begin 7 = .ok (.putfield 23, 3) := by decide +kernel
theorem dX8_begin_10 : decode cX8_begin 10 = .ok (.aload_n 0, 1) := by decide +kernel
theorem dX8_begin_11 : decode cX8_begin 11 = .ok (.iconst 0, 1) := by decide +kernel
theorem dX8_begin_12 : decode cX8_begin 12 = .ok (.putfield 26, 3) := by decide +kernel
theorem dX8_begin_15 : decode cX8_begin 15 = .ok (.return_, 1) := by decide +kernel
theorem dX8_look_0 : decode cX8_look 0 = .ok (.aload_n 0, 1) := by decide +kernel
theorem dX8_look_1 : decode cX8_look 1 = .ok (.getfield 23, 3) := by decide +kernel
theorem dX8_look_4 : decode cX8_look 4 = .ok (.ifCond .ne 82, 3) := by decide +kernel
theorem dX8_look_7 : decode cX8_look 7 = .ok (.aload_n 0, 1) := by decide +kernel
theorem dX8_look_8 : decode cX8_look 8 = .ok (.iconst 1, 1) := by decide +kernel
theorem dX8_look_9 : decode cX8_look 9 = .ok (.putfield 23, 3) := by decide +kernel
theorem dX8_look_12 : decode cX8_look 12 = .ok (.aload_n 0, 1) := by decide +kernel
theorem dX8_look_13 : decode cX8_look 13 = .ok (.aload_n 0, 1) := by decide +kernel
theorem dX8_look_14 : decode cX8_look 14 = .ok (.getfield 26, 3) := by decide +kernel
theorem dX8_look_17 : decode cX8_look 17 = .ok (.putfield 29, 3) := by decide +kernel
theorem dX8_look_20 : decode cX8_look 20 = .ok (.aload_n 0, 1) := by decide +kernel
theorem dX8_look_21 : decode cX8_look 21 = .ok (.getfield 29, 3) := by decide +kernel
theorem dX8_look_24 : decode cX8_look 24 = .ok (.aload_n 0, 1) := by decide +kernel
theorem dX8_look_25 : decode cX8_look 25 = .ok (.getfield 15, 3) := by decide +kernel
theorem dX8_look_28 : decode cX8_look 28 = .ok (.if_icmp .ge 30, 3) := by decide +kernel
theorem dX8_look_31 : decode cX8_look 31 = .ok (.aload_n 0, 1) := by decide +kernel
theorem dX8_look_32 : decode cX8_look 32 = .ok (.aload_n 0, 1) := by decide +kernel
theorem dX8_look_33 : decode cX8_look 33 = .ok (.getfield 29, 3) := by decide +kernel
theorem dX8_look_36 : decode cX8_look 36 = .ok (.invokevirtual 32, 3) := by decide +kernel
theorem dX8_look_39 : decode cX8_look 39 = .ok (.invokestatic 36, 3) := by decide +kernel
theorem dX8_look_42 : decode cX8_look 42 = .ok (.ifCond .eq 16, 3) := by decide +kernel
theorem dX8_look_45 : decode cX8_look 45 = .ok (.aload_n 0, 1) := by decide +kernel
theorem dX8_look_46 : decode cX8_look 46 = .ok (.dup, 1) := by decide +kernel
theorem dX8_look_47 : decode cX8_look 47 = .ok (.getfield 29, 3) := by decide +kernel
theorem dX8_look_50 : decode cX8_look 50 = .ok (.iconst 1, 1) := by decide +kernel
theorem dX8_look_51 : decode cX8_look 51 = .ok (.iadd, 1) := by decide +kernel
theorem dX8_look_52 : decode cX8_look 52 = .ok (.putfield 29, 3) := by decide +kernel
theorem dX8_look_55 : decode cX8_look 55 = .ok (.goto (-35), 3) := by decide +kernel
theorem dX8_look_58 : decode cX8_look 58 = .ok (.aload_n 0, 1) := by decide +kernel
theorem dX8_look_59 : decode cX8_look 59 = .ok (.aload_n 0, 1) := by decide +kernel
theorem dX8_look_60 : decode cX8_look 60 = .ok (.getfield 29, 3) := by decide +kernel
theorem dX8_look_63 : decode cX8_look 63 = .ok (.invokevirtual 32, 3) := by decide +kernel
theorem dX8_look_66 : decode cX8_look 66 = .ok (.istore_n 1, 1) := by decide +kernel
theorem dX8_look_67 : decode cX8_look 67 = .ok (.iload_n 1, 1) := by decide +kernel
theorem dX8_look_68 : decode cX8_look 68 = .ok (.invokestatic 40, 3) := by decide +kernel
theorem dX8_look_71 : decode cX8_look 71 = .ok (.ifCond .eq 10, 3) := by decide +kernel
theorem dX8_look_74 : decode cX8_look 74 = .ok (.aload_n 0, 1) := by decide +kernel
theorem dX8_look_75 : decode cX8_look 75 = .ok (.invokevirtual 43, 3) := by decide +kernel
theorem dX8_look_78 : decode cX8_look 78 = .ok (.goto 8, 3) := by decide +kernel
theorem dX8_look_81 : decode cX8_look 81 = .ok (.aload_n 0, 1) := by decide +kernel
theorem dX8_look_82 : decode cX8_look 82 = .ok (.iload_n 1, 1) := by decide +kernel
theorem dX8_look_83 : decode cX8_look 83 = .ok (.invokevirtual 46, 3) := by decide +kernel
theorem dX8_look_86 : decode cX8_look 86 = .ok (.aload_n 0, 1) := by decide +kernel
theorem dX8_look_87 : decode cX8_look 87 = .ok (.getfield 50, 3) := by decide +kernel
theorem dX8_look_90 : decode cX8_look 90 = .ok (.ireturn, 1) := by decide +kernel
theorem dX8_take_0 : decode cX8_take 0 = .ok (.aload_n 0, 1) := by decide +kernel
theorem dX8_take_1 : decode cX8_take 1 = .ok (.iconst 0, 1) := by decide +kernel
theorem dX8_take_2 : decode cX8_take 2 = .ok (.putfield 23, 3) := by decide +kernel
theorem dX8_take_5 : decode cX8_take 5 = .ok (.return_, 1) := by decide +kernel
theorem dX8_start_0 : decode cX8_start 0 = .ok (.aload_n 0, 1) := by decide +kernel
theorem dX8_start_1 : decode cX8_start 1 = .ok (.getfield 29, 3) := by decide +kernel
theorem dX8_start_4 : decode cX8_start 4 = .ok (.ireturn, 1) := by decide +kernel
theorem dX8_name_0 : decode cX8_name 0 = .ok (.aload_n 0, 1) := by decide +kernel
theorem dX8_name_1 : decode cX8_name 1 = .ok (.getfield 53, 3) := by decide +kernel
theorem dX8_name_4 : decode cX8_name 4 = .ok (.lreturn, 1) := by decide +kernel
theorem dX8_hypothesis_0 : decode cX8_hypothesis 0 = .ok (.aload_n 0, 1) := by decide +kernel
theorem dX8_hypothesis_1 : decode cX8_hypothesis 1 = .ok (.getfield 26, 3) := by decide +kernel
theorem dX8_hypothesis_4 : decode cX8_hypothesis 4 = .ok (.aload_n 0, 1) := by decide +kernel
theorem dX8_hypothesis_5 : decode cX8_hypothesis 5 = .ok (.getfield 29, 3) := by decide +kernel
theorem dX8_hypothesis_8 : decode cX8_hypothesis 8 = .ok (.isub, 1) := by decide +kernel
theorem dX8_hypothesis_9 : decode cX8_hypothesis 9 = .ok (.iconst 1, 1) := by decide +kernel
theorem dX8_hypothesis_10 : decode cX8_hypothesis 10 = .ok (.isub, 1) := by decide +kernel
theorem dX8_hypothesis_11 : decode cX8_hypothesis 11 = .ok (.istore_n 1, 1) := by decide +kernel
theorem dX8_hypothesis_12 : decode cX8_hypothesis 12 = .ok (.aload_n 0, 1) := by decide +kernel
theorem dX8_hypothesis_13 : decode cX8_hypothesis 13 = .ok (.aload_n 0, 1) := by decide +kernel
theorem dX8_hypothesis_14 : decode cX8_hypothesis 14 = .ok (.getfield 29, 3) := by decide +kernel
theorem dX8_hypothesis_17 : decode cX8_hypothesis 17 = .ok (.iconst 1, 1) := by decide +kernel
theorem dX8_hypothesis_18 : decode cX8_hypothesis 18 = .ok (.iadd, 1) := by decide +kernel
theorem dX8_hypothesis_19 : decode cX8_hypothesis 19 = .ok (.invokevirtual 32, 3) := by decide +kernel
theorem dX8_hypothesis_22 : decode cX8_hypothesis 22 = .ok (.istore_n 2, 1) := by decide +kernel
theorem dX8_hypothesis_23 : decode cX8_hypothesis 23 = .ok (.aload_n 0, 1) := by decide +kernel
theorem dX8_hypothesis_24 : decode cX8_hypothesis 24 = .ok (.aload_n 0, 1) := by decide +kernel
theorem dX8_hypothesis_25 : decode cX8_hypothesis 25 = .ok (.getfield 29, 3) := by decide +kernel
theorem dX8_hypothesis_28 : decode cX8_hypothesis 28 = .ok (.invokevirtual 32, 3) := by decide +kernel
theorem dX8_hypothesis_31 : decode cX8_hypothesis 31 = .ok (.bipush 104, 2) := by decide +kernel
theorem dX8_hypothesis_33 : decode cX8_hypothesis 33 = .ok (.if_icmp .ne 19, 3) := by decide +kernel
theorem dX8_hypothesis_36 : decode cX8_hypothesis 36 = .ok (.iload_n 1, 1) := by decide +kernel
theorem dX8_hypothesis_37 : decode cX8_hypothesis 37 = .ok (.iconst 1, 1) := by decide +kernel
theorem dX8_hypothesis_38 : decode cX8_hypothesis 38 = .ok (.if_icmp .lt 14, 3) := by decide +kernel
theorem dX8_hypothesis_41 : decode cX8_hypothesis 41 = .ok (.iload_n 2, 1) := by decide +kernel
theorem dX8_hypothesis_42 : decode cX8_hypothesis 42 = .ok (.bipush 48, 2) := by decide +kernel
theorem dX8_hypothesis_44 : decode cX8_hypothesis 44 = .ok (.if_icmp .ne 10, 3) := by decide +kernel
theorem dX8_hypothesis_47 : decode cX8_hypothesis 47 = .ok (.iload_n 1, 1) := by decide +kernel
theorem dX8_hypothesis_48 : decode cX8_hypothesis 48 = .ok (.iconst 1, 1) := by decide +kernel
theorem dX8_hypothesis_49 : decode cX8_hypothesis 49 = .ok (.if_icmp .le 5, 3) := by decide +kernel
theorem dX8_hypothesis_52 : decode cX8_hypothesis 52 = .ok (.iconst (-1), 1) := by decide +kernel
theorem dX8_hypothesis_53 : decode cX8_hypothesis 53 = .ok (.ireturn, 1) := by decide +kernel
theorem dX8_hypothesis_54 : decode cX8_hypothesis 54 = .ok (.iconst 0, 1) := by decide +kernel
theorem dX8_hypothesis_55 : decode cX8_hypothesis 55 = .ok (.istore_n 3, 1) := by decide +kernel
theorem dX8_hypothesis_56 : decode cX8_hypothesis 56 = .ok (.aload_n 0, 1) := by decide +kernel
theorem dX8_hypothesis_57 : decode cX8_hypothesis 57 = .ok (.getfield 29, 3) := by decide +kernel
theorem dX8_hypothesis_60 : decode cX8_hypothesis 60 = .ok (.iconst 1, 1) := by decide +kernel
theorem dX8_hypothesis_61 : decode cX8_hypothesis 61 = .ok (.iadd, 1) := by decide +kernel
theorem dX8_hypothesis_62 : decode cX8_hypothesis 62 = .ok (.istore 4, 2) := by decide +kernel
theorem dX8_hypothesis_64 : decode cX8_hypothesis 64 = .ok (.iload 4, 2) := by decide +kernel
theorem dX8_hypothesis_66 : decode cX8_hypothesis 66 = .ok (.aload_n 0, 1) := by decide +kernel
theorem dX8_hypothesis_67 : decode cX8_hypothesis 67 = .ok (.getfield 26, 3) := by decide +kernel
theorem dX8_hypothesis_70 : decode cX8_hypothesis 70 = .ok (.if_icmp .ge 38, 3) := by decide +kernel
theorem dX8_hypothesis_73 : decode cX8_hypothesis 73 = .ok (.aload_n 0, 1) := by decide +kernel
theorem dX8_hypothesis_74 : decode cX8_hypothesis 74 = .ok (.iload 4, 2) := by decide +kernel
theorem dX8_hypothesis_76 : decode cX8_hypothesis 76 = .ok (.invokevirtual 32, 3) := by decide +kernel
theorem dX8_hypothesis_79 : decode cX8_hypothesis 79 = .ok (.istore 5, 2) := by decide +kernel
theorem dX8_hypothesis_81 : decode cX8_hypothesis 81 = .ok (.iload 5, 2) := by decide +kernel
theorem dX8_hypothesis_83 : decode cX8_hypothesis 83 = .ok (.invokestatic 57, 3) := by decide +kernel
theorem dX8_hypothesis_86 : decode cX8_hypothesis 86 = .ok (.ifCond .ne 5, 3) := by decide +kernel
theorem dX8_hypothesis_89 : decode cX8_hypothesis 89 = .ok (.iconst (-1), 1) := by decide +kernel
theorem dX8_hypothesis_90 : decode cX8_hypothesis 90 = .ok (.ireturn, 1) := by decide +kernel
theorem dX8_hypothesis_91 : decode cX8_hypothesis 91 = .ok (.iload_n 3, 1) := by decide +kernel
theorem dX8_hypothesis_92 : decode cX8_hypothesis 92 = .ok (.bipush 10, 2) := by decide +kernel
theorem dX8_hypothesis_94 : decode cX8_hypothesis 94 = .ok (.imul, 1) := by decide +kernel
theorem dX8_hypothesis_95 : decode cX8_hypothesis 95 = .ok (.iload 5, 2) := by decide +kernel
theorem dX8_hypothesis_97 : decode cX8_hypothesis 97 = .ok (.iadd, 1) := by decide +kernel
theorem dX8_hypothesis_98 : decode cX8_hypothesis 98 = .ok (.bipush 48, 2) := by decide +kernel
theorem dX8_hypothesis_100 : decode cX8_hypothesis 100 = .ok (.isub, 1) := by decide +kernel
theorem dX8_hypothesis_101 : decode cX8_hypothesis 101 = .ok (.istore_n 3, 1) := by decide +kernel
theorem dX8_hypothesis_102 : decode cX8_hypothesis 102 = .ok (.iinc 4 1, 3) := by decide +kernel
theorem dX8_hypothesis_105 : decode cX8_hypothesis 105 = .ok (.goto (-41), 3) := by decide +kernel
theorem dX8_hypothesis_108 : decode cX8_hypothesis 108 = .ok (.iload_n 3, 1) := by decide +kernel
theorem dX8_hypothesis_109 : decode cX8_hypothesis 109 = .ok (.ireturn, 1) := by decide +kernel
theorem dX8_scanSign_0 : decode cX8_scanSign 0 = .ok (.iload_n 1, 1) := by decide +kernel
theorem dX8_scanSign_1 : decode cX8_scanSign 1 = .ok (.ifCond .ge 12, 3) := by decide +kernel
theorem dX8_scanSign_4 : decode cX8_scanSign 4 = .ok (.aload_n 0, 1) := by decide +kernel
theorem dX8_scanSign_5 : decode cX8_scanSign 5 = .ok (.iconst 0, 1) := by decide +kernel
theorem dX8_scanSign_6 : decode cX8_scanSign 6 = .ok (.iconst 0, 1) := by decide +kernel
theorem dX8_scanSign_7 : decode cX8_scanSign 7 = .ok (.invokevirtual 60, 3) := by decide +kernel
theorem dX8_scanSign_10 : decode cX8_scanSign 10 = .ok (.goto 122, 3) := by decide +kernel
theorem dX8_scanSign_13 : decode cX8_scanSign 13 = .ok (.iload_n 1, 1) := by decide +kernel
theorem dX8_scanSign_14 : decode cX8_scanSign 14 = .ok (.bipush 45, 2) := by decide +kernel
theorem dX8_scanSign_16 : decode cX8_scanSign 16 = .ok (.if_icmp .ne 28, 3) := by decide +kernel
theorem dX8_scanSign_19 : decode cX8_scanSign 19 = .ok (.aload_n 0, 1) := by decide +kernel
theorem dX8_scanSign_20 : decode cX8_scanSign 20 = .ok (.aload_n 0, 1) := by decide +kernel
theorem dX8_scanSign_21 : decode cX8_scanSign 21 = .ok (.getfield 29, 3) := by decide +kernel
theorem dX8_scanSign_24 : decode cX8_scanSign 24 = .ok (.iconst 1, 1) := by decide +kernel
theorem dX8_scanSign_25 : decode cX8_scanSign 25 = .ok (.iadd, 1) := by decide +kernel
theorem dX8_scanSign_26 : decode cX8_scanSign 26 = .ok (.invokevirtual 32, 3) := by decide +kernel
theorem dX8_scanSign_29 : decode cX8_scanSign 29 = .ok (.bipush 62, 2) := by decide +kernel
theorem dX8_scanSign_31 : decode cX8_scanSign 31 = .ok (.if_icmp .ne 13, 3) := by decide +kernel
theorem dX8_scanSign_34 : decode cX8_scanSign 34 = .ok (.aload_n 0, 1) := by decide +kernel
theorem dX8_scanSign_35 : decode cX8_scanSign 35 = .ok (.bipush 62, 2) := by decide +kernel
theorem dX8_scanSign_37 : decode cX8_scanSign 37 = .ok (.iconst 2, 1) := by decide +kernel
theorem dX8_scanSign_38 : decode cX8_scanSign 38 = .ok (.invokevirtual 60, 3) := by decide +kernel
theorem dX8_scanSign_41 : decode cX8_scanSign 41 = .ok (.goto 91, 3) := by decide +kernel
theorem dX8_scanSign_44 : decode cX8_scanSign 44 = .ok (.iload_n 1, 1) := by decide +kernel
theorem dX8_scanSign_45 : decode cX8_scanSign 45 = .ok (.bipush 60, 2) := by decide +kernel
theorem dX8_scanSign_47 : decode cX8_scanSign 47 = .ok (.if_icmp .ne 43, 3) := by decide +kernel
theorem dX8_scanSign_50 : decode cX8_scanSign 50 = .ok (.aload_n 0, 1) := by decide +kernel
theorem dX8_scanSign_51 : decode cX8_scanSign 51 = .ok (.aload_n 0, 1) := by decide +kernel
theorem dX8_scanSign_52 : decode cX8_scanSign 52 = .ok (.getfield 29, 3) := by decide +kernel
theorem dX8_scanSign_55 : decode cX8_scanSign 55 = .ok (.iconst 1, 1) := by decide +kernel
theorem dX8_scanSign_56 : decode cX8_scanSign 56 = .ok (.iadd, 1) := by decide +kernel
theorem dX8_scanSign_57 : decode cX8_scanSign 57 = .ok (.invokevirtual 32, 3) := by decide +kernel
theorem dX8_scanSign_60 : decode cX8_scanSign 60 = .ok (.bipush 45, 2) := by decide +kernel
theorem dX8_scanSign_62 : decode cX8_scanSign 62 = .ok (.if_icmp .ne 28, 3) := by decide +kernel
theorem dX8_scanSign_65 : decode cX8_scanSign 65 = .ok (.aload_n 0, 1) := by decide +kernel
theorem dX8_scanSign_66 : decode cX8_scanSign 66 = .ok (.aload_n 0, 1) := by decide +kernel
theorem dX8_scanSign_67 : decode cX8_scanSign 67 = .ok (.getfield 29, 3) := by decide +kernel
theorem dX8_scanSign_70 : decode cX8_scanSign 70 = .ok (.iconst 2, 1) := by decide +kernel
theorem dX8_scanSign_71 : decode cX8_scanSign 71 = .ok (.iadd, 1) := by decide +kernel
theorem dX8_scanSign_72 : decode cX8_scanSign 72 = .ok (.invokevirtual 32, 3) := by decide +kernel
theorem dX8_scanSign_75 : decode cX8_scanSign 75 = .ok (.bipush 62, 2) := by decide +kernel
theorem dX8_scanSign_77 : decode cX8_scanSign 77 = .ok (.if_icmp .ne 13, 3) := by decide +kernel
theorem dX8_scanSign_80 : decode cX8_scanSign 80 = .ok (.aload_n 0, 1) := by decide +kernel
theorem dX8_scanSign_81 : decode cX8_scanSign 81 = .ok (.bipush 61, 2) := by decide +kernel
theorem dX8_scanSign_83 : decode cX8_scanSign 83 = .ok (.iconst 3, 1) := by decide +kernel
theorem dX8_scanSign_84 : decode cX8_scanSign 84 = .ok (.invokevirtual 60, 3) := by decide +kernel
theorem dX8_scanSign_87 : decode cX8_scanSign 87 = .ok (.goto 45, 3) := by decide +kernel
theorem dX8_scanSign_90 : decode cX8_scanSign 90 = .ok (.ldc 64, 2) := by decide +kernel
theorem dX8_scanSign_92 : decode cX8_scanSign 92 = .ok (.iload_n 1, 1) := by decide +kernel
theorem dX8_scanSign_93 : decode cX8_scanSign 93 = .ok (.i2c, 1) := by decide +kernel
theorem dX8_scanSign_94 : decode cX8_scanSign 94 = .ok (.invokevirtual 66, 3) := by decide +kernel
theorem dX8_scanSign_97 : decode cX8_scanSign 97 = .ok (.ifCond .ge 20, 3) := by decide +kernel
theorem dX8_scanSign_100 : decode cX8_scanSign 100 = .ok (.aload_n 0, 1) := by decide +kernel
theorem dX8_scanSign_101 : decode cX8_scanSign 101 = .ok (.getfield 19, 3) := by decide +kernel
theorem dX8_scanSign_104 : decode cX8_scanSign 104 = .ok (.ifCond .eq 22, 3) := by decide +kernel
theorem dX8_scanSign_107 : decode cX8_scanSign 107 = .ok (.ldc 71, 2) := by decide +kernel
theorem dX8_scanSign_109 : decode cX8_scanSign 109 = .ok (.iload_n 1, 1) := by decide +kernel
theorem dX8_scanSign_110 : decode cX8_scanSign 110 = .ok (.i2c, 1) := by decide +kernel
theorem dX8_scanSign_111 : decode cX8_scanSign 111 = .ok (.invokevirtual 66, 3) := by decide +kernel
theorem dX8_scanSign_114 : decode cX8_scanSign 114 = .ok (.ifCond .lt 12, 3) := by decide +kernel
theorem dX8_scanSign_117 : decode cX8_scanSign 117 = .ok (.aload_n 0, 1) := by decide +kernel
theorem dX8_scanSign_118 : decode cX8_scanSign 118 = .ok (.iload_n 1, 1) := by decide +kernel
theorem dX8_scanSign_119 : decode cX8_scanSign 119 = .ok (.iconst 1, 1) := by decide +kernel
theorem dX8_scanSign_120 : decode cX8_scanSign 120 = .ok (.invokevirtual 60, 3) := by decide +kernel
theorem dX8_scanSign_123 : decode cX8_scanSign 123 = .ok (.goto 9, 3) := by decide +kernel
theorem dX8_scanSign_126 : decode cX8_scanSign 126 = .ok (.aload_n 0, 1) := by decide +kernel
theorem dX8_scanSign_127 : decode cX8_scanSign 127 = .ok (.iconst (-1), 1) := by decide +kernel
theorem dX8_scanSign_128 : decode cX8_scanSign 128 = .ok (.iconst 0, 1) := by decide +kernel
theorem dX8_scanSign_129 : decode cX8_scanSign 129 = .ok (.invokevirtual 60, 3) := by decide +kernel
theorem dX8_scanSign_132 : decode cX8_scanSign 132 = .ok (.return_, 1) := by decide +kernel
theorem dX8_scanName_0 : decode cX8_scanName 0 = .ok (.iconst 0, 1) := by decide +kernel
theorem dX8_scanName_1 : decode cX8_scanName 1 = .ok (.istore_n 1, 1) := by decide +kernel
theorem dX8_scanName_2 : decode cX8_scanName 2 = .ok (.lconst 0, 1) := by decide +kernel
theorem dX8_scanName_3 : decode cX8_scanName 3 = .ok (.lstore_n 2, 1) := by decide +kernel
theorem dX8_scanName_4 : decode cX8_scanName 4 = .ok (.aload_n 0, 1) := by decide +kernel
theorem dX8_scanName_5 : decode cX8_scanName 5 = .ok (.aload_n 0, 1) := by decide +kernel
theorem dX8_scanName_6 : decode cX8_scanName 6 = .ok (.getfield 29, 3) := by decide +kernel
theorem dX8_scanName_9 : decode cX8_scanName 9 = .ok (.invokevirtual 32, 3) := by decide +kernel
theorem dX8_scanName_12 : decode cX8_scanName 12 = .ok (.istore 4, 2) := by decide +kernel
theorem dX8_scanName_14 : decode cX8_scanName 14 = .ok (.iload_n 1, 1) := by decide +kernel
theorem dX8_scanName_15 : decode cX8_scanName 15 = .ok (.bipush 6, 2) := by decide +kernel
theorem dX8_scanName_17 : decode cX8_scanName 17 = .ok (.if_icmp .gt 46, 3) := by decide +kernel
theorem dX8_scanName_20 : decode cX8_scanName 20 = .ok (.iload 4, 2) := by decide +kernel
theorem dX8_scanName_22 : decode cX8_scanName 22 = .ok (.invokestatic 40, 3) := by decide +kernel
theorem dX8_scanName_25 : decode cX8_scanName 25 = .ok (.ifCond .ne 11, 3) := by decide +kernel
theorem dX8_scanName_28 : decode cX8_scanName 28 = .ok (.iload 4, 2) := by decide +kernel
theorem dX8_scanName_30 : decode cX8_scanName 30 = .ok (.invokestatic 57, 3) := by decide +kernel
theorem dX8_scanName_33 : decode cX8_scanName 33 = .ok (.ifCond .eq 30, 3) := by decide +kernel
theorem dX8_scanName_36 : decode cX8_scanName 36 = .ok (.lload_n 2, 1) := by decide +kernel
theorem dX8_scanName_37 : decode cX8_scanName 37 = .ok (.bipush 8, 2) := by decide +kernel
theorem dX8_scanName_39 : decode cX8_scanName 39 = .ok (.lshl, 1) := by decide +kernel
theorem dX8_scanName_40 : decode cX8_scanName 40 = .ok (.iload 4, 2) := by decide +kernel
theorem dX8_scanName_42 : decode cX8_scanName 42 = .ok (.i2l, 1) := by decide +kernel
theorem dX8_scanName_43 : decode cX8_scanName 43 = .ok (.lor, 1) := by decide +kernel
theorem dX8_scanName_44 : decode cX8_scanName 44 = .ok (.lstore_n 2, 1) := by decide +kernel
theorem dX8_scanName_45 : decode cX8_scanName 45 = .ok (.iinc 1 1, 3) := by decide +kernel
theorem dX8_scanName_48 : decode cX8_scanName 48 = .ok (.aload_n 0, 1) := by decide +kernel
theorem dX8_scanName_49 : decode cX8_scanName 49 = .ok (.aload_n 0, 1) := by decide +kernel
theorem dX8_scanName_50 : decode cX8_scanName 50 = .ok (.getfield 29, 3) := by decide +kernel
theorem dX8_scanName_53 : decode cX8_scanName 53 = .ok (.iload_n 1, 1) := by decide +kernel
theorem dX8_scanName_54 : decode cX8_scanName 54 = .ok (.iadd, 1) := by decide +kernel
theorem dX8_scanName_55 : decode cX8_scanName 55 = .ok (.invokevirtual 32, 3) := by decide +kernel
theorem dX8_scanName_58 : decode cX8_scanName 58 = .ok (.istore 4, 2) := by decide +kernel
theorem dX8_scanName_60 : decode cX8_scanName 60 = .ok (.goto (-46), 3) := by decide +kernel
theorem dX8_scanName_63 : decode cX8_scanName 63 = .ok (.aload_n 0, 1) := by decide +kernel
theorem dX8_scanName_64 : decode cX8_scanName 64 = .ok (.lload_n 2, 1) := by decide +kernel
theorem dX8_scanName_65 : decode cX8_scanName 65 = .ok (.putfield 53, 3) := by decide +kernel
theorem dX8_scanName_68 : decode cX8_scanName 68 = .ok (.iload_n 1, 1) := by decide +kernel
theorem dX8_scanName_69 : decode cX8_scanName 69 = .ok (.bipush 6, 2) := by decide +kernel
theorem dX8_scanName_71 : decode cX8_scanName 71 = .ok (.if_icmp .le 12, 3) := by decide +kernel
theorem dX8_scanName_74 : decode cX8_scanName 74 = .ok (.aload_n 0, 1) := by decide +kernel
theorem dX8_scanName_75 : decode cX8_scanName 75 = .ok (.iconst (-1), 1) := by decide +kernel
theorem dX8_scanName_76 : decode cX8_scanName 76 = .ok (.iconst 0, 1) := by decide +kernel
theorem dX8_scanName_77 : decode cX8_scanName 77 = .ok (.invokevirtual 60, 3) := by decide +kernel
theorem dX8_scanName_80 : decode cX8_scanName 80 = .ok (.goto 46, 3) := by decide +kernel
theorem dX8_scanName_83 : decode cX8_scanName 83 = .ok (.lload_n 2, 1) := by decide +kernel
theorem dX8_scanName_84 : decode cX8_scanName 84 = .ok (.ldc2_w 73, 3) := by decide +kernel
theorem dX8_scanName_87 : decode cX8_scanName 87 = .ok (.lcmp, 1) := by decide +kernel
theorem dX8_scanName_88 : decode cX8_scanName 88 = .ok (.ifCond .ne 13, 3) := by decide +kernel
theorem dX8_scanName_91 : decode cX8_scanName 91 = .ok (.aload_n 0, 1) := by decide +kernel
theorem dX8_scanName_92 : decode cX8_scanName 92 = .ok (.bipush 116, 2) := by decide +kernel
theorem dX8_scanName_94 : decode cX8_scanName 94 = .ok (.iload_n 1, 1) := by decide +kernel
theorem dX8_scanName_95 : decode cX8_scanName 95 = .ok (.invokevirtual 60, 3) := by decide +kernel
theorem dX8_scanName_98 : decode cX8_scanName 98 = .ok (.goto 28, 3) := by decide +kernel
theorem dX8_scanName_101 : decode cX8_scanName 101 = .ok (.lload_n 2, 1) := by decide +kernel
theorem dX8_scanName_102 : decode cX8_scanName 102 = .ok (.ldc2_w 75, 3) := by decide +kernel
theorem dX8_scanName_105 : decode cX8_scanName 105 = .ok (.lcmp, 1) := by decide +kernel
theorem dX8_scanName_106 : decode cX8_scanName 106 = .ok (.ifCond .ne 13, 3) := by decide +kernel
theorem dX8_scanName_109 : decode cX8_scanName 109 = .ok (.aload_n 0, 1) := by decide +kernel
theorem dX8_scanName_110 : decode cX8_scanName 110 = .ok (.bipush 102, 2) := by decide +kernel
theorem dX8_scanName_112 : decode cX8_scanName 112 = .ok (.iload_n 1, 1) := by decide +kernel
theorem dX8_scanName_113 : decode cX8_scanName 113 = .ok (.invokevirtual 60, 3) := by decide +kernel
theorem dX8_scanName_116 : decode cX8_scanName 116 = .ok (.goto 10, 3) := by decide +kernel
theorem dX8_scanName_119 : decode cX8_scanName 119 = .ok (.aload_n 0, 1) := by decide +kernel
theorem dX8_scanName_120 : decode cX8_scanName 120 = .ok (.bipush 110, 2) := by decide +kernel
theorem dX8_scanName_122 : decode cX8_scanName 122 = .ok (.iload_n 1, 1) := by decide +kernel
theorem dX8_scanName_123 : decode cX8_scanName 123 = .ok (.invokevirtual 60, 3) := by decide +kernel
theorem dX8_scanName_126 : decode cX8_scanName 126 = .ok (.return_, 1) := by decide +kernel
theorem dX8_token_0 : decode cX8_token 0 = .ok (.aload_n 0, 1) := by decide +kernel
theorem dX8_token_1 : decode cX8_token 1 = .ok (.iload_n 1, 1) := by decide +kernel
theorem dX8_token_2 : decode cX8_token 2 = .ok (.putfield 50, 3) := by decide +kernel
theorem dX8_token_5 : decode cX8_token 5 = .ok (.aload_n 0, 1) := by decide +kernel
theorem dX8_token_6 : decode cX8_token 6 = .ok (.aload_n 0, 1) := by decide +kernel
theorem dX8_token_7 : decode cX8_token 7 = .ok (.getfield 29, 3) := by decide +kernel
theorem dX8_token_10 : decode cX8_token 10 = .ok (.iload_n 2, 1) := by decide +kernel
theorem dX8_token_11 : decode cX8_token 11 = .ok (.iadd, 1) := by decide +kernel
theorem dX8_token_12 : decode cX8_token 12 = .ok (.putfield 26, 3) := by decide +kernel
theorem dX8_token_15 : decode cX8_token 15 = .ok (.return_, 1) := by decide +kernel
theorem dX8_isBlank_0 : decode cX8_isBlank 0 = .ok (.iload_n 0, 1) := by decide +kernel
theorem dX8_isBlank_1 : decode cX8_isBlank 1 = .ok (.bipush 9, 2) := by decide +kernel
theorem dX8_isBlank_3 : decode cX8_isBlank 3 = .ok (.if_icmp .eq 21, 3) := by decide +kernel
theorem dX8_isBlank_6 : decode cX8_isBlank 6 = .ok (.iload_n 0, 1) := by decide +kernel
theorem dX8_isBlank_7 : decode cX8_isBlank 7 = .ok (.bipush 10, 2) := by decide +kernel
theorem dX8_isBlank_9 : decode cX8_isBlank 9 = .ok (.if_icmp .eq 15, 3) := by decide +kernel
theorem dX8_isBlank_12 : decode cX8_isBlank 12 = .ok (.iload_n 0, 1) := by decide +kernel
theorem dX8_isBlank_13 : decode cX8_isBlank 13 = .ok (.bipush 13, 2) := by decide +kernel
theorem dX8_isBlank_15 : decode cX8_isBlank 15 = .ok (.if_icmp .eq 9, 3) := by decide +kernel
theorem dX8_isBlank_18 : decode cX8_isBlank 18 = .ok (.iload_n 0, 1) := by decide +kernel
theorem dX8_isBlank_19 : decode cX8_isBlank 19 = .ok (.bipush 32, 2) := by decide +kernel
theorem dX8_isBlank_21 : decode cX8_isBlank 21 = .ok (.if_icmp .ne 7, 3) := by decide +kernel
theorem dX8_isBlank_24 : decode cX8_isBlank 24 = .ok (.iconst 1, 1) := by decide +kernel
theorem dX8_isBlank_25 : decode cX8_isBlank 25 = .ok (.goto 4, 3) := by decide +kernel
theorem dX8_isBlank_28 : decode cX8_isBlank 28 = .ok (.iconst 0, 1) := by decide +kernel
theorem dX8_isBlank_29 : decode cX8_isBlank 29 = .ok (.ireturn, 1) := by decide +kernel
theorem dX8_isLetter_0 : decode cX8_isLetter 0 = .ok (.iload_n 0, 1) := by decide +kernel
theorem dX8_isLetter_1 : decode cX8_isLetter 1 = .ok (.bipush 97, 2) := by decide +kernel
theorem dX8_isLetter_3 : decode cX8_isLetter 3 = .ok (.if_icmp .lt 13, 3) := by decide +kernel
theorem dX8_isLetter_6 : decode cX8_isLetter 6 = .ok (.iload_n 0, 1) := by decide +kernel
theorem dX8_isLetter_7 : decode cX8_isLetter 7 = .ok (.bipush 122, 2) := by decide +kernel
theorem dX8_isLetter_9 : decode cX8_isLetter 9 = .ok (.if_icmp .gt 7, 3) := by decide +kernel
theorem dX8_isLetter_12 : decode cX8_isLetter 12 = .ok (.iconst 1, 1) := by decide +kernel
theorem dX8_isLetter_13 : decode cX8_isLetter 13 = .ok (.goto 4, 3) := by decide +kernel
theorem dX8_isLetter_16 : decode cX8_isLetter 16 = .ok (.iconst 0, 1) := by decide +kernel
theorem dX8_isLetter_17 : decode cX8_isLetter 17 = .ok (.ireturn, 1) := by decide +kernel
theorem dX8_isDigit_0 : decode cX8_isDigit 0 = .ok (.iload_n 0, 1) := by decide +kernel
theorem dX8_isDigit_1 : decode cX8_isDigit 1 = .ok (.bipush 48, 2) := by decide +kernel
theorem dX8_isDigit_3 : decode cX8_isDigit 3 = .ok (.if_icmp .lt 13, 3) := by decide +kernel
theorem dX8_isDigit_6 : decode cX8_isDigit 6 = .ok (.iload_n 0, 1) := by decide +kernel
theorem dX8_isDigit_7 : decode cX8_isDigit 7 = .ok (.bipush 57, 2) := by decide +kernel
theorem dX8_isDigit_9 : decode cX8_isDigit 9 = .ok (.if_icmp .gt 7, 3) := by decide +kernel
theorem dX8_isDigit_12 : decode cX8_isDigit 12 = .ok (.iconst 1, 1) := by decide +kernel
theorem dX8_isDigit_13 : decode cX8_isDigit 13 = .ok (.goto 4, 3) := by decide +kernel
theorem dX8_isDigit_16 : decode cX8_isDigit 16 = .ok (.iconst 0, 1) := by decide +kernel
theorem dX8_isDigit_17 : decode cX8_isDigit 17 = .ok (.ireturn, 1) := by decide +kernel
