theorem dX11_init_0 : decode cX11_init 0 = .ok (.aload_n 0, 1) := by decide +kernel
theorem dX11_init_1 : decode cX11_init 1 = .ok (.invokespecial 1, 3) := by decide +kernel
theorem dX11_init_4 : decode cX11_init 4 = .ok (.aload_n 0, 1) := by decide +kernel
theorem dX11_init_5 : decode cX11_init 5 = .ok (.bipush 20, 2) := by decide +kernel
theorem dX11_init_7 : decode cX11_init 7 = .ok (.newarray .int, 2) := by decide +kernel
theorem dX11_init_9 : decode cX11_init 9 = .ok (.putfield 9, 3) := by decide +kernel
theorem dX11_init_12 : decode cX11_init 12 = .ok (.aload_n 0, 1) := by decide +kernel
theorem dX11_init_13 : decode cX11_init 13 = .ok (.new 13, 3) := by decide +kernel
theorem dX11_init_16 : decode cX11_init 16 = .ok (.dup, 1) := by decide +kernel
theorem dX11_init_17 : decode cX11_init 17 = .ok (.invokespecial 15, 3) := by decide +kernel
theorem dX11_init_20 : decode cX11_init 20 = .ok (.putfield 16, 3) := by decide +kernel
theorem dX11_init_23 : decode cX11_init 23 = .ok (.aload_n 0, 1) := by decide +kernel
theorem dX11_init_24 : decode cX11_init 24 = .ok (.new 20, 3) := by decide +kernel
theorem dX11_init_27 : decode cX11_init 27 = .ok (.dup, 1) := by decide +kernel
theorem dX11_init_28 : decode cX11_init 28 = .ok (.sipush 2000, 3) := by decide +kernel
theorem dX11_init_31 : decode cX11_init 31 = .ok (.invokespecial 22, 3) := by decide +kernel
theorem dX11_init_34 : decode cX11_init 34 = .ok (.putfield 25, 3) := by decide +kernel
theorem dX11_init_37 : decode cX11_init 37 = .ok (.aload_n 0, 1) := by decide +kernel
theorem dX11_init_38 : decode cX11_init 38 = .ok (.new 29, 3) := by decide +kernel
theorem dX11_init_41 : decode cX11_init 41 = .ok (.dup, 1) := by decide +kernel
theorem dX11_init_42 : decode cX11_init 42 = .ok (.aload_n 0, 1) := by decide +kernel
theorem dX11_init_43 : decode cX11_init 43 = .ok (.getfield 16, 3) := by decide +kernel
theorem dX11_init_46 : decode cX11_init 46 = .ok (.aload_n 0, 1) := by decide +kernel
theorem dX11_init_47 : decode cX11_init 47 = .ok (.getfield 25, 3) := by decide +kernel
theorem dX11_init_50 : decode cX11_init 50 = .ok (.invokespecial 31, 3) := by decide +kernel
theorem dX11_init_53 : decode cX11_init 53 = .ok (.putfield 34, 3) := by decide +kernel
theorem dX11_init_56 : decode cX11_init 56 = .ok (.aload_n 0, 1) := by decide +kernel
theorem dX11_init_57 : decode cX11_init 57 = .ok (.new 38, 3) := by decide +kernel
theorem dX11_init_60 : decode cX11_init 60 = .ok (.dup, 1) := by decide +kernel
theorem dX11_init_61 : decode cX11_init 61 = .ok (.aload_n 0, 1) := by decide +kernel
theorem dX11_init_62 : decode cX11_init 62 = .ok (.getfield 25, 3) := by decide +kernel
theorem dX11_init_65 : decode cX11_init 65 = .ok (.invokespecial 40, 3) := by decide +kernel
theorem dX11_init_68 : decode cX11_init 68 = .ok (.putfield 43, 3) := by decide +kernel
theorem dX11_init_71 : decode cX11_init 71 = .ok (.aload_n 0, 1) := by decide +kernel
theorem dX11_init_72 : decode cX11_init 72 = .ok (.new 47, 3) := by decide +kernel
theorem dX11_init_75 : decode cX11_init 75 = .ok (.dup, 1) := by decide +kernel
theorem dX11_init_76 : decode cX11_init 76 = .ok (.aload_n 0, 1) := by decide +kernel
theorem dX11_init_77 : decode cX11_init 77 = .ok (.getfield 25, 3) := by decide +kernel
theorem dX11_init_80 : decode cX11_init 80 = .ok (.invokespecial 49, 3) := by decide +kernel
theorem dX11_init_83 : decode cX11_init 83 = .ok (.putfield 50, 3) := by decide +kernel
theorem dX11_init_86 : decode cX11_init 86 = .ok (.aload_n 0, 1) := by decide +kernel
theorem dX11_init_87 : decode cX11_init 87 = .ok (.new 54, 3) := by decide +kernel
theorem dX11_init_90 : decode cX11_init 90 = .ok (.dup, 1) := by decide +kernel
theorem dX11_init_91 : decode cX11_init 91 = .ok (.aload_n 0, 1) := by decide +kernel
theorem dX11_init_92 : decode cX11_init 92 = .ok (.getfield 25, 3) := by decide +kernel
theorem dX11_init_95 : decode cX11_init 95 = .ok (.aload_n 0, 1) := by decide +kernel
theorem dX11_init_96 : decode cX11_init 96 = .ok (.getfield 34, 3) := by decide +kernel
theorem dX11_init_99 : decode cX11_init 99 = .ok (.getfield 56, 3) := by decide +kernel
theorem dX11_init_102 : decode cX11_init 102 = .ok (.invokespecial 60, 3) := by decide +kernel
theorem dX11_init_105 : decode cX11_init 105 = .ok (.putfield 63, 3) := by decide +kernel
theorem dX11_init_108 : decode cX11_init 108 = .ok (.aload_n 0, 1) := by decide +kernel
theorem dX11_init_109 : decode cX11_init 109 = .ok (.new 67, 3) := by decide +kernel
theorem dX11_init_112 : decode cX11_init 112 = .ok (.dup, 1) := by decide +kernel
theorem dX11_init_113 : decode cX11_init 113 = .ok (.aload_n 0, 1) := by decide +kernel
theorem dX11_init_114 : decode cX11_init 114 = .ok (.getfield 25, 3) := by decide +kernel
theorem dX11_init_117 : decode cX11_init 117 = .ok (.invokespecial 69, 3) := by decide +kernel
theorem dX11_init_120 : decode cX11_init 120 = .ok (.putfield 70, 3) := by decide +kernel
theorem dX11_init_123 : decode cX11_init 123 = .ok (.aload_n 0, 1) := by decide +kernel
theorem dX11_init_124 : decode cX11_init 124 = .ok (.new 74, 3) := by decide +kernel
theorem dX11_init_127 : decode cX11_init 127 = .ok (.dup, 1) := by decide +kernel
theorem dX11_init_128 : decode cX11_init 128 = .ok (.aload_n 0, 1) := by decide +kernel
theorem dX11_init_129 : decode cX11_init 129 = .ok (.getfield 25, 3) := by decide +kernel
theorem dX11_init_132 : decode cX11_init 132 = .ok (.invokespecial 76, 3) := by decide +kernel
theorem dX11_init_135 : decode cX11_init 135 = .ok (.putfield 77, 3) := by decide +kernel
theorem dX11_init_138 : decode cX11_init 138 = .ok (.return_, 1) := by decide +kernel
theorem dX11_feed_0 : decode cX11_feed 0 = .ok (.iload_n 3, 1) := by decide +kernel
theorem dX11_feed_1 : decode cX11_feed 1 = .ok (.ifCond .lt 9, 3) := by decide +kernel
theorem dX11_feed_4 : decode cX11_feed 4 = .ok (.iload_n 3, 1) := by decide +kernel
theorem dX11_feed_5 : decode cX11_feed 5 = .ok (.bipush 8, 2) := by decide +kernel
theorem dX11_feed_7 : decode cX11_feed 7 = .ok (.if_icmp .le 6, 3) := by decide +kernel
theorem dX11_feed_10 : decode cX11_feed 10 = .ok (.bipush (-2), 2) := by decide +kernel
theorem dX11_feed_12 : decode cX11_feed 12 = .ok (.ireturn, 1) := by decide +kernel
theorem dX11_feed_13 : decode cX11_feed 13 = .ok (.iload_n 3, 1) := by decide +kernel
theorem dX11_feed_14 : decode cX11_feed 14 = .ok (.ifCond .ne 12, 3) := by decide +kernel
theorem dX11_feed_17 : decode cX11_feed 17 = .ok (.aload_n 0, 1) := by decide +kernel
theorem dX11_feed_18 : decode cX11_feed 18 = .ok (.getfield 16, 3) := by decide +kernel
theorem dX11_feed_21 : decode cX11_feed 21 = .ok (.invokevirtual 81, 3) := by decide +kernel
theorem dX11_feed_24 : decode cX11_feed 24 = .ok (.iconst 0, 1) := by decide +kernel
theorem dX11_feed_25 : decode cX11_feed 25 = .ok (.ireturn, 1) := by decide +kernel
theorem dX11_feed_26 : decode cX11_feed 26 = .ok (.aload_n 0, 1) := by decide +kernel
theorem dX11_feed_27 : decode cX11_feed 27 = .ok (.getfield 16, 3) := by decide +kernel
theorem dX11_feed_30 : decode cX11_feed 30 = .ok (.lload_n 1, 1) := by decide +kernel
theorem dX11_feed_31 : decode cX11_feed 31 = .ok (.iload_n 3, 1) := by decide +kernel
theorem dX11_feed_32 : decode cX11_feed 32 = .ok (.invokevirtual 84, 3) := by decide +kernel
theorem dX11_feed_35 : decode cX11_feed 35 = .ok (.ireturn, 1) := by decide +kernel
theorem dX11_read_0 : decode cX11_read 0 = .ok (.aload_n 0, 1) := by decide +kernel
theorem dX11_read_1 : decode cX11_read 1 = .ok (.getfield 34, 3) := by decide +kernel
theorem dX11_read_4 : decode cX11_read 4 = .ok (.invokevirtual 88, 3) := by decide +kernel
theorem dX11_read_7 : decode cX11_read 7 = .ok (.istore_n 1, 1) := by decide +kernel
theorem dX11_read_8 : decode cX11_read 8 = .ok (.aload_n 0, 1) := by decide +kernel
theorem dX11_read_9 : decode cX11_read 9 = .ok (.getfield 34, 3) := by decide +kernel
theorem dX11_read_12 : decode cX11_read 12 = .ok (.getfield 92, 3) := by decide +kernel
theorem dX11_read_15 : decode cX11_read 15 = .ok (.ifCond .ne 7, 3) := by decide +kernel
theorem dX11_read_18 : decode cX11_read 18 = .ok (.iload_n 1, 1) := by decide +kernel
theorem dX11_read_19 : decode cX11_read 19 = .ok (.goto 13, 3) := by decide +kernel
theorem dX11_read_22 : decode cX11_read 22 = .ok (.bipush (-10), 2) := by decide +kernel
theorem dX11_read_24 : decode cX11_read 24 = .ok (.aload_n 0, 1) := by decide +kernel
theorem dX11_read_25 : decode cX11_read 25 = .ok (.getfield 34, 3) := by decide +kernel
theorem dX11_read_28 : decode cX11_read 28 = .ok (.getfield 92, 3) := by decide +kernel
theorem dX11_read_31 : decode cX11_read 31 = .ok (.isub, 1) := by decide +kernel
theorem dX11_read_32 : decode cX11_read 32 = .ok (.ireturn, 1) := by decide +kernel
theorem dX11_place_0 : decode cX11_place 0 = .ok (.aload_n 0, 1) := by decide +kernel
theorem dX11_place_1 : decode cX11_place 1 = .ok (.getfield 34, 3) := by decide +kernel
theorem dX11_place_4 : decode cX11_place 4 = .ok (.getfield 96, 3) := by decide +kernel
theorem dX11_place_7 : decode cX11_place 7 = .ok (.ireturn, 1) := by decide +kernel
theorem dX11_count_0 : decode cX11_count 0 = .ok (.iload_n 1, 1) := by decide +kernel
theorem dX11_count_1 : decode cX11_count 1 = .ok (.tableswitch 60 0 3 #[31, 39, 47, 52], 31) := by decide +kernel
theorem dX11_count_32 : decode cX11_count 32 = .ok (.aload_n 0, 1) := by decide +kernel
theorem dX11_count_33 : decode cX11_count 33 = .ok (.getfield 25, 3) := by decide +kernel
theorem dX11_count_36 : decode cX11_count 36 = .ok (.invokevirtual 99, 3) := by decide +kernel
theorem dX11_count_39 : decode cX11_count 39 = .ok (.ireturn, 1) := by decide +kernel
theorem dX11_count_40 : decode cX11_count 40 = .ok (.aload_n 0, 1) := by decide +kernel
theorem dX11_count_41 : decode cX11_count 41 = .ok (.getfield 25, 3) := by decide +kernel
theorem dX11_count_44 : decode cX11_count 44 = .ok (.invokevirtual 102, 3) := by decide +kernel
theorem dX11_count_47 : decode cX11_count 47 = .ok (.ireturn, 1) := by decide +kernel
theorem dX11_count_48 : decode cX11_count 48 = .ok (.aload_n 0, 1) := by decide +kernel
theorem dX11_count_49 : decode cX11_count 49 = .ok (.getfield 105, 3) := by decide +kernel
theorem dX11_count_52 : decode cX11_count 52 = .ok (.ireturn, 1) := by decide +kernel
theorem dX11_count_53 : decode cX11_count 53 = .ok (.aload_n 0, 1) := by decide +kernel
theorem dX11_count_54 : decode cX11_count 54 = .ok (.getfield 77, 3) := by decide +kernel
theorem dX11_count_57 : decode cX11_count 57 = .ok (.invokevirtual 108, 3) := by decide +kernel
theorem dX11_count_60 : decode cX11_count 60 = .ok (.ireturn, 1) := by decide +kernel
theorem dX11_count_61 : decode cX11_count 61 = .ok (.bipush (-2), 2) := by decide +kernel
theorem dX11_count_63 : decode cX11_count 63 = .ok (.ireturn, 1) := by decide +kernel
theorem dX11_formula_0 : decode cX11_formula 0 = .ok (.aload_n 0, 1) := by decide +kernel
theorem dX11_formula_1 : decode cX11_formula 1 = .ok (.getfield 25, 3) := by decide +kernel
theorem dX11_formula_4 : decode cX11_formula 4 = .ok (.iload_n 1, 1) := by decide +kernel
theorem dX11_formula_5 : decode cX11_formula 5 = .ok (.invokevirtual 109, 3) := by decide +kernel
theorem dX11_formula_8 : decode cX11_formula 8 = .ok (.ifCond .ne 5, 3) := by decide +kernel
theorem dX11_formula_11 : decode cX11_formula 11 = .ok (.iconst (-1), 1) := by decide +kernel
theorem dX11_formula_12 : decode cX11_formula 12 = .ok (.ireturn, 1) := by decide +kernel
theorem dX11_formula_13 : decode cX11_formula 13 = .ok (.iload_n 2, 1) := by decide +kernel
theorem dX11_formula_14 : decode cX11_formula 14 = .ok (.tableswitch 53 0 2 #[26, 35, 44], 26) := by decide +kernel
theorem dX11_formula_40 : decode cX11_formula 40 = .ok (.aload_n 0, 1) := by decide +kernel
theorem dX11_formula_41 : decode cX11_formula 41 = .ok (.getfield 25, 3) := by decide +kernel
theorem dX11_formula_44 : decode cX11_formula 44 = .ok (.iload_n 1, 1) := by decide +kernel
theorem dX11_formula_45 : decode cX11_formula 45 = .ok (.invokevirtual 113, 3) := by decide +kernel
theorem dX11_formula_48 : decode cX11_formula 48 = .ok (.ireturn, 1) := by decide +kernel
theorem dX11_formula_49 : decode cX11_formula 49 = .ok (.aload_n 0, 1) := by decide +kernel
theorem dX11_formula_50 : decode cX11_formula 50 = .ok (.getfield 25, 3) := by decide +kernel
theorem dX11_formula_53 : decode cX11_formula 53 = .ok (.iload_n 1, 1) := by decide +kernel
theorem dX11_formula_54 : decode cX11_formula 54 = .ok (.invokevirtual 117, 3) := by decide +kernel
theorem dX11_formula_57 : decode cX11_formula 57 = .ok (.ireturn, 1) := by decide +kernel
theorem dX11_formula_58 : decode cX11_formula 58 = .ok (.aload_n 0, 1) := by decide +kernel
theorem dX11_formula_59 : decode cX11_formula 59 = .ok (.getfield 25, 3) := by decide +kernel
theorem dX11_formula_62 : decode cX11_formula 62 = .ok (.iload_n 1, 1) := by decide +kernel
theorem dX11_formula_63 : decode cX11_formula 63 = .ok (.invokevirtual 120, 3) := by decide +kernel
theorem dX11_formula_66 : decode cX11_formula 66 = .ok (.ireturn, 1) := by decide +kernel
theorem dX11_formula_67 : decode cX11_formula 67 = .ok (.bipush (-2), 2) := by decide +kernel
theorem dX11_formula_69 : decode cX11_formula 69 = .ok (.ireturn, 1) := by decide +kernel
theorem dX11_make_0 : decode cX11_make 0 = .ok (.aload_n 0, 1) := by decide +kernel
theorem dX11_make_1 : decode cX11_make 1 = .ok (.getfield 25, 3) := by decide +kernel
theorem dX11_make_4 : decode cX11_make 4 = .ok (.iload_n 2, 1) := by decide +kernel
theorem dX11_make_5 : decode cX11_make 5 = .ok (.invokevirtual 109, 3) := by decide +kernel
theorem dX11_make_8 : decode cX11_make 8 = .ok (.ifCond .eq 14, 3) := by decide +kernel
theorem dX11_make_11 : decode cX11_make 11 = .ok (.aload_n 0, 1) := by decide +kernel
theorem dX11_make_12 : decode cX11_make 12 = .ok (.getfield 25, 3) := by decide +kernel
theorem dX11_make_15 : decode cX11_make 15 = .ok (.iload_n 3, 1) := by decide +kernel
theorem dX11_make_16 : decode cX11_make 16 = .ok (.invokevirtual 109, 3) := by decide +kernel
theorem dX11_make_19 : decode cX11_make 19 = .ok (.ifCond .ne 5, 3) := by decide +kernel
theorem dX11_make_22 : decode cX11_make 22 = .ok (.iconst (-1), 1) := by decide +kernel
theorem dX11_make_23 : decode cX11_make 23 = .ok (.ireturn, 1) := by decide +kernel
theorem dX11_make_24 : decode cX11_make 24 = .ok (.iload_n 1, 1) := by decide +kernel
theorem dX11_make_25 : decode cX11_make 25 = .ok (.iconst 3, 1) := by decide +kernel
theorem dX11_make_26 : decode cX11_make 26 = .ok (.if_icmp .eq 16, 3) := by decide +kernel
theorem dX11_make_29 : decode cX11_make 29 = .ok (.iload_n 1, 1) := by decide +kernel
theorem dX11_make_30 : decode cX11_make 30 = .ok (.iconst 4, 1) := by decide +kernel
theorem dX11_make_31 : decode cX11_make 31 = .ok (.if_icmp .eq 11, 3) := by decide +kernel
theorem dX11_make_34 : decode cX11_make 34 = .ok (.iload_n 1, 1) := by decide +kernel
theorem dX11_make_35 : decode cX11_make 35 = .ok (.iconst 5, 1) := by decide +kernel
theorem dX11_make_36 : decode cX11_make 36 = .ok (.if_icmp .eq 6, 3) := by decide +kernel
theorem dX11_make_39 : decode cX11_make 39 = .ok (.bipush (-2), 2) := by decide +kernel
theorem dX11_make_41 : decode cX11_make 41 = .ok (.ireturn, 1) := by decide +kernel
theorem dX11_make_42 : decode cX11_make 42 = .ok (.aload_n 0, 1) := by decide +kernel
theorem dX11_make_43 : decode cX11_make 43 = .ok (.getfield 25, 3) := by decide +kernel
theorem dX11_make_46 : decode cX11_make 46 = .ok (.iload_n 1, 1) := by decide +kernel
theorem dX11_make_47 : decode cX11_make 47 = .ok (.iload_n 2, 1) := by decide +kernel
theorem dX11_make_48 : decode cX11_make 48 = .ok (.iload_n 3, 1) := by decide +kernel
theorem dX11_make_49 : decode cX11_make 49 = .ok (.invokevirtual 123, 3) := by decide +kernel
theorem dX11_make_52 : decode cX11_make 52 = .ok (.istore 4, 2) := by decide +kernel
theorem dX11_make_54 : decode cX11_make 54 = .ok (.iload 4, 2) := by decide +kernel
theorem dX11_make_56 : decode cX11_make 56 = .ok (.ifCond .ge 8, 3) := by decide +kernel
theorem dX11_make_59 : decode cX11_make 59 = .ok (.bipush (-4), 2) := by decide +kernel
theorem dX11_make_61 : decode cX11_make 61 = .ok (.goto 5, 3) := by decide +kernel
theorem dX11_make_64 : decode cX11_make 64 = .ok (.iload 4, 2) := by decide +kernel
theorem dX11_make_66 : decode cX11_make 66 = .ok (.ireturn, 1) := by decide +kernel
theorem dX11_write_0 : decode cX11_write 0 = .ok (.aload_n 0, 1) := by decide +kernel
theorem dX11_write_1 : decode cX11_write 1 = .ok (.getfield 25, 3) := by decide +kernel
theorem dX11_write_4 : decode cX11_write 4 = .ok (.iload_n 1, 1) := by decide +kernel
theorem dX11_write_5 : decode cX11_write 5 = .ok (.invokevirtual 109, 3) := by decide +kernel
theorem dX11_write_8 : decode cX11_write 8 = .ok (.ifCond .eq 14, 3) := by decide +kernel
theorem dX11_write_11 : decode cX11_write 11 = .ok (.aload_n 0, 1) := by decide +kernel
theorem dX11_write_12 : decode cX11_write 12 = .ok (.getfield 43, 3) := by decide +kernel
theorem dX11_write_15 : decode cX11_write 15 = .ok (.iload_n 1, 1) := by decide +kernel
theorem dX11_write_16 : decode cX11_write 16 = .ok (.invokevirtual 127, 3) := by decide +kernel
theorem dX11_write_19 : decode cX11_write 19 = .ok (.goto 4, 3) := by decide +kernel
theorem dX11_write_22 : decode cX11_write 22 = .ok (.iconst (-1), 1) := by decide +kernel
theorem dX11_write_23 : decode cX11_write 23 = .ok (.ireturn, 1) := by decide +kernel
theorem dX11_octet_0 : decode cX11_octet 0 = .ok (.aload_n 0, 1) := by decide +kernel
theorem dX11_octet_1 : decode cX11_octet 1 = .ok (.getfield 43, 3) := by decide +kernel
theorem dX11_octet_4 : decode cX11_octet 4 = .ok (.iload_n 1, 1) := by decide +kernel
theorem dX11_octet_5 : decode cX11_octet 5 = .ok (.invokevirtual 129, 3) := by decide +kernel
theorem dX11_octet_8 : decode cX11_octet 8 = .ok (.ireturn, 1) := by decide +kernel
theorem dX11_given_0 : decode cX11_given 0 = .ok (.aload_n 0, 1) := by decide +kernel
theorem dX11_given_1 : decode cX11_given 1 = .ok (.getfield 25, 3) := by decide +kernel
theorem dX11_given_4 : decode cX11_given 4 = .ok (.iload_n 1, 1) := by decide +kernel
theorem dX11_given_5 : decode cX11_given 5 = .ok (.invokevirtual 109, 3) := by decide +kernel
theorem dX11_given_8 : decode cX11_given 8 = .ok (.ifCond .ne 5, 3) := by decide +kernel
theorem dX11_given_11 : decode cX11_given 11 = .ok (.iconst (-1), 1) := by decide +kernel
theorem dX11_given_12 : decode cX11_given 12 = .ok (.ireturn, 1) := by decide +kernel
theorem dX11_given_13 : decode cX11_given 13 = .ok (.aload_n 0, 1) := by decide +kernel
theorem dX11_given_14 : decode cX11_given 14 = .ok (.getfield 105, 3) := by decide +kernel
theorem dX11_given_17 : decode cX11_given 17 = .ok (.ifCond .lt 12, 3) := by decide +kernel
theorem dX11_given_20 : decode cX11_given 20 = .ok (.aload_n 0, 1) := by decide +kernel
theorem dX11_given_21 : decode cX11_given 21 = .ok (.getfield 105, 3) := by decide +kernel
theorem dX11_given_24 : decode cX11_given 24 = .ok (.bipush 20, 2) := by decide +kernel
theorem dX11_given_26 : decode cX11_given 26 = .ok (.if_icmp .lt 6, 3) := by decide +kernel
theorem dX11_given_29 : decode cX11_given 29 = .ok (.bipush (-4), 2) := by decide +kernel
theorem dX11_given_31 : decode cX11_given 31 = .ok (.ireturn, 1) := by decide +kernel
theorem dX11_given_32 : decode cX11_given 32 = .ok (.aload_n 0, 1) := by decide +kernel
theorem dX11_given_33 : decode cX11_given 33 = .ok (.getfield 9, 3) := by decide +kernel
theorem dX11_given_36 : decode cX11_given 36 = .ok (.aload_n 0, 1) := by decide +kernel
theorem dX11_given_37 : decode cX11_given 37 = .ok (.getfield 105, 3) := by decide +kernel
theorem dX11_given_40 : decode cX11_given 40 = .ok (.iload_n 1, 1) := by decide +kernel
theorem dX11_given_41 : decode cX11_given 41 = .ok (.iastore, 1) := by decide +kernel
theorem dX11_given_42 : decode cX11_given 42 = .ok (.aload_n 0, 1) := by decide +kernel
theorem dX11_given_43 : decode cX11_given 43 = .ok (.dup, 1) := by decide +kernel
theorem dX11_given_44 : decode cX11_given 44 = .ok (.getfield 105, 3) := by decide +kernel
theorem dX11_given_47 : decode cX11_given 47 = .ok (.iconst 1, 1) := by decide +kernel
theorem dX11_given_48 : decode cX11_given 48 = .ok (.iadd, 1) := by decide +kernel
theorem dX11_given_49 : decode cX11_given 49 = .ok (.putfield 105, 3) := by decide +kernel
theorem dX11_given_52 : decode cX11_given 52 = .ok (.aload_n 0, 1) := by decide +kernel
theorem dX11_given_53 : decode cX11_given 53 = .ok (.getfield 105, 3) := by decide +kernel
theorem dX11_given_56 : decode cX11_given 56 = .ok (.ireturn, 1) := by decide +kernel
theorem dX11_forget_0 : decode cX11_forget 0 = .ok (.aload_n 0, 1) := by decide +kernel
theorem dX11_forget_1 : decode cX11_forget 1 = .ok (.getfield 105, 3) := by decide +kernel
theorem dX11_forget_4 : decode cX11_forget 4 = .ok (.istore_n 1, 1) := by decide +kernel
theorem dX11_forget_5 : decode cX11_forget 5 = .ok (.aload_n 0, 1) := by decide +kernel
theorem dX11_forget_6 : decode cX11_forget 6 = .ok (.iconst 0, 1) := by decide +kernel
theorem dX11_forget_7 : decode cX11_forget 7 = .ok (.putfield 105, 3) := by decide +kernel
theorem dX11_forget_10 : decode cX11_forget 10 = .ok (.iload_n 1, 1) := by decide +kernel
theorem dX11_forget_11 : decode cX11_forget 11 = .ok (.ireturn, 1) := by decide +kernel
theorem dX11_prove_0 : decode cX11_prove 0 = .ok (.aload_n 0, 1) := by decide +kernel
theorem dX11_prove_1 : decode cX11_prove 1 = .ok (.getfield 25, 3) := by decide +kernel
theorem dX11_prove_4 : decode cX11_prove 4 = .ok (.iload_n 1, 1) := by decide +kernel
theorem dX11_prove_5 : decode cX11_prove 5 = .ok (.invokevirtual 109, 3) := by decide +kernel
theorem dX11_prove_8 : decode cX11_prove 8 = .ok (.ifCond .ne 5, 3) := by decide +kernel
theorem dX11_prove_11 : decode cX11_prove 11 = .ok (.iconst (-1), 1) := by decide +kernel
theorem dX11_prove_12 : decode cX11_prove 12 = .ok (.ireturn, 1) := by decide +kernel
theorem dX11_prove_13 : decode cX11_prove 13 = .ok (.iload_n 2, 1) := by decide +kernel
theorem dX11_prove_14 : decode cX11_prove 14 = .ok (.ifCond .lt 10, 3) := by decide +kernel
theorem dX11_prove_17 : decode cX11_prove 17 = .ok (.iload_n 2, 1) := by decide +kernel
theorem dX11_prove_18 : decode cX11_prove 18 = .ok (.sipush 2000, 3) := by decide +kernel
theorem dX11_prove_21 : decode cX11_prove 21 = .ok (.if_icmp .le 6, 3) := by decide +kernel
theorem dX11_prove_24 : decode cX11_prove 24 = .ok (.bipush (-2), 2) := by decide +kernel
theorem dX11_prove_26 : decode cX11_prove 26 = .ok (.ireturn, 1) := by decide +kernel
theorem dX11_prove_27 : decode cX11_prove 27 = .ok (.aload_n 0, 1) := by decide +kernel
theorem dX11_prove_28 : decode cX11_prove 28 = .ok (.getfield 50, 3) := by decide +kernel
theorem dX11_prove_31 : decode cX11_prove 31 = .ok (.aload_n 0, 1) := by decide +kernel
theorem dX11_prove_32 : decode cX11_prove 32 = .ok (.getfield 9, 3) := by decide +kernel
theorem dX11_prove_35 : decode cX11_prove 35 = .ok (.aload_n 0, 1) := by decide +kernel
theorem dX11_prove_36 : decode cX11_prove 36 = .ok (.getfield 105, 3) := by decide +kernel
theorem dX11_prove_39 : decode cX11_prove 39 = .ok (.iload_n 1, 1) := by decide +kernel
theorem dX11_prove_40 : decode cX11_prove 40 = .ok (.iload_n 2, 1) := by decide +kernel
theorem dX11_prove_41 : decode cX11_prove 41 = .ok (.invokevirtual 132, 3) := by decide +kernel
theorem dX11_prove_44 : decode cX11_prove 44 = .ok (.ireturn, 1) := by decide +kernel
theorem dX11_told_0 : decode cX11_told 0 = .ok (.iload_n 1, 1) := by decide +kernel
theorem dX11_told_1 : decode cX11_told 1 = .ok (.tableswitch 66 0 3 #[31, 39, 50, 58], 31) := by decide +kernel
theorem dX11_told_32 : decode cX11_told 32 = .ok (.aload_n 0, 1) := by decide +kernel
theorem dX11_told_33 : decode cX11_told 33 = .ok (.getfield 50, 3) := by decide +kernel
theorem dX11_told_36 : decode cX11_told 36 = .ok (.getfield 136, 3) := by decide +kernel
theorem dX11_told_39 : decode cX11_told 39 = .ok (.ireturn, 1) := by decide +kernel
theorem dX11_told_40 : decode cX11_told 40 = .ok (.aload_n 0, 1) := by decide +kernel
theorem dX11_told_41 : decode cX11_told 41 = .ok (.getfield 50, 3) := by decide +kernel
theorem dX11_told_44 : decode cX11_told 44 = .ok (.getfield 139, 3) := by decide +kernel
theorem dX11_told_47 : decode cX11_told 47 = .ok (.getfield 143, 3) := by decide +kernel
theorem dX11_told_50 : decode cX11_told 50 = .ok (.ireturn, 1) := by decide +kernel
theorem dX11_told_51 : decode cX11_told 51 = .ok (.aload_n 0, 1) := by decide +kernel
theorem dX11_told_52 : decode cX11_told 52 = .ok (.getfield 50, 3) := by decide +kernel
theorem dX11_told_55 : decode cX11_told 55 = .ok (.getfield 148, 3) := by decide +kernel
theorem dX11_told_58 : decode cX11_told 58 = .ok (.ireturn, 1) := by decide +kernel
theorem dX11_told_59 : decode cX11_told 59 = .ok (.aload_n 0, 1) := by decide +kernel
theorem dX11_told_60 : decode cX11_told 60 = .ok (.getfield 50, 3) := by decide +kernel
theorem dX11_told_63 : decode cX11_told 63 = .ok (.getfield 151, 3) := by decide +kernel
theorem dX11_told_66 : decode cX11_told 66 = .ok (.ireturn, 1) := by decide +kernel
theorem dX11_told_67 : decode cX11_told 67 = .ok (.bipush (-2), 2) := by decide +kernel
theorem dX11_told_69 : decode cX11_told 69 = .ok (.ireturn, 1) := by decide +kernel
theorem dX11_proof_0 : decode cX11_proof 0 = .ok (.aload_n 0, 1) := by decide +kernel
theorem dX11_proof_1 : decode cX11_proof 1 = .ok (.getfield 50, 3) := by decide +kernel
theorem dX11_proof_4 : decode cX11_proof 4 = .ok (.getfield 151, 3) := by decide +kernel
theorem dX11_proof_7 : decode cX11_proof 7 = .ok (.iconst 1, 1) := by decide +kernel
theorem dX11_proof_8 : decode cX11_proof 8 = .ok (.if_icmp .eq 6, 3) := by decide +kernel
theorem dX11_proof_11 : decode cX11_proof 11 = .ok (.bipush (-3), 2) := by decide +kernel
theorem dX11_proof_13 : decode cX11_proof 13 = .ok (.ireturn, 1) := by decide +kernel
theorem dX11_proof_14 : decode cX11_proof 14 = .ok (.aload_n 0, 1) := by decide +kernel
theorem dX11_proof_15 : decode cX11_proof 15 = .ok (.getfield 43, 3) := by decide +kernel
theorem dX11_proof_18 : decode cX11_proof 18 = .ok (.aload_n 0, 1) := by decide +kernel
theorem dX11_proof_19 : decode cX11_proof 19 = .ok (.getfield 50, 3) := by decide +kernel
theorem dX11_proof_22 : decode cX11_proof 22 = .ok (.getfield 154, 3) := by decide +kernel
theorem dX11_proof_25 : decode cX11_proof 25 = .ok (.aload_n 0, 1) := by decide +kernel
theorem dX11_proof_26 : decode cX11_proof 26 = .ok (.getfield 50, 3) := by decide +kernel
theorem dX11_proof_29 : decode cX11_proof 29 = .ok (.getfield 155, 3) := by decide +kernel
theorem dX11_proof_32 : decode cX11_proof 32 = .ok (.aload_n 0, 1) := by decide +kernel
theorem dX11_proof_33 : decode cX11_proof 33 = .ok (.getfield 50, 3) := by decide +kernel
theorem dX11_proof_36 : decode cX11_proof 36 = .ok (.getfield 158, 3) := by decide +kernel
theorem dX11_proof_39 : decode cX11_proof 39 = .ok (.invokevirtual 159, 3) := by decide +kernel
theorem dX11_proof_42 : decode cX11_proof 42 = .ok (.ireturn, 1) := by decide +kernel
theorem dX11_check_0 : decode cX11_check 0 = .ok (.aload_n 0, 1) := by decide +kernel
theorem dX11_check_1 : decode cX11_check 1 = .ok (.getfield 25, 3) := by decide +kernel
theorem dX11_check_4 : decode cX11_check 4 = .ok (.iload_n 1, 1) := by decide +kernel
theorem dX11_check_5 : decode cX11_check 5 = .ok (.invokevirtual 109, 3) := by decide +kernel
theorem dX11_check_8 : decode cX11_check 8 = .ok (.ifCond .ne 5, 3) := by decide +kernel
theorem dX11_check_11 : decode cX11_check 11 = .ok (.iconst (-1), 1) := by decide +kernel
theorem dX11_check_12 : decode cX11_check 12 = .ok (.ireturn, 1) := by decide +kernel
theorem dX11_check_13 : decode cX11_check 13 = .ok (.aload_n 0, 1) := by decide +kernel
theorem dX11_check_14 : decode cX11_check 14 = .ok (.getfield 34, 3) := by decide +kernel
theorem dX11_check_17 : decode cX11_check 17 = .ok (.aload_n 0, 1) := by decide +kernel
theorem dX11_check_18 : decode cX11_check 18 = .ok (.getfield 105, 3) := by decide +kernel
theorem dX11_check_21 : decode cX11_check 21 = .ok (.invokevirtual 163, 3) := by decide +kernel
theorem dX11_check_24 : decode cX11_check 24 = .ok (.istore_n 2, 1) := by decide +kernel
theorem dX11_check_25 : decode cX11_check 25 = .ok (.aload_n 0, 1) := by decide +kernel
theorem dX11_check_26 : decode cX11_check 26 = .ok (.getfield 34, 3) := by decide +kernel
theorem dX11_check_29 : decode cX11_check 29 = .ok (.getfield 92, 3) := by decide +kernel
theorem dX11_check_32 : decode cX11_check 32 = .ok (.ifCond .eq 14, 3) := by decide +kernel
theorem dX11_check_35 : decode cX11_check 35 = .ok (.bipush (-10), 2) := by decide +kernel
theorem dX11_check_37 : decode cX11_check 37 = .ok (.aload_n 0, 1) := by decide +kernel
theorem dX11_check_38 : decode cX11_check 38 = .ok (.getfield 34, 3) := by decide +kernel
theorem dX11_check_41 : decode cX11_check 41 = .ok (.getfield 92, 3) := by decide +kernel
theorem dX11_check_44 : decode cX11_check 44 = .ok (.isub, 1) := by decide +kernel
theorem dX11_check_45 : decode cX11_check 45 = .ok (.ireturn, 1) := by decide +kernel
theorem dX11_check_46 : decode cX11_check 46 = .ok (.aload_n 0, 1) := by decide +kernel
theorem dX11_check_47 : decode cX11_check 47 = .ok (.getfield 63, 3) := by decide +kernel
theorem dX11_check_50 : decode cX11_check 50 = .ok (.iload_n 2, 1) := by decide +kernel
theorem dX11_check_51 : decode cX11_check 51 = .ok (.iload_n 1, 1) := by decide +kernel
theorem dX11_check_52 : decode cX11_check 52 = .ok (.aload_n 0, 1) := by decide +kernel
theorem dX11_check_53 : decode cX11_check 53 = .ok (.getfield 9, 3) := by decide +kernel
theorem dX11_check_56 : decode cX11_check 56 = .ok (.aload_n 0, 1) := by decide +kernel
theorem dX11_check_57 : decode cX11_check 57 = .ok (.getfield 105, 3) := by decide +kernel
theorem dX11_check_60 : decode cX11_check 60 = .ok (.invokevirtual 165, 3) := by decide +kernel
theorem dX11_check_63 : decode cX11_check 63 = .ok (.ifCond .eq 7, 3) := by decide +kernel
theorem dX11_check_66 : decode cX11_check 66 = .ok (.iconst 1, 1) := by decide +kernel
theorem dX11_check_67 : decode cX11_check 67 = .ok (.goto 4, 3) := by decide +kernel
theorem dX11_check_70 : decode cX11_check 70 = .ok (.iconst 0, 1) := by decide +kernel
theorem dX11_check_71 : decode cX11_check 71 = .ok (.ireturn, 1) := by decide +kernel
theorem dX11_classical_0 : decode cX11_classical 0 = .ok (.aload_n 0, 1) := by decide +kernel
theorem dX11_classical_1 : decode cX11_classical 1 = .ok (.getfield 25, 3) := by decide +kernel
theorem dX11_classical_4 : decode cX11_classical 4 = .ok (.iload_n 1, 1) := by decide +kernel
theorem dX11_classical_5 : decode cX11_classical 5 = .ok (.invokevirtual 109, 3) := by decide +kernel
theorem dX11_classical_8 : decode cX11_classical 8 = .ok (.ifCond .eq 14, 3) := by decide +kernel
theorem dX11_classical_11 : decode cX11_classical 11 = .ok (.aload_n 0, 1) := by decide +kernel
theorem dX11_classical_12 : decode cX11_classical 12 = .ok (.getfield 70, 3) := by decide +kernel
theorem dX11_classical_15 : decode cX11_classical 15 = .ok (.iload_n 1, 1) := by decide +kernel
theorem dX11_classical_16 : decode cX11_classical 16 = .ok (.invokevirtual 169, 3) := by decide +kernel
theorem dX11_classical_19 : decode cX11_classical 19 = .ok (.goto 4, 3) := by decide +kernel
theorem dX11_classical_22 : decode cX11_classical 22 = .ok (.iconst (-1), 1) := by decide +kernel
theorem dX11_classical_23 : decode cX11_classical 23 = .ok (.ireturn, 1) := by decide +kernel
theorem dX11_refute_0 : decode cX11_refute 0 = .ok (.aload_n 0, 1) := by decide +kernel
theorem dX11_refute_1 : decode cX11_refute 1 = .ok (.getfield 50, 3) := by decide +kernel
theorem dX11_refute_4 : decode cX11_refute 4 = .ok (.getfield 151, 3) := by decide +kernel
theorem dX11_refute_7 : decode cX11_refute 7 = .ok (.ifCond .eq 6, 3) := by decide +kernel
theorem dX11_refute_10 : decode cX11_refute 10 = .ok (.bipush (-3), 2) := by decide +kernel
theorem dX11_refute_12 : decode cX11_refute 12 = .ok (.ireturn, 1) := by decide +kernel
theorem dX11_refute_13 : decode cX11_refute 13 = .ok (.aload_n 0, 1) := by decide +kernel
theorem dX11_refute_14 : decode cX11_refute 14 = .ok (.getfield 77, 3) := by decide +kernel
theorem dX11_refute_17 : decode cX11_refute 17 = .ok (.aload_n 0, 1) := by decide +kernel
theorem dX11_refute_18 : decode cX11_refute 18 = .ok (.getfield 50, 3) := by decide +kernel
theorem dX11_refute_21 : decode cX11_refute 21 = .ok (.getfield 172, 3) := by decide +kernel
theorem dX11_refute_24 : decode cX11_refute 24 = .ok (.aload_n 0, 1) := by decide +kernel
theorem dX11_refute_25 : decode cX11_refute 25 = .ok (.getfield 50, 3) := by decide +kernel
theorem dX11_refute_28 : decode cX11_refute 28 = .ok (.getfield 155, 3) := by decide +kernel
theorem dX11_refute_31 : decode cX11_refute 31 = .ok (.invokevirtual 176, 3) := by decide +kernel
theorem dX11_refute_34 : decode cX11_refute 34 = .ok (.ireturn, 1) := by decide +kernel
theorem dX11_clear_0 : decode cX11_clear 0 = .ok (.aload_n 0, 1) := by decide +kernel
theorem dX11_clear_1 : decode cX11_clear 1 = .ok (.getfield 77, 3) := by decide +kernel
theorem dX11_clear_4 : decode cX11_clear 4 = .ok (.invokevirtual 108, 3) := by decide +kernel
theorem dX11_clear_7 : decode cX11_clear 7 = .ok (.istore_n 1, 1) := by decide +kernel
theorem dX11_clear_8 : decode cX11_clear 8 = .ok (.aload_n 0, 1) := by decide +kernel
theorem dX11_clear_9 : decode cX11_clear 9 = .ok (.getfield 77, 3) := by decide +kernel
theorem dX11_clear_12 : decode cX11_clear 12 = .ok (.invokevirtual 180, 3) := by decide +kernel
theorem dX11_clear_15 : decode cX11_clear 15 = .ok (.iload_n 1, 1) := by decide +kernel
theorem dX11_clear_16 : decode cX11_clear 16 = .ok (.ireturn, 1) := by decide +kernel
theorem dX11_world_0 : decode cX11_world 0 = .ok (.aload_n 0, 1) := by decide +kernel
theorem dX11_world_1 : decode cX11_world 1 = .ok (.getfield 77, 3) := by decide +kernel
theorem dX11_world_4 : decode cX11_world 4 = .ok (.iload_n 1, 1) := by decide +kernel
theorem dX11_world_5 : decode cX11_world 5 = .ok (.invokevirtual 181, 3) := by decide +kernel
theorem dX11_world_8 : decode cX11_world 8 = .ok (.ifCond .eq 14, 3) := by decide +kernel
theorem dX11_world_11 : decode cX11_world 11 = .ok (.aload_n 0, 1) := by decide +kernel
theorem dX11_world_12 : decode cX11_world 12 = .ok (.getfield 77, 3) := by decide +kernel
theorem dX11_world_15 : decode cX11_world 15 = .ok (.iload_n 1, 1) := by decide +kernel
theorem dX11_world_16 : decode cX11_world 16 = .ok (.invokevirtual 182, 3) := by decide +kernel
theorem dX11_world_19 : decode cX11_world 19 = .ok (.goto 4, 3) := by decide +kernel
theorem dX11_world_22 : decode cX11_world 22 = .ok (.iconst (-1), 1) := by decide +kernel
theorem dX11_world_23 : decode cX11_world 23 = .ok (.ireturn, 1) := by decide +kernel
theorem dX11_force_0 : decode cX11_force 0 = .ok (.aload_n 0, 1) := by decide +kernel
theorem dX11_force_1 : decode cX11_force 1 = .ok (.getfield 77, 3) := by decide +kernel
theorem dX11_force_4 : decode cX11_force 4 = .ok (.iload_n 1, 1) := by decide +kernel
theorem dX11_force_5 : decode cX11_force 5 = .ok (.invokevirtual 181, 3) := by decide +kernel
theorem dX11_force_8 : decode cX11_force 8 = .ok (.ifCond .eq 14, 3) := by decide +kernel
theorem dX11_force_11 : decode cX11_force 11 = .ok (.aload_n 0, 1) := by decide +kernel
theorem dX11_force_12 : decode cX11_force 12 = .ok (.getfield 25, 3) := by decide +kernel
theorem dX11_force_15 : decode cX11_force 15 = .ok (.iload_n 2, 1) := by decide +kernel
theorem dX11_force_16 : decode cX11_force 16 = .ok (.invokevirtual 185, 3) := by decide +kernel
theorem dX11_force_19 : decode cX11_force 19 = .ok (.ifCond .ne 5, 3) := by decide +kernel
theorem dX11_force_22 : decode cX11_force 22 = .ok (.iconst (-1), 1) := by decide +kernel
theorem dX11_force_23 : decode cX11_force 23 = .ok (.ireturn, 1) := by decide +kernel
theorem dX11_force_24 : decode cX11_force 24 = .ok (.aload_n 0, 1) := by decide +kernel
theorem dX11_force_25 : decode cX11_force 25 = .ok (.getfield 77, 3) := by decide +kernel
theorem dX11_force_28 : decode cX11_force 28 = .ok (.iload_n 1, 1) := by decide +kernel
theorem dX11_force_29 : decode cX11_force 29 = .ok (.iload_n 2, 1) := by decide +kernel
theorem dX11_force_30 : decode cX11_force 30 = .ok (.invokevirtual 188, 3) := by decide +kernel
theorem dX11_force_33 : decode cX11_force 33 = .ok (.ireturn, 1) := by decide +kernel
theorem dX11_about_0 : decode cX11_about 0 = .ok (.aload_n 0, 1) := by decide +kernel
theorem dX11_about_1 : decode cX11_about 1 = .ok (.getfield 77, 3) := by decide +kernel
theorem dX11_about_4 : decode cX11_about 4 = .ok (.iload_n 1, 1) := by decide +kernel
theorem dX11_about_5 : decode cX11_about 5 = .ok (.invokevirtual 181, 3) := by decide +kernel
theorem dX11_about_8 : decode cX11_about 8 = .ok (.ifCond .eq 19, 3) := by decide +kernel
theorem dX11_about_11 : decode cX11_about 11 = .ok (.iload_n 2, 1) := by decide +kernel
theorem dX11_about_12 : decode cX11_about 12 = .ok (.iconst 1, 1) := by decide +kernel
theorem dX11_about_13 : decode cX11_about 13 = .ok (.if_icmp .ne 16, 3) := by decide +kernel
theorem dX11_about_16 : decode cX11_about 16 = .ok (.aload_n 0, 1) := by decide +kernel
theorem dX11_about_17 : decode cX11_about 17 = .ok (.getfield 25, 3) := by decide +kernel
theorem dX11_about_20 : decode cX11_about 20 = .ok (.iload_n 3, 1) := by decide +kernel
theorem dX11_about_21 : decode cX11_about 21 = .ok (.invokevirtual 185, 3) := by decide +kernel
theorem dX11_about_24 : decode cX11_about 24 = .ok (.ifCond .ne 5, 3) := by decide +kernel
theorem dX11_about_27 : decode cX11_about 27 = .ok (.iconst (-1), 1) := by decide +kernel
theorem dX11_about_28 : decode cX11_about 28 = .ok (.ireturn, 1) := by decide +kernel
theorem dX11_about_29 : decode cX11_about 29 = .ok (.iload_n 2, 1) := by decide +kernel
theorem dX11_about_30 : decode cX11_about 30 = .ok (.tableswitch 65 0 2 #[26, 35, 53], 26) := by decide +kernel
theorem dX11_about_56 : decode cX11_about 56 = .ok (.aload_n 0, 1) := by decide +kernel
theorem dX11_about_57 : decode cX11_about 57 = .ok (.getfield 77, 3) := by decide +kernel
theorem dX11_about_60 : decode cX11_about 60 = .ok (.iload_n 1, 1) := by decide +kernel
theorem dX11_about_61 : decode cX11_about 61 = .ok (.invokevirtual 192, 3) := by decide +kernel
theorem dX11_about_64 : decode cX11_about 64 = .ok (.ireturn, 1) := by decide +kernel
theorem dX11_about_65 : decode cX11_about 65 = .ok (.aload_n 0, 1) := by decide +kernel
theorem dX11_about_66 : decode cX11_about 66 = .ok (.getfield 77, 3) := by decide +kernel
theorem dX11_about_69 : decode cX11_about 69 = .ok (.iload_n 1, 1) := by decide +kernel
theorem dX11_about_70 : decode cX11_about 70 = .ok (.iload_n 3, 1) := by decide +kernel
theorem dX11_about_71 : decode cX11_about 71 = .ok (.invokevirtual 195, 3) := by decide +kernel
theorem dX11_about_74 : decode cX11_about 74 = .ok (.ifCond .eq 7, 3) := by decide +kernel
theorem dX11_about_77 : decode cX11_about 77 = .ok (.iconst 1, 1) := by decide +kernel
theorem dX11_about_78 : decode cX11_about 78 = .ok (.goto 4, 3) := by decide +kernel
theorem dX11_about_81 : decode cX11_about 81 = .ok (.iconst 0, 1) := by decide +kernel
theorem dX11_about_82 : decode cX11_about 82 = .ok (.ireturn, 1) := by decide +kernel
theorem dX11_about_83 : decode cX11_about 83 = .ok (.aload_n 0, 1) := by decide +kernel
theorem dX11_about_84 : decode cX11_about 84 = .ok (.getfield 77, 3) := by decide +kernel
theorem dX11_about_87 : decode cX11_about 87 = .ok (.iload_n 1, 1) := by decide +kernel
theorem dX11_about_88 : decode cX11_about 88 = .ok (.invokevirtual 199, 3) := by decide +kernel
theorem dX11_about_91 : decode cX11_about 91 = .ok (.invokestatic 203, 3) := by decide +kernel
theorem dX11_about_94 : decode cX11_about 94 = .ok (.ireturn, 1) := by decide +kernel
theorem dX11_about_95 : decode cX11_about 95 = .ok (.bipush (-2), 2) := by decide +kernel
theorem dX11_about_97 : decode cX11_about 97 = .ok (.ireturn, 1) := by decide +kernel
theorem dX11_holds_0 : decode cX11_holds 0 = .ok (.aload_n 0, 1) := by decide +kernel
theorem dX11_holds_1 : decode cX11_holds 1 = .ok (.getfield 77, 3) := by decide +kernel
theorem dX11_holds_4 : decode cX11_holds 4 = .ok (.iload_n 1, 1) := by decide +kernel
theorem dX11_holds_5 : decode cX11_holds 5 = .ok (.invokevirtual 181, 3) := by decide +kernel
theorem dX11_holds_8 : decode cX11_holds 8 = .ok (.ifCond .eq 14, 3) := by decide +kernel
theorem dX11_holds_11 : decode cX11_holds 11 = .ok (.aload_n 0, 1) := by decide +kernel
theorem dX11_holds_12 : decode cX11_holds 12 = .ok (.getfield 25, 3) := by decide +kernel
theorem dX11_holds_15 : decode cX11_holds 15 = .ok (.iload_n 2, 1) := by decide +kernel
theorem dX11_holds_16 : decode cX11_holds 16 = .ok (.invokevirtual 109, 3) := by decide +kernel
theorem dX11_holds_19 : decode cX11_holds 19 = .ok (.ifCond .ne 5, 3) := by decide +kernel
theorem dX11_holds_22 : decode cX11_holds 22 = .ok (.iconst (-1), 1) := by decide +kernel
theorem dX11_holds_23 : decode cX11_holds 23 = .ok (.ireturn, 1) := by decide +kernel
theorem dX11_holds_24 : decode cX11_holds 24 = .ok (.aload_n 0, 1) := by decide +kernel
theorem dX11_holds_25 : decode cX11_holds 25 = .ok (.getfield 70, 3) := by decide +kernel
theorem dX11_holds_28 : decode cX11_holds 28 = .ok (.iload_n 2, 1) := by decide +kernel
theorem dX11_holds_29 : decode cX11_holds 29 = .ok (.aload_n 0, 1) := by decide +kernel
theorem dX11_holds_30 : decode cX11_holds 30 = .ok (.getfield 77, 3) := by decide +kernel
theorem dX11_holds_33 : decode cX11_holds 33 = .ok (.invokevirtual 209, 3) := by decide +kernel
theorem dX11_holds_36 : decode cX11_holds 36 = .ok (.iload_n 1, 1) := by decide +kernel
theorem dX11_holds_37 : decode cX11_holds 37 = .ok (.lushr, 1) := by decide +kernel
theorem dX11_holds_38 : decode cX11_holds 38 = .ok (.lconst 1, 1) := by decide +kernel
theorem dX11_holds_39 : decode cX11_holds 39 = .ok (.land, 1) := by decide +kernel
theorem dX11_holds_40 : decode cX11_holds 40 = .ok (.lconst 1, 1) := by decide +kernel
theorem dX11_holds_41 : decode cX11_holds 41 = .ok (.lcmp, 1) := by decide +kernel
theorem dX11_holds_42 : decode cX11_holds 42 = .ok (.ifCond .ne 7, 3) := by decide +kernel
theorem dX11_holds_45 : decode cX11_holds 45 = .ok (.iconst 1, 1) := by decide +kernel
theorem dX11_holds_46 : decode cX11_holds 46 = .ok (.goto 4, 3) := by decide +kernel
theorem dX11_holds_49 : decode cX11_holds 49 = .ok (.iconst 0, 1) := by decide +kernel
theorem dX11_holds_50 : decode cX11_holds 50 = .ok (.ireturn, 1) := by decide +kernel
