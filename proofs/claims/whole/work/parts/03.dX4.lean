theorem dX4_init_0 : decode cX4_init 0 = .ok (.aload_n 0, 1) := by decide +kernel
theorem dX4_init_1 : decode cX4_init 1 = .ok (.invokespecial 3, 3) := by decide +kernel
theorem dX4_init_4 : decode cX4_init 4 = .ok (.aload_n 0, 1) := by decide +kernel
theorem dX4_init_5 : decode cX4_init 5 = .ok (.sipush 2000, 3) := by decide +kernel
theorem dX4_init_8 : decode cX4_init 8 = .ok (.newarray .int, 2) := by decide +kernel
theorem dX4_init_10 : decode cX4_init 10 = .ok (.putfield 9, 3) := by decide +kernel
theorem dX4_init_13 : decode cX4_init 13 = .ok (.aload_n 0, 1) := by decide +kernel
theorem dX4_init_14 : decode cX4_init 14 = .ok (.sipush 2000, 3) := by decide +kernel
theorem dX4_init_17 : decode cX4_init 17 = .ok (.newarray .int, 2) := by decide +kernel
theorem dX4_init_19 : decode cX4_init 19 = .ok (.putfield 15, 3) := by decide +kernel
theorem dX4_init_22 : decode cX4_init 22 = .ok (.aload_n 0, 1) := by decide +kernel
theorem dX4_init_23 : decode cX4_init 23 = .ok (.sipush 2000, 3) := by decide +kernel
theorem dX4_init_26 : decode cX4_init 26 = .ok (.newarray .int, 2) := by decide +kernel
theorem dX4_init_28 : decode cX4_init 28 = .ok (.putfield 18, 3) := by decide +kernel
theorem dX4_init_31 : decode cX4_init 31 = .ok (.aload_n 0, 1) := by decide +kernel
theorem dX4_init_32 : decode cX4_init 32 = .ok (.sipush 2000, 3) := by decide +kernel
theorem dX4_init_35 : decode cX4_init 35 = .ok (.newarray .int, 2) := by decide +kernel
theorem dX4_init_37 : decode cX4_init 37 = .ok (.putfield 21, 3) := by decide +kernel
theorem dX4_init_40 : decode cX4_init 40 = .ok (.aload_n 0, 1) := by decide +kernel
theorem dX4_init_41 : decode cX4_init 41 = .ok (.sipush 200, 3) := by decide +kernel
theorem dX4_init_44 : decode cX4_init 44 = .ok (.newarray .int, 2) := by decide +kernel
theorem dX4_init_46 : decode cX4_init 46 = .ok (.putfield 24, 3) := by decide +kernel
theorem dX4_init_49 : decode cX4_init 49 = .ok (.aload_n 0, 1) := by decide +kernel
theorem dX4_init_50 : decode cX4_init 50 = .ok (.sipush 200, 3) := by decide +kernel
theorem dX4_init_53 : decode cX4_init 53 = .ok (.newarray .int, 2) := by decide +kernel
theorem dX4_init_55 : decode cX4_init 55 = .ok (.putfield 27, 3) := by decide +kernel
theorem dX4_init_58 : decode cX4_init 58 = .ok (.return_, 1) := by decide +kernel
theorem dX4_drop_0 : decode cX4_drop 0 = .ok (.aload_n 0, 1) := by decide +kernel
theorem dX4_drop_1 : decode cX4_drop 1 = .ok (.iconst 0, 1) := by decide +kernel
theorem dX4_drop_2 : decode cX4_drop 2 = .ok (.putfield 30, 3) := by decide +kernel
theorem dX4_drop_5 : decode cX4_drop 5 = .ok (.return_, 1) := by decide +kernel
theorem dX4_has_0 : decode cX4_has 0 = .ok (.iload_n 1, 1) := by decide +kernel
theorem dX4_has_1 : decode cX4_has 1 = .ok (.ifCond .lt 22, 3) := by decide +kernel
theorem dX4_has_4 : decode cX4_has 4 = .ok (.iload_n 1, 1) := by decide +kernel
theorem dX4_has_5 : decode cX4_has 5 = .ok (.aload_n 0, 1) := by decide +kernel
theorem dX4_has_6 : decode cX4_has 6 = .ok (.getfield 30, 3) := by decide +kernel
theorem dX4_has_9 : decode cX4_has 9 = .ok (.if_icmp .ge 14, 3) := by decide +kernel
theorem dX4_has_12 : decode cX4_has 12 = .ok (.iload_n 1, 1) := by decide +kernel
theorem dX4_has_13 : decode cX4_has 13 = .ok (.sipush 2000, 3) := by decide +kernel
theorem dX4_has_16 : decode cX4_has 16 = .ok (.if_icmp .ge 7, 3) := by decide +kernel
theorem dX4_has_19 : decode cX4_has 19 = .ok (.iconst 1, 1) := by decide +kernel
theorem dX4_has_20 : decode cX4_has 20 = .ok (.goto 4, 3) := by decide +kernel
theorem dX4_has_23 : decode cX4_has 23 = .ok (.iconst 0, 1) := by decide +kernel
theorem dX4_has_24 : decode cX4_has 24 = .ok (.ireturn, 1) := by decide +kernel
theorem dX4_begin_0 : decode cX4_begin 0 = .ok (.iload_n 1, 1) := by decide +kernel
theorem dX4_begin_1 : decode cX4_begin 1 = .ok (.ifCond .lt 24, 3) := by decide +kernel
theorem dX4_begin_4 : decode cX4_begin 4 = .ok (.iload_n 1, 1) := by decide +kernel
theorem dX4_begin_5 : decode cX4_begin 5 = .ok (.sipush 200, 3) := by decide +kernel
theorem dX4_begin_8 : decode cX4_begin 8 = .ok (.if_icmp .ge 17, 3) := by decide +kernel
theorem dX4_begin_11 : decode cX4_begin 11 = .ok (.aload_n 0, 1) := by decide +kernel
theorem dX4_begin_12 : decode cX4_begin 12 = .ok (.getfield 24, 3) := by decide +kernel
theorem dX4_begin_15 : decode cX4_begin 15 = .ok (.iload_n 1, 1) := by decide +kernel
theorem dX4_begin_16 : decode cX4_begin 16 = .ok (.iconst (-1), 1) := by decide +kernel
theorem dX4_begin_17 : decode cX4_begin 17 = .ok (.iastore, 1) := by decide +kernel
theorem dX4_begin_18 : decode cX4_begin 18 = .ok (.aload_n 0, 1) := by decide +kernel
theorem dX4_begin_19 : decode cX4_begin 19 = .ok (.getfield 27, 3) := by decide +kernel
theorem dX4_begin_22 : decode cX4_begin 22 = .ok (.iload_n 1, 1) := by decide +kernel
theorem dX4_begin_23 : decode cX4_begin 23 = .ok (.iconst (-1), 1) := by decide +kernel
theorem dX4_begin_24 : decode cX4_begin 24 = .ok (.iastore, 1) := by decide +kernel
theorem dX4_begin_25 : decode cX4_begin 25 = .ok (.return_, 1) := by decide +kernel
theorem dX4_adopt_0 : decode cX4_adopt 0 = .ok (.iload_n 1, 1) := by decide +kernel
theorem dX4_adopt_1 : decode cX4_adopt 1 = .ok (.ifCond .lt 18, 3) := by decide +kernel
theorem dX4_adopt_4 : decode cX4_adopt 4 = .ok (.iload_n 1, 1) := by decide +kernel
theorem dX4_adopt_5 : decode cX4_adopt 5 = .ok (.sipush 200, 3) := by decide +kernel
theorem dX4_adopt_8 : decode cX4_adopt 8 = .ok (.if_icmp .ge 11, 3) := by decide +kernel
theorem dX4_adopt_11 : decode cX4_adopt 11 = .ok (.aload_n 0, 1) := by decide +kernel
theorem dX4_adopt_12 : decode cX4_adopt 12 = .ok (.iload_n 2, 1) := by decide +kernel
theorem dX4_adopt_13 : decode cX4_adopt 13 = .ok (.invokevirtual 34, 3) := by decide +kernel
theorem dX4_adopt_16 : decode cX4_adopt 16 = .ok (.ifCond .ne 4, 3) := by decide +kernel
theorem dX4_adopt_19 : decode cX4_adopt 19 = .ok (.return_, 1) := by decide +kernel
theorem dX4_adopt_20 : decode cX4_adopt 20 = .ok (.aload_n 0, 1) := by decide +kernel
theorem dX4_adopt_21 : decode cX4_adopt 21 = .ok (.aload_n 0, 1) := by decide +kernel
theorem dX4_adopt_22 : decode cX4_adopt 22 = .ok (.getfield 27, 3) := by decide +kernel
theorem dX4_adopt_25 : decode cX4_adopt 25 = .ok (.iload_n 1, 1) := by decide +kernel
theorem dX4_adopt_26 : decode cX4_adopt 26 = .ok (.iaload, 1) := by decide +kernel
theorem dX4_adopt_27 : decode cX4_adopt 27 = .ok (.invokevirtual 34, 3) := by decide +kernel
theorem dX4_adopt_30 : decode cX4_adopt 30 = .ok (.ifCond .eq 18, 3) := by decide +kernel
theorem dX4_adopt_33 : decode cX4_adopt 33 = .ok (.aload_n 0, 1) := by decide +kernel
theorem dX4_adopt_34 : decode cX4_adopt 34 = .ok (.getfield 18, 3) := by decide +kernel
theorem dX4_adopt_37 : decode cX4_adopt 37 = .ok (.aload_n 0, 1) := by decide +kernel
theorem dX4_adopt_38 : decode cX4_adopt 38 = .ok (.getfield 27, 3) := by decide +kernel
theorem dX4_adopt_41 : decode cX4_adopt 41 = .ok (.iload_n 1, 1) := by decide +kernel
theorem dX4_adopt_42 : decode cX4_adopt 42 = .ok (.iaload, 1) := by decide +kernel
theorem dX4_adopt_43 : decode cX4_adopt 43 = .ok (.iload_n 2, 1) := by decide +kernel
theorem dX4_adopt_44 : decode cX4_adopt 44 = .ok (.iastore, 1) := by decide +kernel
theorem dX4_adopt_45 : decode cX4_adopt 45 = .ok (.goto 10, 3) := by decide +kernel
theorem dX4_adopt_48 : decode cX4_adopt 48 = .ok (.aload_n 0, 1) := by decide +kernel
theorem dX4_adopt_49 : decode cX4_adopt 49 = .ok (.getfield 24, 3) := by decide +kernel
theorem dX4_adopt_52 : decode cX4_adopt 52 = .ok (.iload_n 1, 1) := by decide +kernel
theorem dX4_adopt_53 : decode cX4_adopt 53 = .ok (.iload_n 2, 1) := by decide +kernel
theorem dX4_adopt_54 : decode cX4_adopt 54 = .ok (.iastore, 1) := by decide +kernel
theorem dX4_adopt_55 : decode cX4_adopt 55 = .ok (.aload_n 0, 1) := by decide +kernel
theorem dX4_adopt_56 : decode cX4_adopt 56 = .ok (.getfield 27, 3) := by decide +kernel
theorem dX4_adopt_59 : decode cX4_adopt 59 = .ok (.iload_n 1, 1) := by decide +kernel
theorem dX4_adopt_60 : decode cX4_adopt 60 = .ok (.iload_n 2, 1) := by decide +kernel
theorem dX4_adopt_61 : decode cX4_adopt 61 = .ok (.iastore, 1) := by decide +kernel
theorem dX4_adopt_62 : decode cX4_adopt 62 = .ok (.return_, 1) := by decide +kernel
theorem dX4_add_0 : decode cX4_add 0 = .ok (.iload_n 1, 1) := by decide +kernel
theorem dX4_add_1 : decode cX4_add 1 = .ok (.ifCond .lt 27, 3) := by decide +kernel
theorem dX4_add_4 : decode cX4_add 4 = .ok (.iload_n 1, 1) := by decide +kernel
theorem dX4_add_5 : decode cX4_add 5 = .ok (.sipush 200, 3) := by decide +kernel
theorem dX4_add_8 : decode cX4_add 8 = .ok (.if_icmp .ge 20, 3) := by decide +kernel
theorem dX4_add_11 : decode cX4_add 11 = .ok (.aload_n 0, 1) := by decide +kernel
theorem dX4_add_12 : decode cX4_add 12 = .ok (.getfield 30, 3) := by decide +kernel
theorem dX4_add_15 : decode cX4_add 15 = .ok (.ifCond .lt 13, 3) := by decide +kernel
theorem dX4_add_18 : decode cX4_add 18 = .ok (.aload_n 0, 1) := by decide +kernel
theorem dX4_add_19 : decode cX4_add 19 = .ok (.getfield 30, 3) := by decide +kernel
theorem dX4_add_22 : decode cX4_add 22 = .ok (.sipush 2000, 3) := by decide +kernel
theorem dX4_add_25 : decode cX4_add 25 = .ok (.if_icmp .lt 5, 3) := by decide +kernel
theorem dX4_add_28 : decode cX4_add 28 = .ok (.iconst (-1), 1) := by decide +kernel
theorem dX4_add_29 : decode cX4_add 29 = .ok (.ireturn, 1) := by decide +kernel
theorem dX4_add_30 : decode cX4_add 30 = .ok (.iconst 1, 1) := by decide +kernel
theorem dX4_add_31 : decode cX4_add 31 = .ok (.istore_n 3, 1) := by decide +kernel
theorem dX4_add_32 : decode cX4_add 32 = .ok (.aload_n 0, 1) := by decide +kernel
theorem dX4_add_33 : decode cX4_add 33 = .ok (.getfield 24, 3) := by decide +kernel
theorem dX4_add_36 : decode cX4_add 36 = .ok (.iload_n 1, 1) := by decide +kernel
theorem dX4_add_37 : decode cX4_add 37 = .ok (.iaload, 1) := by decide +kernel
theorem dX4_add_38 : decode cX4_add 38 = .ok (.istore 4, 2) := by decide +kernel
theorem dX4_add_40 : decode cX4_add 40 = .ok (.iconst 0, 1) := by decide +kernel
theorem dX4_add_41 : decode cX4_add 41 = .ok (.istore 5, 2) := by decide +kernel
theorem dX4_add_43 : decode cX4_add 43 = .ok (.iload 5, 2) := by decide +kernel
theorem dX4_add_45 : decode cX4_add 45 = .ok (.aload_n 0, 1) := by decide +kernel
theorem dX4_add_46 : decode cX4_add 46 = .ok (.getfield 30, 3) := by decide +kernel
theorem dX4_add_49 : decode cX4_add 49 = .ok (.if_icmp .ge 37, 3) := by decide +kernel
theorem dX4_add_52 : decode cX4_add 52 = .ok (.aload_n 0, 1) := by decide +kernel
theorem dX4_add_53 : decode cX4_add 53 = .ok (.iload 4, 2) := by decide +kernel
theorem dX4_add_55 : decode cX4_add 55 = .ok (.invokevirtual 34, 3) := by decide +kernel
theorem dX4_add_58 : decode cX4_add 58 = .ok (.ifCond .eq 28, 3) := by decide +kernel
theorem dX4_add_61 : decode cX4_add 61 = .ok (.iload_n 3, 1) := by decide +kernel
theorem dX4_add_62 : decode cX4_add 62 = .ok (.aload_n 0, 1) := by decide +kernel
theorem dX4_add_63 : decode cX4_add 63 = .ok (.getfield 21, 3) := by decide +kernel
theorem dX4_add_66 : decode cX4_add 66 = .ok (.iload 4, 2) := by decide +kernel
theorem dX4_add_68 : decode cX4_add 68 = .ok (.iaload, 1) := by decide +kernel
theorem dX4_add_69 : decode cX4_add 69 = .ok (.iadd, 1) := by decide +kernel
theorem dX4_add_70 : decode cX4_add 70 = .ok (.istore_n 3, 1) := by decide +kernel
theorem dX4_add_71 : decode cX4_add 71 = .ok (.aload_n 0, 1) := by decide +kernel
theorem dX4_add_72 : decode cX4_add 72 = .ok (.getfield 18, 3) := by decide +kernel
theorem dX4_add_75 : decode cX4_add 75 = .ok (.iload 4, 2) := by decide +kernel
theorem dX4_add_77 : decode cX4_add 77 = .ok (.iaload, 1) := by decide +kernel
theorem dX4_add_78 : decode cX4_add 78 = .ok (.istore 4, 2) := by decide +kernel
theorem dX4_add_80 : decode cX4_add 80 = .ok (.iinc 5 1, 3) := by decide +kernel
theorem dX4_add_83 : decode cX4_add 83 = .ok (.goto (-40), 3) := by decide +kernel
theorem dX4_add_86 : decode cX4_add 86 = .ok (.aload_n 0, 1) := by decide +kernel
theorem dX4_add_87 : decode cX4_add 87 = .ok (.getfield 30, 3) := by decide +kernel
theorem dX4_add_90 : decode cX4_add 90 = .ok (.istore 5, 2) := by decide +kernel
theorem dX4_add_92 : decode cX4_add 92 = .ok (.aload_n 0, 1) := by decide +kernel
theorem dX4_add_93 : decode cX4_add 93 = .ok (.getfield 9, 3) := by decide +kernel
theorem dX4_add_96 : decode cX4_add 96 = .ok (.iload 5, 2) := by decide +kernel
theorem dX4_add_98 : decode cX4_add 98 = .ok (.iload_n 2, 1) := by decide +kernel
theorem dX4_add_99 : decode cX4_add 99 = .ok (.iastore, 1) := by decide +kernel
theorem dX4_add_100 : decode cX4_add 100 = .ok (.aload_n 0, 1) := by decide +kernel
theorem dX4_add_101 : decode cX4_add 101 = .ok (.getfield 15, 3) := by decide +kernel
theorem dX4_add_104 : decode cX4_add 104 = .ok (.iload 5, 2) := by decide +kernel
theorem dX4_add_106 : decode cX4_add 106 = .ok (.aload_n 0, 1) := by decide +kernel
theorem dX4_add_107 : decode cX4_add 107 = .ok (.getfield 24, 3) := by decide +kernel
theorem dX4_add_110 : decode cX4_add 110 = .ok (.iload_n 1, 1) := by decide +kernel
theorem dX4_add_111 : decode cX4_add 111 = .ok (.iaload, 1) := by decide +kernel
theorem dX4_add_112 : decode cX4_add 112 = .ok (.iastore, 1) := by decide +kernel
theorem dX4_add_113 : decode cX4_add 113 = .ok (.aload_n 0, 1) := by decide +kernel
theorem dX4_add_114 : decode cX4_add 114 = .ok (.getfield 18, 3) := by decide +kernel
theorem dX4_add_117 : decode cX4_add 117 = .ok (.iload 5, 2) := by decide +kernel
theorem dX4_add_119 : decode cX4_add 119 = .ok (.iconst (-1), 1) := by decide +kernel
theorem dX4_add_120 : decode cX4_add 120 = .ok (.iastore, 1) := by decide +kernel
theorem dX4_add_121 : decode cX4_add 121 = .ok (.aload_n 0, 1) := by decide +kernel
theorem dX4_add_122 : decode cX4_add 122 = .ok (.getfield 21, 3) := by decide +kernel
theorem dX4_add_125 : decode cX4_add 125 = .ok (.iload 5, 2) := by decide +kernel
theorem dX4_add_127 : decode cX4_add 127 = .ok (.iload_n 3, 1) := by decide +kernel
theorem dX4_add_128 : decode cX4_add 128 = .ok (.iastore, 1) := by decide +kernel
theorem dX4_add_129 : decode cX4_add 129 = .ok (.aload_n 0, 1) := by decide +kernel
theorem dX4_add_130 : decode cX4_add 130 = .ok (.dup, 1) := by decide +kernel
theorem dX4_add_131 : decode cX4_add 131 = .ok (.getfield 30, 3) := by decide +kernel
theorem dX4_add_134 : decode cX4_add 134 = .ok (.iconst 1, 1) := by decide +kernel
theorem dX4_add_135 : decode cX4_add 135 = .ok (.iadd, 1) := by decide +kernel
theorem dX4_add_136 : decode cX4_add 136 = .ok (.putfield 30, 3) := by decide +kernel
theorem dX4_add_139 : decode cX4_add 139 = .ok (.iload 5, 2) := by decide +kernel
theorem dX4_add_141 : decode cX4_add 141 = .ok (.ireturn, 1) := by decide +kernel
theorem dX4_forcedIn_0 : decode cX4_forcedIn 0 = .ok (.aload_n 0, 1) := by decide +kernel
theorem dX4_forcedIn_1 : decode cX4_forcedIn 1 = .ok (.iload_n 1, 1) := by decide +kernel
theorem dX4_forcedIn_2 : decode cX4_forcedIn 2 = .ok (.invokevirtual 34, 3) := by decide +kernel
theorem dX4_forcedIn_5 : decode cX4_forcedIn 5 = .ok (.ifCond .eq 12, 3) := by decide +kernel
theorem dX4_forcedIn_8 : decode cX4_forcedIn 8 = .ok (.aload_n 0, 1) := by decide +kernel
theorem dX4_forcedIn_9 : decode cX4_forcedIn 9 = .ok (.getfield 9, 3) := by decide +kernel
theorem dX4_forcedIn_12 : decode cX4_forcedIn 12 = .ok (.iload_n 1, 1) := by decide +kernel
theorem dX4_forcedIn_13 : decode cX4_forcedIn 13 = .ok (.iaload, 1) := by decide +kernel
theorem dX4_forcedIn_14 : decode cX4_forcedIn 14 = .ok (.goto 4, 3) := by decide +kernel
theorem dX4_forcedIn_17 : decode cX4_forcedIn 17 = .ok (.iconst 0, 1) := by decide +kernel
theorem dX4_forcedIn_18 : decode cX4_forcedIn 18 = .ok (.ireturn, 1) := by decide +kernel
theorem dX4_firstChildOf_0 : decode cX4_firstChildOf 0 = .ok (.aload_n 0, 1) := by decide +kernel
theorem dX4_firstChildOf_1 : decode cX4_firstChildOf 1 = .ok (.iload_n 1, 1) := by decide +kernel
theorem dX4_firstChildOf_2 : decode cX4_firstChildOf 2 = .ok (.invokevirtual 34, 3) := by decide +kernel
theorem dX4_firstChildOf_5 : decode cX4_firstChildOf 5 = .ok (.ifCond .eq 12, 3) := by decide +kernel
theorem dX4_firstChildOf_8 : decode cX4_firstChildOf 8 = .ok (.aload_n 0, 1) := by decide +kernel
theorem dX4_firstChildOf_9 : decode cX4_firstChildOf 9 = .ok (.getfield 15, 3) := by decide +kernel
theorem dX4_firstChildOf_12 : decode cX4_firstChildOf 12 = .ok (.iload_n 1, 1) := by decide +kernel
theorem dX4_firstChildOf_13 : decode cX4_firstChildOf 13 = .ok (.iaload, 1) := by decide +kernel
theorem dX4_firstChildOf_14 : decode cX4_firstChildOf 14 = .ok (.goto 4, 3) := by decide +kernel
theorem dX4_firstChildOf_17 : decode cX4_firstChildOf 17 = .ok (.iconst (-1), 1) := by decide +kernel
theorem dX4_firstChildOf_18 : decode cX4_firstChildOf 18 = .ok (.ireturn, 1) := by decide +kernel
theorem dX4_siblingOf_0 : decode cX4_siblingOf 0 = .ok (.aload_n 0, 1) := by decide +kernel
theorem dX4_siblingOf_1 : decode cX4_siblingOf 1 = .ok (.iload_n 1, 1) := by decide +kernel
theorem dX4_siblingOf_2 : decode cX4_siblingOf 2 = .ok (.invokevirtual 34, 3) := by decide +kernel
theorem dX4_siblingOf_5 : decode cX4_siblingOf 5 = .ok (.ifCond .eq 12, 3) := by decide +kernel
theorem dX4_siblingOf_8 : decode cX4_siblingOf 8 = .ok (.aload_n 0, 1) := by decide +kernel
theorem dX4_siblingOf_9 : decode cX4_siblingOf 9 = .ok (.getfield 18, 3) := by decide +kernel
theorem dX4_siblingOf_12 : decode cX4_siblingOf 12 = .ok (.iload_n 1, 1) := by decide +kernel
theorem dX4_siblingOf_13 : decode cX4_siblingOf 13 = .ok (.iaload, 1) := by decide +kernel
theorem dX4_siblingOf_14 : decode cX4_siblingOf 14 = .ok (.goto 4, 3) := by decide +kernel
theorem dX4_siblingOf_17 : decode cX4_siblingOf 17 = .ok (.iconst (-1), 1) := by decide +kernel
theorem dX4_siblingOf_18 : decode cX4_siblingOf 18 = .ok (.ireturn, 1) := by decide +kernel
theorem dX4_totalOf_0 : decode cX4_totalOf 0 = .ok (.aload_n 0, 1) := by decide +kernel
theorem dX4_totalOf_1 : decode cX4_totalOf 1 = .ok (.iload_n 1, 1) := by decide +kernel
theorem dX4_totalOf_2 : decode cX4_totalOf 2 = .ok (.invokevirtual 34, 3) := by decide +kernel
theorem dX4_totalOf_5 : decode cX4_totalOf 5 = .ok (.ifCond .eq 12, 3) := by decide +kernel
theorem dX4_totalOf_8 : decode cX4_totalOf 8 = .ok (.aload_n 0, 1) := by decide +kernel
theorem dX4_totalOf_9 : decode cX4_totalOf 9 = .ok (.getfield 21, 3) := by decide +kernel
theorem dX4_totalOf_12 : decode cX4_totalOf 12 = .ok (.iload_n 1, 1) := by decide +kernel
theorem dX4_totalOf_13 : decode cX4_totalOf 13 = .ok (.iaload, 1) := by decide +kernel
theorem dX4_totalOf_14 : decode cX4_totalOf 14 = .ok (.goto 4, 3) := by decide +kernel
theorem dX4_totalOf_17 : decode cX4_totalOf 17 = .ok (.iconst 0, 1) := by decide +kernel
theorem dX4_totalOf_18 : decode cX4_totalOf 18 = .ok (.ireturn, 1) := by decide +kernel
