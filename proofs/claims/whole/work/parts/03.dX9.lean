theorem dX9_init_0 : decode cX9_init 0 = .ok (.aload_n 0, 1) := by decide +kernel
theorem dX9_init_1 : decode cX9_init 1 = .ok (.invokespecial 3, 3) := by decide +kernel
theorem dX9_init_4 : decode cX9_init 4 = .ok (.aload_n 0, 1) := by decide +kernel
theorem dX9_init_5 : decode cX9_init 5 = .ok (.bipush 60, 2) := by decide +kernel
theorem dX9_init_7 : decode cX9_init 7 = .ok (.newarray .int, 2) := by decide +kernel
theorem dX9_init_9 : decode cX9_init 9 = .ok (.putfield 9, 3) := by decide +kernel
theorem dX9_init_12 : decode cX9_init 12 = .ok (.aload_n 0, 1) := by decide +kernel
theorem dX9_init_13 : decode cX9_init 13 = .ok (.bipush 60, 2) := by decide +kernel
theorem dX9_init_15 : decode cX9_init 15 = .ok (.newarray .int, 2) := by decide +kernel
theorem dX9_init_17 : decode cX9_init 17 = .ok (.putfield 15, 3) := by decide +kernel
theorem dX9_init_20 : decode cX9_init 20 = .ok (.aload_n 0, 1) := by decide +kernel
theorem dX9_init_21 : decode cX9_init 21 = .ok (.bipush 60, 2) := by decide +kernel
theorem dX9_init_23 : decode cX9_init 23 = .ok (.newarray .int, 2) := by decide +kernel
theorem dX9_init_25 : decode cX9_init 25 = .ok (.putfield 18, 3) := by decide +kernel
theorem dX9_init_28 : decode cX9_init 28 = .ok (.aload_n 0, 1) := by decide +kernel
theorem dX9_init_29 : decode cX9_init 29 = .ok (.bipush 60, 2) := by decide +kernel
theorem dX9_init_31 : decode cX9_init 31 = .ok (.newarray .int, 2) := by decide +kernel
theorem dX9_init_33 : decode cX9_init 33 = .ok (.putfield 21, 3) := by decide +kernel
theorem dX9_init_36 : decode cX9_init 36 = .ok (.aload_n 0, 1) := by decide +kernel
theorem dX9_init_37 : decode cX9_init 37 = .ok (.iconst 1, 1) := by decide +kernel
theorem dX9_init_38 : decode cX9_init 38 = .ok (.putfield 24, 3) := by decide +kernel
theorem dX9_init_41 : decode cX9_init 41 = .ok (.aload_n 0, 1) := by decide +kernel
theorem dX9_init_42 : decode cX9_init 42 = .ok (.aload_n 1, 1) := by decide +kernel
theorem dX9_init_43 : decode cX9_init 43 = .ok (.putfield 28, 3) := by decide +kernel
theorem dX9_init_46 : decode cX9_init 46 = .ok (.aload_n 0, 1) := by decide +kernel
theorem dX9_init_47 : decode cX9_init 47 = .ok (.getfield 9, 3) := by decide +kernel
theorem dX9_init_50 : decode cX9_init 50 = .ok (.iconst 0, 1) := by decide +kernel
theorem dX9_init_51 : decode cX9_init 51 = .ok (.iconst (-1), 1) := by decide +kernel
theorem dX9_init_52 : decode cX9_init 52 = .ok (.iastore, 1) := by decide +kernel
theorem dX9_init_53 : decode cX9_init 53 = .ok (.return_, 1) := by decide +kernel
theorem dX9_many_0 : decode cX9_many 0 = .ok (.aload_n 0, 1) := by decide +kernel
theorem dX9_many_1 : decode cX9_many 1 = .ok (.getfield 24, 3) := by decide +kernel
theorem dX9_many_4 : decode cX9_many 4 = .ok (.ireturn, 1) := by decide +kernel
theorem dX9_has_0 : decode cX9_has 0 = .ok (.iload_n 1, 1) := by decide +kernel
theorem dX9_has_1 : decode cX9_has 1 = .ok (.ifCond .lt 21, 3) := by decide +kernel
theorem dX9_has_4 : decode cX9_has 4 = .ok (.iload_n 1, 1) := by decide +kernel
theorem dX9_has_5 : decode cX9_has 5 = .ok (.aload_n 0, 1) := by decide +kernel
theorem dX9_has_6 : decode cX9_has 6 = .ok (.getfield 24, 3) := by decide +kernel
theorem dX9_has_9 : decode cX9_has 9 = .ok (.if_icmp .ge 13, 3) := by decide +kernel
theorem dX9_has_12 : decode cX9_has 12 = .ok (.iload_n 1, 1) := by decide +kernel
theorem dX9_has_13 : decode cX9_has 13 = .ok (.bipush 60, 2) := by decide +kernel
theorem dX9_has_15 : decode cX9_has 15 = .ok (.if_icmp .ge 7, 3) := by decide +kernel
theorem dX9_has_18 : decode cX9_has 18 = .ok (.iconst 1, 1) := by decide +kernel
theorem dX9_has_19 : decode cX9_has 19 = .ok (.goto 4, 3) := by decide +kernel
theorem dX9_has_22 : decode cX9_has 22 = .ok (.iconst 0, 1) := by decide +kernel
theorem dX9_has_23 : decode cX9_has 23 = .ok (.ireturn, 1) := by decide +kernel
theorem dX9_drop_0 : decode cX9_drop 0 = .ok (.aload_n 0, 1) := by decide +kernel
theorem dX9_drop_1 : decode cX9_drop 1 = .ok (.iconst 1, 1) := by decide +kernel
theorem dX9_drop_2 : decode cX9_drop 2 = .ok (.putfield 24, 3) := by decide +kernel
theorem dX9_drop_5 : decode cX9_drop 5 = .ok (.aload_n 0, 1) := by decide +kernel
theorem dX9_drop_6 : decode cX9_drop 6 = .ok (.getfield 15, 3) := by decide +kernel
theorem dX9_drop_9 : decode cX9_drop 9 = .ok (.iconst 0, 1) := by decide +kernel
theorem dX9_drop_10 : decode cX9_drop 10 = .ok (.iconst 0, 1) := by decide +kernel
theorem dX9_drop_11 : decode cX9_drop 11 = .ok (.iastore, 1) := by decide +kernel
theorem dX9_drop_12 : decode cX9_drop 12 = .ok (.return_, 1) := by decide +kernel
theorem dX9_parentOf_0 : decode cX9_parentOf 0 = .ok (.aload_n 0, 1) := by decide +kernel
theorem dX9_parentOf_1 : decode cX9_parentOf 1 = .ok (.iload_n 1, 1) := by decide +kernel
theorem dX9_parentOf_2 : decode cX9_parentOf 2 = .ok (.invokevirtual 32, 3) := by decide +kernel
theorem dX9_parentOf_5 : decode cX9_parentOf 5 = .ok (.ifCond .eq 12, 3) := by decide +kernel
theorem dX9_parentOf_8 : decode cX9_parentOf 8 = .ok (.aload_n 0, 1) := by decide +kernel
theorem dX9_parentOf_9 : decode cX9_parentOf 9 = .ok (.getfield 9, 3) := by decide +kernel
theorem dX9_parentOf_12 : decode cX9_parentOf 12 = .ok (.iload_n 1, 1) := by decide +kernel
theorem dX9_parentOf_13 : decode cX9_parentOf 13 = .ok (.iaload, 1) := by decide +kernel
theorem dX9_parentOf_14 : decode cX9_parentOf 14 = .ok (.goto 4, 3) := by decide +kernel
theorem dX9_parentOf_17 : decode cX9_parentOf 17 = .ok (.iconst (-1), 1) := by decide +kernel
theorem dX9_parentOf_18 : decode cX9_parentOf 18 = .ok (.ireturn, 1) := by decide +kernel
theorem dX9_grow_0 : decode cX9_grow 0 = .ok (.aload_n 0, 1) := by decide +kernel
theorem dX9_grow_1 : decode cX9_grow 1 = .ok (.iload_n 1, 1) := by decide +kernel
theorem dX9_grow_2 : decode cX9_grow 2 = .ok (.invokevirtual 32, 3) := by decide +kernel
theorem dX9_grow_5 : decode cX9_grow 5 = .ok (.ifCond .eq 12, 3) := by decide +kernel
theorem dX9_grow_8 : decode cX9_grow 8 = .ok (.aload_n 0, 1) := by decide +kernel
theorem dX9_grow_9 : decode cX9_grow 9 = .ok (.getfield 24, 3) := by decide +kernel
theorem dX9_grow_12 : decode cX9_grow 12 = .ok (.bipush 60, 2) := by decide +kernel
theorem dX9_grow_14 : decode cX9_grow 14 = .ok (.if_icmp .lt 6, 3) := by decide +kernel
theorem dX9_grow_17 : decode cX9_grow 17 = .ok (.bipush (-4), 2) := by decide +kernel
theorem dX9_grow_19 : decode cX9_grow 19 = .ok (.ireturn, 1) := by decide +kernel
theorem dX9_grow_20 : decode cX9_grow 20 = .ok (.aload_n 0, 1) := by decide +kernel
theorem dX9_grow_21 : decode cX9_grow 21 = .ok (.aload_n 0, 1) := by decide +kernel
theorem dX9_grow_22 : decode cX9_grow 22 = .ok (.getfield 24, 3) := by decide +kernel
theorem dX9_grow_25 : decode cX9_grow 25 = .ok (.iload_n 1, 1) := by decide +kernel
theorem dX9_grow_26 : decode cX9_grow 26 = .ok (.aload_n 0, 1) := by decide +kernel
theorem dX9_grow_27 : decode cX9_grow 27 = .ok (.getfield 15, 3) := by decide +kernel
theorem dX9_grow_30 : decode cX9_grow 30 = .ok (.iload_n 1, 1) := by decide +kernel
theorem dX9_grow_31 : decode cX9_grow 31 = .ok (.iaload, 1) := by decide +kernel
theorem dX9_grow_32 : decode cX9_grow 32 = .ok (.invokevirtual 36, 3) := by decide +kernel
theorem dX9_grow_35 : decode cX9_grow 35 = .ok (.aload_n 0, 1) := by decide +kernel
theorem dX9_grow_36 : decode cX9_grow 36 = .ok (.dup, 1) := by decide +kernel
theorem dX9_grow_37 : decode cX9_grow 37 = .ok (.getfield 24, 3) := by decide +kernel
theorem dX9_grow_40 : decode cX9_grow 40 = .ok (.iconst 1, 1) := by decide +kernel
theorem dX9_grow_41 : decode cX9_grow 41 = .ok (.iadd, 1) := by decide +kernel
theorem dX9_grow_42 : decode cX9_grow 42 = .ok (.putfield 24, 3) := by decide +kernel
theorem dX9_grow_45 : decode cX9_grow 45 = .ok (.aload_n 0, 1) := by decide +kernel
theorem dX9_grow_46 : decode cX9_grow 46 = .ok (.getfield 24, 3) := by decide +kernel
theorem dX9_grow_49 : decode cX9_grow 49 = .ok (.iconst 1, 1) := by decide +kernel
theorem dX9_grow_50 : decode cX9_grow 50 = .ok (.isub, 1) := by decide +kernel
theorem dX9_grow_51 : decode cX9_grow 51 = .ok (.ireturn, 1) := by decide +kernel
theorem dX9_lay_0 : decode cX9_lay 0 = .ok (.iload_n 1, 1) := by decide +kernel
theorem dX9_lay_1 : decode cX9_lay 1 = .ok (.ifCond .lt 23, 3) := by decide +kernel
theorem dX9_lay_4 : decode cX9_lay 4 = .ok (.iload_n 1, 1) := by decide +kernel
theorem dX9_lay_5 : decode cX9_lay 5 = .ok (.bipush 60, 2) := by decide +kernel
theorem dX9_lay_7 : decode cX9_lay 7 = .ok (.if_icmp .ge 17, 3) := by decide +kernel
theorem dX9_lay_10 : decode cX9_lay 10 = .ok (.aload_n 0, 1) := by decide +kernel
theorem dX9_lay_11 : decode cX9_lay 11 = .ok (.getfield 9, 3) := by decide +kernel
theorem dX9_lay_14 : decode cX9_lay 14 = .ok (.iload_n 1, 1) := by decide +kernel
theorem dX9_lay_15 : decode cX9_lay 15 = .ok (.iload_n 2, 1) := by decide +kernel
theorem dX9_lay_16 : decode cX9_lay 16 = .ok (.iastore, 1) := by decide +kernel
theorem dX9_lay_17 : decode cX9_lay 17 = .ok (.aload_n 0, 1) := by decide +kernel
theorem dX9_lay_18 : decode cX9_lay 18 = .ok (.getfield 15, 3) := by decide +kernel
theorem dX9_lay_21 : decode cX9_lay 21 = .ok (.iload_n 1, 1) := by decide +kernel
theorem dX9_lay_22 : decode cX9_lay 22 = .ok (.iload_n 3, 1) := by decide +kernel
theorem dX9_lay_23 : decode cX9_lay 23 = .ok (.iastore, 1) := by decide +kernel
theorem dX9_lay_24 : decode cX9_lay 24 = .ok (.return_, 1) := by decide +kernel
theorem dX9_forces_0 : decode cX9_forces 0 = .ok (.aload_n 0, 1) := by decide +kernel
theorem dX9_forces_1 : decode cX9_forces 1 = .ok (.iload_n 1, 1) := by decide +kernel
theorem dX9_forces_2 : decode cX9_forces 2 = .ok (.invokevirtual 32, 3) := by decide +kernel
theorem dX9_forces_5 : decode cX9_forces 5 = .ok (.ifCond .eq 32, 3) := by decide +kernel
theorem dX9_forces_8 : decode cX9_forces 8 = .ok (.aload_n 0, 1) := by decide +kernel
theorem dX9_forces_9 : decode cX9_forces 9 = .ok (.getfield 28, 3) := by decide +kernel
theorem dX9_forces_12 : decode cX9_forces 12 = .ok (.iload_n 2, 1) := by decide +kernel
theorem dX9_forces_13 : decode cX9_forces 13 = .ok (.invokevirtual 40, 3) := by decide +kernel
theorem dX9_forces_16 : decode cX9_forces 16 = .ok (.ifCond .eq 21, 3) := by decide +kernel
theorem dX9_forces_19 : decode cX9_forces 19 = .ok (.aload_n 0, 1) := by decide +kernel
theorem dX9_forces_20 : decode cX9_forces 20 = .ok (.getfield 15, 3) := by decide +kernel
theorem dX9_forces_23 : decode cX9_forces 23 = .ok (.iload_n 1, 1) := by decide +kernel
theorem dX9_forces_24 : decode cX9_forces 24 = .ok (.iaload, 1) := by decide +kernel
theorem dX9_forces_25 : decode cX9_forces 25 = .ok (.iload_n 2, 1) := by decide +kernel
theorem dX9_forces_26 : decode cX9_forces 26 = .ok (.iushr, 1) := by decide +kernel
theorem dX9_forces_27 : decode cX9_forces 27 = .ok (.iconst 1, 1) := by decide +kernel
theorem dX9_forces_28 : decode cX9_forces 28 = .ok (.iand, 1) := by decide +kernel
theorem dX9_forces_29 : decode cX9_forces 29 = .ok (.iconst 1, 1) := by decide +kernel
theorem dX9_forces_30 : decode cX9_forces 30 = .ok (.if_icmp .ne 7, 3) := by decide +kernel
theorem dX9_forces_33 : decode cX9_forces 33 = .ok (.iconst 1, 1) := by decide +kernel
theorem dX9_forces_34 : decode cX9_forces 34 = .ok (.goto 4, 3) := by decide +kernel
theorem dX9_forces_37 : decode cX9_forces 37 = .ok (.iconst 0, 1) := by decide +kernel
theorem dX9_forces_38 : decode cX9_forces 38 = .ok (.ireturn, 1) := by decide +kernel
theorem dX9_forcing_0 : decode cX9_forcing 0 = .ok (.lconst 0, 1) := by decide +kernel
theorem dX9_forcing_1 : decode cX9_forcing 1 = .ok (.lstore_n 2, 1) := by decide +kernel
theorem dX9_forcing_2 : decode cX9_forcing 2 = .ok (.iconst 0, 1) := by decide +kernel
theorem dX9_forcing_3 : decode cX9_forcing 3 = .ok (.istore 4, 2) := by decide +kernel
theorem dX9_forcing_5 : decode cX9_forcing 5 = .ok (.iload 4, 2) := by decide +kernel
theorem dX9_forcing_7 : decode cX9_forcing 7 = .ok (.aload_n 0, 1) := by decide +kernel
theorem dX9_forcing_8 : decode cX9_forcing 8 = .ok (.getfield 24, 3) := by decide +kernel
theorem dX9_forcing_11 : decode cX9_forcing 11 = .ok (.if_icmp .ge 33, 3) := by decide +kernel
theorem dX9_forcing_14 : decode cX9_forcing 14 = .ok (.iload 4, 2) := by decide +kernel
theorem dX9_forcing_16 : decode cX9_forcing 16 = .ok (.bipush 60, 2) := by decide +kernel
theorem dX9_forcing_18 : decode cX9_forcing 18 = .ok (.if_icmp .ge 26, 3) := by decide +kernel
theorem dX9_forcing_21 : decode cX9_forcing 21 = .ok (.aload_n 0, 1) := by decide +kernel
theorem dX9_forcing_22 : decode cX9_forcing 22 = .ok (.iload 4, 2) := by decide +kernel
theorem dX9_forcing_24 : decode cX9_forcing 24 = .ok (.iload_n 1, 1) := by decide +kernel
theorem dX9_forcing_25 : decode cX9_forcing 25 = .ok (.invokevirtual 45, 3) := by decide +kernel
theorem dX9_forcing_28 : decode cX9_forcing 28 = .ok (.ifCond .eq 10, 3) := by decide +kernel
theorem dX9_forcing_31 : decode cX9_forcing 31 = .ok (.lload_n 2, 1) := by decide +kernel
theorem dX9_forcing_32 : decode cX9_forcing 32 = .ok (.lconst 1, 1) := by decide +kernel
theorem dX9_forcing_33 : decode cX9_forcing 33 = .ok (.iload 4, 2) := by decide +kernel
theorem dX9_forcing_35 : decode cX9_forcing 35 = .ok (.lshl, 1) := by decide +kernel
theorem dX9_forcing_36 : decode cX9_forcing 36 = .ok (.lor, 1) := by decide +kernel
theorem dX9_forcing_37 : decode cX9_forcing 37 = .ok (.lstore_n 2, 1) := by decide +kernel
theorem dX9_forcing_38 : decode cX9_forcing 38 = .ok (.iinc 4 1, 3) := by decide +kernel
theorem dX9_forcing_41 : decode cX9_forcing 41 = .ok (.goto (-36), 3) := by decide +kernel
theorem dX9_forcing_44 : decode cX9_forcing 44 = .ok (.lload_n 2, 1) := by decide +kernel
theorem dX9_forcing_45 : decode cX9_forcing 45 = .ok (.lreturn, 1) := by decide +kernel
theorem dX9_above_0 : decode cX9_above 0 = .ok (.lconst 1, 1) := by decide +kernel
theorem dX9_above_1 : decode cX9_above 1 = .ok (.iload_n 1, 1) := by decide +kernel
theorem dX9_above_2 : decode cX9_above 2 = .ok (.lshl, 1) := by decide +kernel
theorem dX9_above_3 : decode cX9_above 3 = .ok (.lstore_n 2, 1) := by decide +kernel
theorem dX9_above_4 : decode cX9_above 4 = .ok (.iload_n 1, 1) := by decide +kernel
theorem dX9_above_5 : decode cX9_above 5 = .ok (.iconst 0, 1) := by decide +kernel
theorem dX9_above_6 : decode cX9_above 6 = .ok (.invokestatic 49, 3) := by decide +kernel
theorem dX9_above_9 : decode cX9_above 9 = .ok (.iconst 1, 1) := by decide +kernel
theorem dX9_above_10 : decode cX9_above 10 = .ok (.iadd, 1) := by decide +kernel
theorem dX9_above_11 : decode cX9_above 11 = .ok (.istore 4, 2) := by decide +kernel
theorem dX9_above_13 : decode cX9_above 13 = .ok (.iload 4, 2) := by decide +kernel
theorem dX9_above_15 : decode cX9_above 15 = .ok (.aload_n 0, 1) := by decide +kernel
theorem dX9_above_16 : decode cX9_above 16 = .ok (.getfield 24, 3) := by decide +kernel
theorem dX9_above_19 : decode cX9_above 19 = .ok (.if_icmp .ge 39, 3) := by decide +kernel
theorem dX9_above_22 : decode cX9_above 22 = .ok (.iload 4, 2) := by decide +kernel
theorem dX9_above_24 : decode cX9_above 24 = .ok (.bipush 60, 2) := by decide +kernel
theorem dX9_above_26 : decode cX9_above 26 = .ok (.if_icmp .ge 32, 3) := by decide +kernel
theorem dX9_above_29 : decode cX9_above 29 = .ok (.lload_n 2, 1) := by decide +kernel
theorem dX9_above_30 : decode cX9_above 30 = .ok (.aload_n 0, 1) := by decide +kernel
theorem dX9_above_31 : decode cX9_above 31 = .ok (.getfield 9, 3) := by decide +kernel
theorem dX9_above_34 : decode cX9_above 34 = .ok (.iload 4, 2) := by decide +kernel
theorem dX9_above_36 : decode cX9_above 36 = .ok (.iaload, 1) := by decide +kernel
theorem dX9_above_37 : decode cX9_above 37 = .ok (.lushr, 1) := by decide +kernel
theorem dX9_above_38 : decode cX9_above 38 = .ok (.lconst 1, 1) := by decide +kernel
theorem dX9_above_39 : decode cX9_above 39 = .ok (.land, 1) := by decide +kernel
theorem dX9_above_40 : decode cX9_above 40 = .ok (.lconst 1, 1) := by decide +kernel
theorem dX9_above_41 : decode cX9_above 41 = .ok (.lcmp, 1) := by decide +kernel
theorem dX9_above_42 : decode cX9_above 42 = .ok (.ifCond .ne 10, 3) := by decide +kernel
theorem dX9_above_45 : decode cX9_above 45 = .ok (.lload_n 2, 1) := by decide +kernel
theorem dX9_above_46 : decode cX9_above 46 = .ok (.lconst 1, 1) := by decide +kernel
theorem dX9_above_47 : decode cX9_above 47 = .ok (.iload 4, 2) := by decide +kernel
theorem dX9_above_49 : decode cX9_above 49 = .ok (.lshl, 1) := by decide +kernel
theorem dX9_above_50 : decode cX9_above 50 = .ok (.lor, 1) := by decide +kernel
theorem dX9_above_51 : decode cX9_above 51 = .ok (.lstore_n 2, 1) := by decide +kernel
theorem dX9_above_52 : decode cX9_above 52 = .ok (.iinc 4 1, 3) := by decide +kernel
theorem dX9_above_55 : decode cX9_above 55 = .ok (.goto (-42), 3) := by decide +kernel
theorem dX9_above_58 : decode cX9_above 58 = .ok (.lload_n 2, 1) := by decide +kernel
theorem dX9_above_59 : decode cX9_above 59 = .ok (.lreturn, 1) := by decide +kernel
theorem dX9_below_0 : decode cX9_below 0 = .ok (.lload_n 1, 1) := by decide +kernel
theorem dX9_below_1 : decode cX9_below 1 = .ok (.lstore_n 3, 1) := by decide +kernel
theorem dX9_below_2 : decode cX9_below 2 = .ok (.aload_n 0, 1) := by decide +kernel
theorem dX9_below_3 : decode cX9_below 3 = .ok (.getfield 24, 3) := by decide +kernel
theorem dX9_below_6 : decode cX9_below 6 = .ok (.bipush 60, 2) := by decide +kernel
theorem dX9_below_8 : decode cX9_below 8 = .ok (.invokestatic 55, 3) := by decide +kernel
theorem dX9_below_11 : decode cX9_below 11 = .ok (.iconst 1, 1) := by decide +kernel
theorem dX9_below_12 : decode cX9_below 12 = .ok (.isub, 1) := by decide +kernel
theorem dX9_below_13 : decode cX9_below 13 = .ok (.istore 5, 2) := by decide +kernel
theorem dX9_below_15 : decode cX9_below 15 = .ok (.iload 5, 2) := by decide +kernel
theorem dX9_below_17 : decode cX9_below 17 = .ok (.ifCond .le 32, 3) := by decide +kernel
theorem dX9_below_20 : decode cX9_below 20 = .ok (.lload_n 3, 1) := by decide +kernel
theorem dX9_below_21 : decode cX9_below 21 = .ok (.iload 5, 2) := by decide +kernel
theorem dX9_below_23 : decode cX9_below 23 = .ok (.lushr, 1) := by decide +kernel
theorem dX9_below_24 : decode cX9_below 24 = .ok (.lconst 1, 1) := by decide +kernel
theorem dX9_below_25 : decode cX9_below 25 = .ok (.land, 1) := by decide +kernel
theorem dX9_below_26 : decode cX9_below 26 = .ok (.lconst 1, 1) := by decide +kernel
theorem dX9_below_27 : decode cX9_below 27 = .ok (.lcmp, 1) := by decide +kernel
theorem dX9_below_28 : decode cX9_below 28 = .ok (.ifCond .ne 15, 3) := by decide +kernel
theorem dX9_below_31 : decode cX9_below 31 = .ok (.lload_n 3, 1) := by decide +kernel
theorem dX9_below_32 : decode cX9_below 32 = .ok (.lconst 1, 1) := by decide +kernel
theorem dX9_below_33 : decode cX9_below 33 = .ok (.aload_n 0, 1) := by decide +kernel
theorem dX9_below_34 : decode cX9_below 34 = .ok (.getfield 9, 3) := by decide +kernel
theorem dX9_below_37 : decode cX9_below 37 = .ok (.iload 5, 2) := by decide +kernel
theorem dX9_below_39 : decode cX9_below 39 = .ok (.iaload, 1) := by decide +kernel
theorem dX9_below_40 : decode cX9_below 40 = .ok (.lshl, 1) := by decide +kernel
theorem dX9_below_41 : decode cX9_below 41 = .ok (.lor, 1) := by decide +kernel
theorem dX9_below_42 : decode cX9_below 42 = .ok (.lstore_n 3, 1) := by decide +kernel
theorem dX9_below_43 : decode cX9_below 43 = .ok (.iinc 5 (-1), 3) := by decide +kernel
theorem dX9_below_46 : decode cX9_below 46 = .ok (.goto (-31), 3) := by decide +kernel
theorem dX9_below_49 : decode cX9_below 49 = .ok (.lload_n 3, 1) := by decide +kernel
theorem dX9_below_50 : decode cX9_below 50 = .ok (.lreturn, 1) := by decide +kernel
theorem dX9_forceAbove_0 : decode cX9_forceAbove 0 = .ok (.aload_n 0, 1) := by decide +kernel
theorem dX9_forceAbove_1 : decode cX9_forceAbove 1 = .ok (.iload_n 1, 1) := by decide +kernel
theorem dX9_forceAbove_2 : decode cX9_forceAbove 2 = .ok (.invokevirtual 58, 3) := by decide +kernel
theorem dX9_forceAbove_5 : decode cX9_forceAbove 5 = .ok (.lstore_n 3, 1) := by decide +kernel
theorem dX9_forceAbove_6 : decode cX9_forceAbove 6 = .ok (.iconst 0, 1) := by decide +kernel
theorem dX9_forceAbove_7 : decode cX9_forceAbove 7 = .ok (.istore 5, 2) := by decide +kernel
theorem dX9_forceAbove_9 : decode cX9_forceAbove 9 = .ok (.iconst 0, 1) := by decide +kernel
theorem dX9_forceAbove_10 : decode cX9_forceAbove 10 = .ok (.istore 6, 2) := by decide +kernel
theorem dX9_forceAbove_12 : decode cX9_forceAbove 12 = .ok (.iload 6, 2) := by decide +kernel
theorem dX9_forceAbove_14 : decode cX9_forceAbove 14 = .ok (.aload_n 0, 1) := by decide +kernel
theorem dX9_forceAbove_15 : decode cX9_forceAbove 15 = .ok (.getfield 24, 3) := by decide +kernel
theorem dX9_forceAbove_18 : decode cX9_forceAbove 18 = .ok (.if_icmp .ge 53, 3) := by decide +kernel
theorem dX9_forceAbove_21 : decode cX9_forceAbove 21 = .ok (.iload 6, 2) := by decide +kernel
theorem dX9_forceAbove_23 : decode cX9_forceAbove 23 = .ok (.bipush 60, 2) := by decide +kernel
theorem dX9_forceAbove_25 : decode cX9_forceAbove 25 = .ok (.if_icmp .ge 46, 3) := by decide +kernel
theorem dX9_forceAbove_28 : decode cX9_forceAbove 28 = .ok (.lload_n 3, 1) := by decide +kernel
theorem dX9_forceAbove_29 : decode cX9_forceAbove 29 = .ok (.iload 6, 2) := by decide +kernel
theorem dX9_forceAbove_31 : decode cX9_forceAbove 31 = .ok (.lushr, 1) := by decide +kernel
theorem dX9_forceAbove_32 : decode cX9_forceAbove 32 = .ok (.lconst 1, 1) := by decide +kernel
theorem dX9_forceAbove_33 : decode cX9_forceAbove 33 = .ok (.land, 1) := by decide +kernel
theorem dX9_forceAbove_34 : decode cX9_forceAbove 34 = .ok (.lconst 1, 1) := by decide +kernel
theorem dX9_forceAbove_35 : decode cX9_forceAbove 35 = .ok (.lcmp, 1) := by decide +kernel
theorem dX9_forceAbove_36 : decode cX9_forceAbove 36 = .ok (.ifCond .ne 29, 3) := by decide +kernel
theorem dX9_forceAbove_39 : decode cX9_forceAbove 39 = .ok (.aload_n 0, 1) := by decide +kernel
theorem dX9_forceAbove_40 : decode cX9_forceAbove 40 = .ok (.iload 6, 2) := by decide +kernel
theorem dX9_forceAbove_42 : decode cX9_forceAbove 42 = .ok (.iload_n 2, 1) := by decide +kernel
theorem dX9_forceAbove_43 : decode cX9_forceAbove 43 = .ok (.invokevirtual 45, 3) := by decide +kernel
theorem dX9_forceAbove_46 : decode cX9_forceAbove 46 = .ok (.ifCond .ne 19, 3) := by decide +kernel
theorem dX9_forceAbove_49 : decode cX9_forceAbove 49 = .ok (.aload_n 0, 1) := by decide +kernel
theorem dX9_forceAbove_50 : decode cX9_forceAbove 50 = .ok (.getfield 15, 3) := by decide +kernel
theorem dX9_forceAbove_53 : decode cX9_forceAbove 53 = .ok (.iload 6, 2) := by decide +kernel
theorem dX9_forceAbove_55 : decode cX9_forceAbove 55 = .ok (.dup2, 1) := by decide +kernel
theorem dX9_forceAbove_56 : decode cX9_forceAbove 56 = .ok (.iaload, 1) := by decide +kernel
theorem dX9_forceAbove_57 : decode cX9_forceAbove 57 = .ok (.iconst 1, 1) := by decide +kernel
theorem dX9_forceAbove_58 : decode cX9_forceAbove 58 = .ok (.iload_n 2, 1) := by decide +kernel
theorem dX9_forceAbove_59 : decode cX9_forceAbove 59 = .ok (.ishl, 1) := by decide +kernel
theorem dX9_forceAbove_60 : decode cX9_forceAbove 60 = .ok (.ior, 1) := by decide +kernel
theorem dX9_forceAbove_61 : decode cX9_forceAbove 61 = .ok (.iastore, 1) := by decide +kernel
theorem dX9_forceAbove_62 : decode cX9_forceAbove 62 = .ok (.iinc 5 1, 3) := by decide +kernel
theorem dX9_forceAbove_65 : decode cX9_forceAbove 65 = .ok (.iinc 6 1, 3) := by decide +kernel
theorem dX9_forceAbove_68 : decode cX9_forceAbove 68 = .ok (.goto (-56), 3) := by decide +kernel
theorem dX9_forceAbove_71 : decode cX9_forceAbove 71 = .ok (.iload 5, 2) := by decide +kernel
theorem dX9_forceAbove_73 : decode cX9_forceAbove 73 = .ok (.ireturn, 1) := by decide +kernel
theorem dX9_take_0 : decode cX9_take 0 = .ok (.aload_n 1, 1) := by decide +kernel
theorem dX9_take_1 : decode cX9_take 1 = .ok (.iload_n 2, 1) := by decide +kernel
theorem dX9_take_2 : decode cX9_take 2 = .ok (.invokevirtual 62, 3) := by decide +kernel
theorem dX9_take_5 : decode cX9_take 5 = .ok (.istore_n 3, 1) := by decide +kernel
theorem dX9_take_6 : decode cX9_take 6 = .ok (.iload_n 3, 1) := by decide +kernel
theorem dX9_take_7 : decode cX9_take 7 = .ok (.iconst 1, 1) := by decide +kernel
theorem dX9_take_8 : decode cX9_take 8 = .ok (.if_icmp .lt 9, 3) := by decide +kernel
theorem dX9_take_11 : decode cX9_take 11 = .ok (.iload_n 3, 1) := by decide +kernel
theorem dX9_take_12 : decode cX9_take 12 = .ok (.bipush 60, 2) := by decide +kernel
theorem dX9_take_14 : decode cX9_take 14 = .ok (.if_icmp .le 6, 3) := by decide +kernel
theorem dX9_take_17 : decode cX9_take 17 = .ok (.bipush (-4), 2) := by decide +kernel
theorem dX9_take_19 : decode cX9_take 19 = .ok (.ireturn, 1) := by decide +kernel
theorem dX9_take_20 : decode cX9_take 20 = .ok (.aload_n 0, 1) := by decide +kernel
theorem dX9_take_21 : decode cX9_take 21 = .ok (.iconst 0, 1) := by decide +kernel
theorem dX9_take_22 : decode cX9_take 22 = .ok (.iconst (-1), 1) := by decide +kernel
theorem dX9_take_23 : decode cX9_take 23 = .ok (.aload_n 1, 1) := by decide +kernel
theorem dX9_take_24 : decode cX9_take 24 = .ok (.iload_n 2, 1) := by decide +kernel
theorem dX9_take_25 : decode cX9_take 25 = .ok (.invokevirtual 68, 3) := by decide +kernel
theorem dX9_take_28 : decode cX9_take 28 = .ok (.invokevirtual 36, 3) := by decide +kernel
theorem dX9_take_31 : decode cX9_take 31 = .ok (.aload_n 0, 1) := by decide +kernel
theorem dX9_take_32 : decode cX9_take 32 = .ok (.getfield 18, 3) := by decide +kernel
theorem dX9_take_35 : decode cX9_take 35 = .ok (.iconst 0, 1) := by decide +kernel
theorem dX9_take_36 : decode cX9_take 36 = .ok (.iload_n 2, 1) := by decide +kernel
theorem dX9_take_37 : decode cX9_take 37 = .ok (.iastore, 1) := by decide +kernel
theorem dX9_take_38 : decode cX9_take 38 = .ok (.aload_n 0, 1) := by decide +kernel
theorem dX9_take_39 : decode cX9_take 39 = .ok (.getfield 21, 3) := by decide +kernel
theorem dX9_take_42 : decode cX9_take 42 = .ok (.iconst 0, 1) := by decide +kernel
theorem dX9_take_43 : decode cX9_take 43 = .ok (.iconst 0, 1) := by decide +kernel
theorem dX9_take_44 : decode cX9_take 44 = .ok (.iastore, 1) := by decide +kernel
theorem dX9_take_45 : decode cX9_take 45 = .ok (.iconst 1, 1) := by decide +kernel
theorem dX9_take_46 : decode cX9_take 46 = .ok (.istore 4, 2) := by decide +kernel
theorem dX9_take_48 : decode cX9_take 48 = .ok (.iconst 0, 1) := by decide +kernel
theorem dX9_take_49 : decode cX9_take 49 = .ok (.istore 5, 2) := by decide +kernel
theorem dX9_take_51 : decode cX9_take 51 = .ok (.iload 5, 2) := by decide +kernel
theorem dX9_take_53 : decode cX9_take 53 = .ok (.iload 4, 2) := by decide +kernel
theorem dX9_take_55 : decode cX9_take 55 = .ok (.if_icmp .ge 26, 3) := by decide +kernel
theorem dX9_take_58 : decode cX9_take 58 = .ok (.iload 5, 2) := by decide +kernel
theorem dX9_take_60 : decode cX9_take 60 = .ok (.iload_n 3, 1) := by decide +kernel
theorem dX9_take_61 : decode cX9_take 61 = .ok (.if_icmp .ge 20, 3) := by decide +kernel
theorem dX9_take_64 : decode cX9_take 64 = .ok (.aload_n 0, 1) := by decide +kernel
theorem dX9_take_65 : decode cX9_take 65 = .ok (.aload_n 1, 1) := by decide +kernel
theorem dX9_take_66 : decode cX9_take 66 = .ok (.iload 5, 2) := by decide +kernel
theorem dX9_take_68 : decode cX9_take 68 = .ok (.iload 4, 2) := by decide +kernel
theorem dX9_take_70 : decode cX9_take 70 = .ok (.invokevirtual 71, 3) := by decide +kernel
theorem dX9_take_73 : decode cX9_take 73 = .ok (.istore 4, 2) := by decide +kernel
theorem dX9_take_75 : decode cX9_take 75 = .ok (.iinc 5 1, 3) := by decide +kernel
theorem dX9_take_78 : decode cX9_take 78 = .ok (.goto (-27), 3) := by decide +kernel
theorem dX9_take_81 : decode cX9_take 81 = .ok (.aload_n 0, 1) := by decide +kernel
theorem dX9_take_82 : decode cX9_take 82 = .ok (.iload_n 3, 1) := by decide +kernel
theorem dX9_take_83 : decode cX9_take 83 = .ok (.putfield 24, 3) := by decide +kernel
theorem dX9_take_86 : decode cX9_take 86 = .ok (.aload_n 0, 1) := by decide +kernel
theorem dX9_take_87 : decode cX9_take 87 = .ok (.getfield 24, 3) := by decide +kernel
theorem dX9_take_90 : decode cX9_take 90 = .ok (.ireturn, 1) := by decide +kernel
theorem dX9_layChildren_0 : decode cX9_layChildren 0 = .ok (.iload_n 3, 1) := by decide +kernel
theorem dX9_layChildren_1 : decode cX9_layChildren 1 = .ok (.istore 4, 2) := by decide +kernel
theorem dX9_layChildren_3 : decode cX9_layChildren 3 = .ok (.iload_n 2, 1) := by decide +kernel
theorem dX9_layChildren_4 : decode cX9_layChildren 4 = .ok (.ifCond .lt 9, 3) := by decide +kernel
theorem dX9_layChildren_7 : decode cX9_layChildren 7 = .ok (.iload_n 2, 1) := by decide +kernel
theorem dX9_layChildren_8 : decode cX9_layChildren 8 = .ok (.bipush 60, 2) := by decide +kernel
theorem dX9_layChildren_10 : decode cX9_layChildren 10 = .ok (.if_icmp .lt 6, 3) := by decide +kernel
theorem dX9_layChildren_13 : decode cX9_layChildren 13 = .ok (.iload 4, 2) := by decide +kernel
theorem dX9_layChildren_15 : decode cX9_layChildren 15 = .ok (.ireturn, 1) := by decide +kernel
theorem dX9_layChildren_16 : decode cX9_layChildren 16 = .ok (.aload_n 0, 1) := by decide +kernel
theorem dX9_layChildren_17 : decode cX9_layChildren 17 = .ok (.getfield 21, 3) := by decide +kernel
theorem dX9_layChildren_20 : decode cX9_layChildren 20 = .ok (.iload_n 2, 1) := by decide +kernel
theorem dX9_layChildren_21 : decode cX9_layChildren 21 = .ok (.iaload, 1) := by decide +kernel
theorem dX9_layChildren_22 : decode cX9_layChildren 22 = .ok (.iconst 1, 1) := by decide +kernel
theorem dX9_layChildren_23 : decode cX9_layChildren 23 = .ok (.iadd, 1) := by decide +kernel
theorem dX9_layChildren_24 : decode cX9_layChildren 24 = .ok (.istore 5, 2) := by decide +kernel
theorem dX9_layChildren_26 : decode cX9_layChildren 26 = .ok (.aload_n 1, 1) := by decide +kernel
theorem dX9_layChildren_27 : decode cX9_layChildren 27 = .ok (.aload_n 0, 1) := by decide +kernel
theorem dX9_layChildren_28 : decode cX9_layChildren 28 = .ok (.getfield 18, 3) := by decide +kernel
theorem dX9_layChildren_31 : decode cX9_layChildren 31 = .ok (.iload_n 2, 1) := by decide +kernel
theorem dX9_layChildren_32 : decode cX9_layChildren 32 = .ok (.iaload, 1) := by decide +kernel
theorem dX9_layChildren_33 : decode cX9_layChildren 33 = .ok (.invokevirtual 75, 3) := by decide +kernel
theorem dX9_layChildren_36 : decode cX9_layChildren 36 = .ok (.istore 6, 2) := by decide +kernel
theorem dX9_layChildren_38 : decode cX9_layChildren 38 = .ok (.iload 4, 2) := by decide +kernel
theorem dX9_layChildren_40 : decode cX9_layChildren 40 = .ok (.ifCond .lt 80, 3) := by decide +kernel
theorem dX9_layChildren_43 : decode cX9_layChildren 43 = .ok (.iload 4, 2) := by decide +kernel
theorem dX9_layChildren_45 : decode cX9_layChildren 45 = .ok (.bipush 60, 2) := by decide +kernel
theorem dX9_layChildren_47 : decode cX9_layChildren 47 = .ok (.if_icmp .ge 73, 3) := by decide +kernel
theorem dX9_layChildren_50 : decode cX9_layChildren 50 = .ok (.aload_n 1, 1) := by decide +kernel
theorem dX9_layChildren_51 : decode cX9_layChildren 51 = .ok (.iload 6, 2) := by decide +kernel
theorem dX9_layChildren_53 : decode cX9_layChildren 53 = .ok (.invokevirtual 78, 3) := by decide +kernel
theorem dX9_layChildren_56 : decode cX9_layChildren 56 = .ok (.ifCond .eq 64, 3) := by decide +kernel
theorem dX9_layChildren_59 : decode cX9_layChildren 59 = .ok (.aload_n 0, 1) := by decide +kernel
theorem dX9_layChildren_60 : decode cX9_layChildren 60 = .ok (.iload 5, 2) := by decide +kernel
theorem dX9_layChildren_62 : decode cX9_layChildren 62 = .ok (.aload_n 0, 1) := by decide +kernel
theorem dX9_layChildren_63 : decode cX9_layChildren 63 = .ok (.getfield 21, 3) := by decide +kernel
theorem dX9_layChildren_66 : decode cX9_layChildren 66 = .ok (.iload_n 2, 1) := by decide +kernel
theorem dX9_layChildren_67 : decode cX9_layChildren 67 = .ok (.iaload, 1) := by decide +kernel
theorem dX9_layChildren_68 : decode cX9_layChildren 68 = .ok (.aload_n 1, 1) := by decide +kernel
theorem dX9_layChildren_69 : decode cX9_layChildren 69 = .ok (.iload 6, 2) := by decide +kernel
theorem dX9_layChildren_71 : decode cX9_layChildren 71 = .ok (.invokevirtual 68, 3) := by decide +kernel
theorem dX9_layChildren_74 : decode cX9_layChildren 74 = .ok (.invokevirtual 36, 3) := by decide +kernel
theorem dX9_layChildren_77 : decode cX9_layChildren 77 = .ok (.aload_n 0, 1) := by decide +kernel
theorem dX9_layChildren_78 : decode cX9_layChildren 78 = .ok (.getfield 18, 3) := by decide +kernel
theorem dX9_layChildren_81 : decode cX9_layChildren 81 = .ok (.iload 4, 2) := by decide +kernel
theorem dX9_layChildren_83 : decode cX9_layChildren 83 = .ok (.iload 6, 2) := by decide +kernel
theorem dX9_layChildren_85 : decode cX9_layChildren 85 = .ok (.iastore, 1) := by decide +kernel
theorem dX9_layChildren_86 : decode cX9_layChildren 86 = .ok (.aload_n 0, 1) := by decide +kernel
theorem dX9_layChildren_87 : decode cX9_layChildren 87 = .ok (.getfield 21, 3) := by decide +kernel
theorem dX9_layChildren_90 : decode cX9_layChildren 90 = .ok (.iload 4, 2) := by decide +kernel
theorem dX9_layChildren_92 : decode cX9_layChildren 92 = .ok (.iload 5, 2) := by decide +kernel
theorem dX9_layChildren_94 : decode cX9_layChildren 94 = .ok (.iastore, 1) := by decide +kernel
theorem dX9_layChildren_95 : decode cX9_layChildren 95 = .ok (.iload 5, 2) := by decide +kernel
theorem dX9_layChildren_97 : decode cX9_layChildren 97 = .ok (.aload_n 1, 1) := by decide +kernel
theorem dX9_layChildren_98 : decode cX9_layChildren 98 = .ok (.iload 6, 2) := by decide +kernel
theorem dX9_layChildren_100 : decode cX9_layChildren 100 = .ok (.invokevirtual 62, 3) := by decide +kernel
theorem dX9_layChildren_103 : decode cX9_layChildren 103 = .ok (.iadd, 1) := by decide +kernel
theorem dX9_layChildren_104 : decode cX9_layChildren 104 = .ok (.istore 5, 2) := by decide +kernel
theorem dX9_layChildren_106 : decode cX9_layChildren 106 = .ok (.aload_n 1, 1) := by decide +kernel
theorem dX9_layChildren_107 : decode cX9_layChildren 107 = .ok (.iload 6, 2) := by decide +kernel
theorem dX9_layChildren_109 : decode cX9_layChildren 109 = .ok (.invokevirtual 79, 3) := by decide +kernel
theorem dX9_layChildren_112 : decode cX9_layChildren 112 = .ok (.istore 6, 2) := by decide +kernel
theorem dX9_layChildren_114 : decode cX9_layChildren 114 = .ok (.iinc 4 1, 3) := by decide +kernel
theorem dX9_layChildren_117 : decode cX9_layChildren 117 = .ok (.goto (-79), 3) := by decide +kernel
theorem dX9_layChildren_120 : decode cX9_layChildren 120 = .ok (.iload 4, 2) := by decide +kernel
theorem dX9_layChildren_122 : decode cX9_layChildren 122 = .ok (.ireturn, 1) := by decide +kernel
