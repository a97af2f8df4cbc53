theorem dX7_barBehind_28 : decode cX7_barBehind 28 = .ok (.ireturn, 1) := by decide +kernel
theorem dX7_barBehind_29 : decode cX7_barBehind 29 = .ok (.iinc 2 1, 3) := by decide +kernel
theorem dX7_barBehind_32 : decode cX7_barBehind 32 = .ok (.goto (-22), 3) := by decide +kernel
theorem dX7_barBehind_35 : decode cX7_barBehind 35 = .ok (.iconst 0, 1) := by decide +kernel
theorem dX7_barBehind_36 : decode cX7_barBehind 36 = .ok (.ireturn, 1) := by decide +kernel
theorem dX7_bars_0 : decode cX7_bars 0 = .ok (.aload_n 0, 1) := by decide +kernel
theorem dX7_bars_1 : decode cX7_bars 1 = .ok (.getfield 34, 3) := by decide +kernel
theorem dX7_bars_4 : decode cX7_bars 4 = .ok (.iconst 2, 1) := by decide +kernel
theorem dX7_bars_5 : decode cX7_bars 5 = .ok (.if_icmp .ne 12, 3) := by decide +kernel
theorem dX7_bars_8 : decode cX7_bars 8 = .ok (.aload_n 0, 1) := by decide +kernel
theorem dX7_bars_9 : decode cX7_bars 9 = .ok (.getfield 21, 3) := by decide +kernel
theorem dX7_bars_12 : decode cX7_bars 12 = .ok (.iconst 1, 1) := by decide +kernel
theorem dX7_bars_13 : decode cX7_bars 13 = .ok (.iadd, 1) := by decide +kernel
theorem dX7_bars_14 : decode cX7_bars 14 = .ok (.goto 4, 3) := by decide +kernel
theorem dX7_bars_17 : decode cX7_bars 17 = .ok (.iconst 1, 1) := by decide +kernel
theorem dX7_bars_18 : decode cX7_bars 18 = .ok (.ireturn, 1) := by decide +kernel
theorem dX7_oddMinusEven_0 : decode cX7_oddMinusEven 0 = .ok (.iconst 0, 1) := by decide +kernel
theorem dX7_oddMinusEven_1 : decode cX7_oddMinusEven 1 = .ok (.istore_n 1, 1) := by decide +kernel
theorem dX7_oddMinusEven_2 : decode cX7_oddMinusEven 2 = .ok (.iconst 0, 1) := by decide +kernel
theorem dX7_oddMinusEven_3 : decode cX7_oddMinusEven 3 = .ok (.istore_n 2, 1) := by decide +kernel
theorem dX7_oddMinusEven_4 : decode cX7_oddMinusEven 4 = .ok (.iload_n 2, 1) := by decide +kernel
theorem dX7_oddMinusEven_5 : decode cX7_oddMinusEven 5 = .ok (.aload_n 0, 1) := by decide +kernel
theorem dX7_oddMinusEven_6 : decode cX7_oddMinusEven 6 = .ok (.getfield 25, 3) := by decide +kernel
theorem dX7_oddMinusEven_9 : decode cX7_oddMinusEven 9 = .ok (.if_icmp .ge 35, 3) := by decide +kernel
theorem dX7_oddMinusEven_12 : decode cX7_oddMinusEven 12 = .ok (.iload_n 1, 1) := by decide +kernel
theorem dX7_oddMinusEven_13 : decode cX7_oddMinusEven 13 = .ok (.aload_n 0, 1) := by decide +kernel
theorem dX7_oddMinusEven_14 : decode cX7_oddMinusEven 14 = .ok (.getfield 15, 3) := by decide +kernel
theorem dX7_oddMinusEven_17 : decode cX7_oddMinusEven 17 = .ok (.iload_n 2, 1) := by decide +kernel
theorem dX7_oddMinusEven_18 : decode cX7_oddMinusEven 18 = .ok (.iaload, 1) := by decide +kernel
theorem dX7_oddMinusEven_19 : decode cX7_oddMinusEven 19 = .ok (.bipush 31, 2) := by decide +kernel
theorem dX7_oddMinusEven_21 : decode cX7_oddMinusEven 21 = .ok (.iand, 1) := by decide +kernel
theorem dX7_oddMinusEven_22 : decode cX7_oddMinusEven 22 = .ok (.invokestatic 44, 3) := by decide +kernel
theorem dX7_oddMinusEven_25 : decode cX7_oddMinusEven 25 = .ok (.iconst 2, 1) := by decide +kernel
theorem dX7_oddMinusEven_26 : decode cX7_oddMinusEven 26 = .ok (.irem, 1) := by decide +kernel
theorem dX7_oddMinusEven_27 : decode cX7_oddMinusEven 27 = .ok (.iconst 1, 1) := by decide +kernel
theorem dX7_oddMinusEven_28 : decode cX7_oddMinusEven 28 = .ok (.if_icmp .ne 7, 3) := by decide +kernel
theorem dX7_oddMinusEven_31 : decode cX7_oddMinusEven 31 = .ok (.iconst 1, 1) := by decide +kernel
theorem dX7_oddMinusEven_32 : decode cX7_oddMinusEven 32 = .ok (.goto 4, 3) := by decide +kernel
theorem dX7_oddMinusEven_35 : decode cX7_oddMinusEven 35 = .ok (.iconst (-1), 1) := by decide +kernel
theorem dX7_oddMinusEven_36 : decode cX7_oddMinusEven 36 = .ok (.iadd, 1) := by decide +kernel
theorem dX7_oddMinusEven_37 : decode cX7_oddMinusEven 37 = .ok (.istore_n 1, 1) := by decide +kernel
theorem dX7_oddMinusEven_38 : decode cX7_oddMinusEven 38 = .ok (.iinc 2 1, 3) := by decide +kernel
theorem dX7_oddMinusEven_41 : decode cX7_oddMinusEven 41 = .ok (.goto (-37), 3) := by decide +kernel
theorem dX7_oddMinusEven_44 : decode cX7_oddMinusEven 44 = .ok (.iload_n 1, 1) := by decide +kernel
theorem dX7_oddMinusEven_45 : decode cX7_oddMinusEven 45 = .ok (.ireturn, 1) := by decide +kernel
theorem dX7_isSameGuard_0 : decode cX7_isSameGuard 0 = .ok (.iconst 0, 1) := by decide +kernel
theorem dX7_isSameGuard_1 : decode cX7_isSameGuard 1 = .ok (.istore_n 2, 1) := by decide +kernel
theorem dX7_isSameGuard_2 : decode cX7_isSameGuard 2 = .ok (.iload_n 2, 1) := by decide +kernel
theorem dX7_isSameGuard_3 : decode cX7_isSameGuard 3 = .ok (.aload_n 0, 1) := by decide +kernel
theorem dX7_isSameGuard_4 : decode cX7_isSameGuard 4 = .ok (.getfield 25, 3) := by decide +kernel
theorem dX7_isSameGuard_7 : decode cX7_isSameGuard 7 = .ok (.if_icmp .ge 60, 3) := by decide +kernel
theorem dX7_isSameGuard_10 : decode cX7_isSameGuard 10 = .ok (.iconst 0, 1) := by decide +kernel
theorem dX7_isSameGuard_11 : decode cX7_isSameGuard 11 = .ok (.istore_n 3, 1) := by decide +kernel
theorem dX7_isSameGuard_12 : decode cX7_isSameGuard 12 = .ok (.iload_n 3, 1) := by decide +kernel
theorem dX7_isSameGuard_13 : decode cX7_isSameGuard 13 = .ok (.iload_n 2, 1) := by decide +kernel
theorem dX7_isSameGuard_14 : decode cX7_isSameGuard 14 = .ok (.if_icmp .ge 47, 3) := by decide +kernel
theorem dX7_isSameGuard_17 : decode cX7_isSameGuard 17 = .ok (.aload_n 0, 1) := by decide +kernel
theorem dX7_isSameGuard_18 : decode cX7_isSameGuard 18 = .ok (.getfield 15, 3) := by decide +kernel
theorem dX7_isSameGuard_21 : decode cX7_isSameGuard 21 = .ok (.iload_n 2, 1) := by decide +kernel
theorem dX7_isSameGuard_22 : decode cX7_isSameGuard 22 = .ok (.iaload, 1) := by decide +kernel
theorem dX7_isSameGuard_23 : decode cX7_isSameGuard 23 = .ok (.aload_n 0, 1) := by decide +kernel
theorem dX7_isSameGuard_24 : decode cX7_isSameGuard 24 = .ok (.getfield 15, 3) := by decide +kernel
theorem dX7_isSameGuard_27 : decode cX7_isSameGuard 27 = .ok (.iload_n 3, 1) := by decide +kernel
theorem dX7_isSameGuard_28 : decode cX7_isSameGuard 28 = .ok (.iaload, 1) := by decide +kernel
theorem dX7_isSameGuard_29 : decode cX7_isSameGuard 29 = .ok (.invokestatic 57, 3) := by decide +kernel
theorem dX7_isSameGuard_32 : decode cX7_isSameGuard 32 = .ok (.istore 4, 2) := by decide +kernel
theorem dX7_isSameGuard_34 : decode cX7_isSameGuard 34 = .ok (.aload_n 0, 1) := by decide +kernel
theorem dX7_isSameGuard_35 : decode cX7_isSameGuard 35 = .ok (.iload 4, 2) := by decide +kernel
theorem dX7_isSameGuard_37 : decode cX7_isSameGuard 37 = .ok (.iconst 0, 1) := by decide +kernel
theorem dX7_isSameGuard_38 : decode cX7_isSameGuard 38 = .ok (.invokevirtual 67, 3) := by decide +kernel
theorem dX7_isSameGuard_41 : decode cX7_isSameGuard 41 = .ok (.aload_n 0, 1) := by decide +kernel
theorem dX7_isSameGuard_42 : decode cX7_isSameGuard 42 = .ok (.iload 4, 2) := by decide +kernel
theorem dX7_isSameGuard_44 : decode cX7_isSameGuard 44 = .ok (.iload_n 1, 1) := by decide +kernel
theorem dX7_isSameGuard_45 : decode cX7_isSameGuard 45 = .ok (.iand, 1) := by decide +kernel
theorem dX7_isSameGuard_46 : decode cX7_isSameGuard 46 = .ok (.iconst 0, 1) := by decide +kernel
theorem dX7_isSameGuard_47 : decode cX7_isSameGuard 47 = .ok (.invokevirtual 67, 3) := by decide +kernel
theorem dX7_isSameGuard_50 : decode cX7_isSameGuard 50 = .ok (.if_icmp .eq 5, 3) := by decide +kernel
theorem dX7_isSameGuard_53 : decode cX7_isSameGuard 53 = .ok (.iconst 0, 1) := by decide +kernel
theorem dX7_isSameGuard_54 : decode cX7_isSameGuard 54 = .ok (.ireturn, 1) := by decide +kernel
theorem dX7_isSameGuard_55 : decode cX7_isSameGuard 55 = .ok (.iinc 3 1, 3) := by decide +kernel
theorem dX7_isSameGuard_58 : decode cX7_isSameGuard 58 = .ok (.goto (-46), 3) := by decide +kernel
theorem dX7_isSameGuard_61 : decode cX7_isSameGuard 61 = .ok (.iinc 2 1, 3) := by decide +kernel
theorem dX7_isSameGuard_64 : decode cX7_isSameGuard 64 = .ok (.goto (-62), 3) := by decide +kernel
theorem dX7_isSameGuard_67 : decode cX7_isSameGuard 67 = .ok (.iconst 1, 1) := by decide +kernel
theorem dX7_isSameGuard_68 : decode cX7_isSameGuard 68 = .ok (.ireturn, 1) := by decide +kernel
theorem dX7_drawn_0 : decode cX7_drawn 0 = .ok (.ldc2_w 71, 3) := by decide +kernel
theorem dX7_drawn_3 : decode cX7_drawn 3 = .ok (.iload_n 1, 1) := by decide +kernel
theorem dX7_drawn_4 : decode cX7_drawn 4 = .ok (.i2l, 1) := by decide +kernel
theorem dX7_drawn_5 : decode cX7_drawn 5 = .ok (.lmul, 1) := by decide +kernel
theorem dX7_drawn_6 : decode cX7_drawn 6 = .ok (.ldc2_w 73, 3) := by decide +kernel
theorem dX7_drawn_9 : decode cX7_drawn 9 = .ok (.iload_n 2, 1) := by decide +kernel
theorem dX7_drawn_10 : decode cX7_drawn 10 = .ok (.i2l, 1) := by decide +kernel
theorem dX7_drawn_11 : decode cX7_drawn 11 = .ok (.lmul, 1) := by decide +kernel
theorem dX7_drawn_12 : decode cX7_drawn 12 = .ok (.ladd, 1) := by decide +kernel
theorem dX7_drawn_13 : decode cX7_drawn 13 = .ok (.lconst 1, 1) := by decide +kernel
theorem dX7_drawn_14 : decode cX7_drawn 14 = .ok (.ladd, 1) := by decide +kernel
theorem dX7_drawn_15 : decode cX7_drawn 15 = .ok (.lstore_n 3, 1) := by decide +kernel
theorem dX7_drawn_16 : decode cX7_drawn 16 = .ok (.aload_n 0, 1) := by decide +kernel
theorem dX7_drawn_17 : decode cX7_drawn 17 = .ok (.getfield 25, 3) := by decide +kernel
theorem dX7_drawn_20 : decode cX7_drawn 20 = .ok (.iconst 1, 1) := by decide +kernel
theorem dX7_drawn_21 : decode cX7_drawn 21 = .ok (.if_icmp .ge 7, 3) := by decide +kernel
theorem dX7_drawn_24 : decode cX7_drawn 24 = .ok (.iconst 0, 1) := by decide +kernel
theorem dX7_drawn_25 : decode cX7_drawn 25 = .ok (.goto 17, 3) := by decide +kernel
theorem dX7_drawn_28 : decode cX7_drawn 28 = .ok (.lload_n 3, 1) := by decide +kernel
theorem dX7_drawn_29 : decode cX7_drawn 29 = .ok (.lload_n 3, 1) := by decide +kernel
theorem dX7_drawn_30 : decode cX7_drawn 30 = .ok (.lmul, 1) := by decide +kernel
theorem dX7_drawn_31 : decode cX7_drawn 31 = .ok (.ldc2_w 75, 3) := by decide +kernel
theorem dX7_drawn_34 : decode cX7_drawn 34 = .ok (.lrem, 1) := by decide +kernel
theorem dX7_drawn_35 : decode cX7_drawn 35 = .ok (.aload_n 0, 1) := by decide +kernel
theorem dX7_drawn_36 : decode cX7_drawn 36 = .ok (.getfield 25, 3) := by decide +kernel
theorem dX7_drawn_39 : decode cX7_drawn 39 = .ok (.i2l, 1) := by decide +kernel
theorem dX7_drawn_40 : decode cX7_drawn 40 = .ok (.lrem, 1) := by decide +kernel
theorem dX7_drawn_41 : decode cX7_drawn 41 = .ok (.l2i, 1) := by decide +kernel
theorem dX7_drawn_42 : decode cX7_drawn 42 = .ok (.ireturn, 1) := by decide +kernel
theorem dX8_init_0 : decode cX8_init 0 = .ok (.aload_n 0, 1) := by decide +kernel
theorem dX8_init_1 : decode cX8_init 1 = .ok (.invokespecial 3, 3) := by decide +kernel
theorem dX8_init_4 : decode cX8_init 4 = .ok (.aload_n 0, 1) := by decide +kernel
theorem dX8_init_5 : decode cX8_init 5 = .ok (.bipush 54, 2) := by decide +kernel
theorem dX8_init_7 : decode cX8_init 7 = .ok (.newarray .long, 2) := by decide +kernel
theorem dX8_init_9 : decode cX8_init 9 = .ok (.putfield 9, 3) := by decide +kernel
theorem dX8_init_12 : decode cX8_init 12 = .ok (.aload_n 0, 1) := by decide +kernel
theorem dX8_init_13 : decode cX8_init 13 = .ok (.bipush 54, 2) := by decide +kernel
theorem dX8_init_15 : decode cX8_init 15 = .ok (.newarray .long, 2) := by decide +kernel
theorem dX8_init_17 : decode cX8_init 17 = .ok (.putfield 15, 3) := by decide +kernel
theorem dX8_init_20 : decode cX8_init 20 = .ok (.return_, 1) := by decide +kernel
theorem dX8_startAt_0 : decode cX8_startAt 0 = .ok (.aload_n 0, 1) := by decide +kernel
theorem dX8_startAt_1 : decode cX8_startAt 1 = .ok (.getfield 9, 3) := by decide +kernel
theorem dX8_startAt_4 : decode cX8_startAt 4 = .ok (.lconst 0, 1) := by decide +kernel
theorem dX8_startAt_5 : decode cX8_startAt 5 = .ok (.invokestatic 18, 3) := by decide +kernel
theorem dX8_startAt_8 : decode cX8_startAt 8 = .ok (.aload_n 0, 1) := by decide +kernel
theorem dX8_startAt_9 : decode cX8_startAt 9 = .ok (.getfield 9, 3) := by decide +kernel
theorem dX8_startAt_12 : decode cX8_startAt 12 = .ok (.iload_n 1, 1) := by decide +kernel
theorem dX8_startAt_13 : decode cX8_startAt 13 = .ok (.bipush 6, 2) := by decide +kernel
theorem dX8_startAt_15 : decode cX8_startAt 15 = .ok (.imul, 1) := by decide +kernel
theorem dX8_startAt_16 : decode cX8_startAt 16 = .ok (.lconst 1, 1) := by decide +kernel
theorem dX8_startAt_17 : decode cX8_startAt 17 = .ok (.lastore, 1) := by decide +kernel
theorem dX8_startAt_18 : decode cX8_startAt 18 = .ok (.return_, 1) := by decide +kernel
theorem dX8_goOn_0 : decode cX8_goOn 0 = .ok (.aload_n 0, 1) := by decide +kernel
theorem dX8_goOn_1 : decode cX8_goOn 1 = .ok (.getfield 15, 3) := by decide +kernel
theorem dX8_goOn_4 : decode cX8_goOn 4 = .ok (.lconst 0, 1) := by decide +kernel
theorem dX8_goOn_5 : decode cX8_goOn 5 = .ok (.invokestatic 18, 3) := by decide +kernel
theorem dX8_goOn_8 : decode cX8_goOn 8 = .ok (.iconst 0, 1) := by decide +kernel
theorem dX8_goOn_9 : decode cX8_goOn 9 = .ok (.istore_n 2, 1) := by decide +kernel
theorem dX8_goOn_10 : decode cX8_goOn 10 = .ok (.iload_n 2, 1) := by decide +kernel
theorem dX8_goOn_11 : decode cX8_goOn 11 = .ok (.aload_n 1, 1) := by decide +kernel
theorem dX8_goOn_12 : decode cX8_goOn 12 = .ok (.getfield 24, 3) := by decide +kernel
theorem dX8_goOn_15 : decode cX8_goOn 15 = .ok (.if_icmp .ge 48, 3) := by decide +kernel
theorem dX8_goOn_18 : decode cX8_goOn 18 = .ok (.iconst 0, 1) := by decide +kernel
theorem dX8_goOn_19 : decode cX8_goOn 19 = .ok (.istore_n 3, 1) := by decide +kernel
theorem dX8_goOn_20 : decode cX8_goOn 20 = .ok (.iload_n 3, 1) := by decide +kernel
theorem dX8_goOn_21 : decode cX8_goOn 21 = .ok (.aload_n 1, 1) := by decide +kernel
theorem dX8_goOn_22 : decode cX8_goOn 22 = .ok (.invokevirtual 30, 3) := by decide +kernel
theorem dX8_goOn_25 : decode cX8_goOn 25 = .ok (.if_icmp .ge 32, 3) := by decide +kernel
theorem dX8_goOn_28 : decode cX8_goOn 28 = .ok (.aload_n 0, 1) := by decide +kernel
theorem dX8_goOn_29 : decode cX8_goOn 29 = .ok (.getfield 9, 3) := by decide +kernel
theorem dX8_goOn_32 : decode cX8_goOn 32 = .ok (.iload_n 2, 1) := by decide +kernel
theorem dX8_goOn_33 : decode cX8_goOn 33 = .ok (.bipush 6, 2) := by decide +kernel
theorem dX8_goOn_35 : decode cX8_goOn 35 = .ok (.imul, 1) := by decide +kernel
theorem dX8_goOn_36 : decode cX8_goOn 36 = .ok (.iload_n 3, 1) := by decide +kernel
theorem dX8_goOn_37 : decode cX8_goOn 37 = .ok (.iadd, 1) := by decide +kernel
theorem dX8_goOn_38 : decode cX8_goOn 38 = .ok (.laload, 1) := by decide +kernel
theorem dX8_goOn_39 : decode cX8_goOn 39 = .ok (.lconst 0, 1) := by decide +kernel
theorem dX8_goOn_40 : decode cX8_goOn 40 = .ok (.lcmp, 1) := by decide +kernel
theorem dX8_goOn_41 : decode cX8_goOn 41 = .ok (.ifCond .le 10, 3) := by decide +kernel
theorem dX8_goOn_44 : decode cX8_goOn 44 = .ok (.aload_n 0, 1) := by decide +kernel
theorem dX8_goOn_45 : decode cX8_goOn 45 = .ok (.aload_n 1, 1) := by decide +kernel
theorem dX8_goOn_46 : decode cX8_goOn 46 = .ok (.iload_n 2, 1) := by decide +kernel
theorem dX8_goOn_47 : decode cX8_goOn 47 = .ok (.iload_n 3, 1) := by decide +kernel
theorem dX8_goOn_48 : decode cX8_goOn 48 = .ok (.invokevirtual 34, 3) := by decide +kernel
theorem dX8_goOn_51 : decode cX8_goOn 51 = .ok (.iinc 3 1, 3) := by decide +kernel
theorem dX8_goOn_54 : decode cX8_goOn 54 = .ok (.goto (-34), 3) := by decide +kernel
theorem dX8_goOn_57 : decode cX8_goOn 57 = .ok (.iinc 2 1, 3) := by decide +kernel
theorem dX8_goOn_60 : decode cX8_goOn 60 = .ok (.goto (-50), 3) := by decide +kernel
theorem dX8_goOn_63 : decode cX8_goOn 63 = .ok (.aload_n 0, 1) := by decide +kernel
theorem dX8_goOn_64 : decode cX8_goOn 64 = .ok (.getfield 9, 3) := by decide +kernel
theorem dX8_goOn_67 : decode cX8_goOn 67 = .ok (.astore_n 2, 1) := by decide +kernel
theorem dX8_goOn_68 : decode cX8_goOn 68 = .ok (.aload_n 0, 1) := by decide +kernel
theorem dX8_goOn_69 : decode cX8_goOn 69 = .ok (.aload_n 0, 1) := by decide +kernel
theorem dX8_goOn_70 : decode cX8_goOn 70 = .ok (.getfield 15, 3) := by decide +kernel
theorem dX8_goOn_73 : decode cX8_goOn 73 = .ok (.putfield 9, 3) := by decide +kernel
theorem dX8_goOn_76 : decode cX8_goOn 76 = .ok (.aload_n 0, 1) := by decide +kernel
theorem dX8_goOn_77 : decode cX8_goOn 77 = .ok (.aload_n 2, 1) := by decide +kernel
theorem dX8_goOn_78 : decode cX8_goOn 78 = .ok (.putfield 15, 3) := by decide +kernel
theorem dX8_goOn_81 : decode cX8_goOn 81 = .ok (.return_, 1) := by decide +kernel
theorem dX8_spread_0 : decode cX8_spread 0 = .ok (.iconst 0, 1) := by decide +kernel
theorem dX8_spread_1 : decode cX8_spread 1 = .ok (.istore 4, 2) := by decide +kernel
theorem dX8_spread_3 : decode cX8_spread 3 = .ok (.iload 4, 2) := by decide +kernel
theorem dX8_spread_5 : decode cX8_spread 5 = .ok (.aload_n 1, 1) := by decide +kernel
theorem dX8_spread_6 : decode cX8_spread 6 = .ok (.getfield 24, 3) := by decide +kernel
theorem dX8_spread_9 : decode cX8_spread 9 = .ok (.if_icmp .ge 62, 3) := by decide +kernel
theorem dX8_spread_12 : decode cX8_spread 12 = .ok (.aload_n 1, 1) := by decide +kernel
theorem dX8_spread_13 : decode cX8_spread 13 = .ok (.iload_n 2, 1) := by decide +kernel
theorem dX8_spread_14 : decode cX8_spread 14 = .ok (.iload 4, 2) := by decide +kernel
theorem dX8_spread_16 : decode cX8_spread 16 = .ok (.invokevirtual 38, 3) := by decide +kernel
theorem dX8_spread_19 : decode cX8_spread 19 = .ok (.istore 5, 2) := by decide +kernel
theorem dX8_spread_21 : decode cX8_spread 21 = .ok (.aload_n 1, 1) := by decide +kernel
theorem dX8_spread_22 : decode cX8_spread 22 = .ok (.iload 5, 2) := by decide +kernel
theorem dX8_spread_24 : decode cX8_spread 24 = .ok (.iload_n 3, 1) := by decide +kernel
theorem dX8_spread_25 : decode cX8_spread 25 = .ok (.invokestatic 42, 3) := by decide +kernel
theorem dX8_spread_28 : decode cX8_spread 28 = .ok (.invokevirtual 46, 3) := by decide +kernel
theorem dX8_spread_31 : decode cX8_spread 31 = .ok (.ifCond .eq 34, 3) := by decide +kernel
theorem dX8_spread_34 : decode cX8_spread 34 = .ok (.aload_n 0, 1) := by decide +kernel
theorem dX8_spread_35 : decode cX8_spread 35 = .ok (.getfield 15, 3) := by decide +kernel
theorem dX8_spread_38 : decode cX8_spread 38 = .ok (.iload 4, 2) := by decide +kernel
theorem dX8_spread_40 : decode cX8_spread 40 = .ok (.bipush 6, 2) := by decide +kernel
theorem dX8_spread_42 : decode cX8_spread 42 = .ok (.imul, 1) := by decide +kernel
theorem dX8_spread_43 : decode cX8_spread 43 = .ok (.aload_n 1, 1) := by decide +kernel
theorem dX8_spread_44 : decode cX8_spread 44 = .ok (.iload 5, 2) := by decide +kernel
theorem dX8_spread_46 : decode cX8_spread 46 = .ok (.invokevirtual 50, 3) := by decide +kernel
theorem dX8_spread_49 : decode cX8_spread 49 = .ok (.iadd, 1) := by decide +kernel
theorem dX8_spread_50 : decode cX8_spread 50 = .ok (.dup2, 1) := by decide +kernel
theorem dX8_spread_51 : decode cX8_spread 51 = .ok (.laload, 1) := by decide +kernel
theorem dX8_spread_52 : decode cX8_spread 52 = .ok (.aload_n 0, 1) := by decide +kernel
theorem dX8_spread_53 : decode cX8_spread 53 = .ok (.getfield 9, 3) := by decide +kernel
theorem dX8_spread_56 : decode cX8_spread 56 = .ok (.iload_n 2, 1) := by decide +kernel
theorem dX8_spread_57 : decode cX8_spread 57 = .ok (.bipush 6, 2) := by decide +kernel
theorem dX8_spread_59 : decode cX8_spread 59 = .ok (.imul, 1) := by decide +kernel
theorem dX8_spread_60 : decode cX8_spread 60 = .ok (.iload_n 3, 1) := by decide +kernel
theorem dX8_spread_61 : decode cX8_spread 61 = .ok (.iadd, 1) := by decide +kernel
theorem dX8_spread_62 : decode cX8_spread 62 = .ok (.laload, 1) := by decide +kernel
theorem dX8_spread_63 : decode cX8_spread 63 = .ok (.ladd, 1) := by decide +kernel
theorem dX8_spread_64 : decode cX8_spread 64 = .ok (.lastore, 1) := by decide +kernel
theorem dX8_spread_65 : decode cX8_spread 65 = .ok (.iinc 4 1, 3) := by decide +kernel
theorem dX8_spread_68 : decode cX8_spread 68 = .ok (.goto (-65), 3) := by decide +kernel
theorem dX8_spread_71 : decode cX8_spread 71 = .ok (.return_, 1) := by decide +kernel
theorem dX8_waysTo_0 : decode cX8_waysTo 0 = .ok (.lconst 0, 1) := by decide +kernel
theorem dX8_waysTo_1 : decode cX8_waysTo 1 = .ok (.lstore_n 2, 1) := by decide +kernel
theorem dX8_waysTo_2 : decode cX8_waysTo 2 = .ok (.iconst 0, 1) := by decide +kernel
theorem dX8_waysTo_3 : decode cX8_waysTo 3 = .ok (.istore 4, 2) := by decide +kernel
theorem dX8_waysTo_5 : decode cX8_waysTo 5 = .ok (.iload 4, 2) := by decide +kernel
theorem dX8_waysTo_7 : decode cX8_waysTo 7 = .ok (.bipush 6, 2) := by decide +kernel
theorem dX8_waysTo_9 : decode cX8_waysTo 9 = .ok (.if_icmp .ge 24, 3) := by decide +kernel
theorem dX8_waysTo_12 : decode cX8_waysTo 12 = .ok (.lload_n 2, 1) := by decide +kernel
theorem dX8_waysTo_13 : decode cX8_waysTo 13 = .ok (.aload_n 0, 1) := by decide +kernel
theorem dX8_waysTo_14 : decode cX8_waysTo 14 = .ok (.getfield 9, 3) := by decide +kernel
theorem dX8_waysTo_17 : decode cX8_waysTo 17 = .ok (.iload_n 1, 1) := by decide +kernel
theorem dX8_waysTo_18 : decode cX8_waysTo 18 = .ok (.bipush 6, 2) := by decide +kernel
theorem dX8_waysTo_20 : decode cX8_waysTo 20 = .ok (.imul, 1) := by decide +kernel
theorem dX8_waysTo_21 : decode cX8_waysTo 21 = .ok (.iload 4, 2) := by decide +kernel
theorem dX8_waysTo_23 : decode cX8_waysTo 23 = .ok (.iadd, 1) := by decide +kernel
theorem dX8_waysTo_24 : decode cX8_waysTo 24 = .ok (.laload, 1) := by decide +kernel
theorem dX8_waysTo_25 : decode cX8_waysTo 25 = .ok (.ladd, 1) := by decide +kernel
theorem dX8_waysTo_26 : decode cX8_waysTo 26 = .ok (.lstore_n 2, 1) := by decide +kernel
theorem dX8_waysTo_27 : decode cX8_waysTo 27 = .ok (.iinc 4 1, 3) := by decide +kernel
theorem dX8_waysTo_30 : decode cX8_waysTo 30 = .ok (.goto (-25), 3) := by decide +kernel
theorem dX8_waysTo_33 : decode cX8_waysTo 33 = .ok (.lload_n 2, 1) := by decide +kernel
theorem dX8_waysTo_34 : decode cX8_waysTo 34 = .ok (.lreturn, 1) := by decide +kernel
theorem dX9_init_0 : decode cX9_init 0 = .ok (.aload_n 0, 1) := by decide +kernel
theorem dX9_init_1 : decode cX9_init 1 = .ok (.invokespecial 3, 3) := by decide +kernel
theorem dX9_init_4 : decode cX9_init 4 = .ok (.aload_n 0, 1) := by decide +kernel
theorem dX9_init_5 : decode cX9_init 5 = .ok (.new 9, 3) := by decide +kernel
theorem dX9_init_8 : decode cX9_init 8 = .ok (.dup, 1) := by decide +kernel
theorem dX9_init_9 : decode cX9_init 9 = .ok (.invokespecial 11, 3) := by decide +kernel
theorem dX9_init_12 : decode cX9_init 12 = .ok (.putfield 12, 3) := by decide +kernel
theorem dX9_init_15 : decode cX9_init 15 = .ok (.aload_n 0, 1) := by decide +kernel
theorem dX9_init_16 : decode cX9_init 16 = .ok (.new 16, 3) := by decide +kernel
theorem dX9_init_19 : decode cX9_init 19 = .ok (.dup, 1) := by decide +kernel
theorem dX9_init_20 : decode cX9_init 20 = .ok (.invokespecial 18, 3) := by decide +kernel
theorem dX9_init_23 : decode cX9_init 23 = .ok (.putfield 19, 3) := by decide +kernel
theorem dX9_init_26 : decode cX9_init 26 = .ok (.aload_n 0, 1) := by decide +kernel
theorem dX9_init_27 : decode cX9_init 27 = .ok (.new 23, 3) := by decide +kernel
theorem dX9_init_30 : decode cX9_init 30 = .ok (.dup, 1) := by decide +kernel
theorem dX9_init_31 : decode cX9_init 31 = .ok (.invokespecial 25, 3) := by decide +kernel
theorem dX9_init_34 : decode cX9_init 34 = .ok (.putfield 26, 3) := by decide +kernel
theorem dX9_init_37 : decode cX9_init 37 = .ok (.aload_n 0, 1) := by decide +kernel
theorem dX9_init_38 : decode cX9_init 38 = .ok (.new 30, 3) := by decide +kernel
theorem dX9_init_41 : decode cX9_init 41 = .ok (.dup, 1) := by decide +kernel
theorem dX9_init_42 : decode cX9_init 42 = .ok (.invokespecial 32, 3) := by decide +kernel
theorem dX9_init_45 : decode cX9_init 45 = .ok (.putfield 33, 3) := by decide +kernel
theorem dX9_init_48 : decode cX9_init 48 = .ok (.aload_n 0, 1) := by decide +kernel
theorem dX9_init_49 : decode cX9_init 49 = .ok (.new 37, 3) := by decide +kernel
theorem dX9_init_52 : decode cX9_init 52 = .ok (.dup, 1) := by decide +kernel
theorem dX9_init_53 : decode cX9_init 53 = .ok (.invokespecial 39, 3) := by decide +kernel
theorem dX9_init_56 : decode cX9_init 56 = .ok (.putfield 40, 3) := by decide +kernel
theorem dX9_init_59 : decode cX9_init 59 = .ok (.aload_n 0, 1) := by decide +kernel
theorem dX9_init_60 : decode cX9_init 60 = .ok (.new 44, 3) := by decide +kernel
theorem dX9_init_63 : decode cX9_init 63 = .ok (.dup, 1) := by decide +kernel
theorem dX9_init_64 : decode cX9_init 64 = .ok (.invokespecial 46, 3) := by decide +kernel
theorem dX9_init_67 : decode cX9_init 67 = .ok (.putfield 47, 3) := by decide +kernel
theorem dX9_init_70 : decode cX9_init 70 = .ok (.aload_n 0, 1) := by decide +kernel
theorem dX9_init_71 : decode cX9_init 71 = .ok (.new 51, 3) := by decide +kernel
theorem dX9_init_74 : decode cX9_init 74 = .ok (.dup, 1) := by decide +kernel
theorem dX9_init_75 : decode cX9_init 75 = .ok (.invokespecial 53, 3) := by decide +kernel
theorem dX9_init_78 : decode cX9_init 78 = .ok (.putfield 54, 3) := by decide +kernel
theorem dX9_init_81 : decode cX9_init 81 = .ok (.aload_n 0, 1) := by decide +kernel
theorem dX9_init_82 : decode cX9_init 82 = .ok (.new 58, 3) := by decide +kernel
theorem dX9_init_85 : decode cX9_init 85 = .ok (.dup, 1) := by decide +kernel
theorem dX9_init_86 : decode cX9_init 86 = .ok (.invokespecial 60, 3) := by decide +kernel
theorem dX9_init_89 : decode cX9_init 89 = .ok (.putfield 61, 3) := by decide +kernel
theorem dX9_init_92 : decode cX9_init 92 = .ok (.aload_n 0, 1) := by decide +kernel
theorem dX9_init_93 : decode cX9_init 93 = .ok (.new 65, 3) := by decide +kernel
theorem dX9_init_96 : decode cX9_init 96 = .ok (.dup, 1) := by decide +kernel
theorem dX9_init_97 : decode cX9_init 97 = .ok (.invokespecial 67, 3) := by decide +kernel
theorem dX9_init_100 : decode cX9_init 100 = .ok (.putfield 68, 3) := by decide +kernel
theorem dX9_init_103 : decode cX9_init 103 = .ok (.aload_n 0, 1) := by decide +kernel
theorem dX9_init_104 : decode cX9_init 104 = .ok (.new 65, 3) := by decide +kernel
theorem dX9_init_107 : decode cX9_init 107 = .ok (.dup, 1) := by decide +kernel
theorem dX9_init_108 : decode cX9_init 108 = .ok (.invokespecial 67, 3) := by decide +kernel
theorem dX9_init_111 : decode cX9_init 111 = .ok (.putfield 72, 3) := by decide +kernel
theorem dX9_init_114 : decode cX9_init 114 = .ok (.iconst 0, 1) := by decide +kernel
theorem dX9_init_115 : decode cX9_init 115 = .ok (.istore_n 1, 1) := by decide +kernel
theorem dX9_init_116 : decode cX9_init 116 = .ok (.iload_n 1, 1) := by decide +kernel
theorem dX9_init_117 : decode cX9_init 117 = .ok (.ldc 75, 2) := by decide +kernel
theorem dX9_init_119 : decode cX9_init 119 = .ok (.invokevirtual 77, 3) := by decide +kernel
theorem dX9_init_122 : decode cX9_init 122 = .ok (.if_icmp .ge 25, 3) := by decide +kernel
theorem dX9_init_125 : decode cX9_init 125 = .ok (.aload_n 0, 1) := by decide +kernel
theorem dX9_init_126 : decode cX9_init 126 = .ok (.getfield 12, 3) := by decide +kernel
theorem dX9_init_129 : decode cX9_init 129 = .ok (.iconst 1, 1) := by decide +kernel
theorem dX9_init_130 : decode cX9_init 130 = .ok (.ldc 75, 2) := by decide +kernel
theorem dX9_init_132 : decode cX9_init 132 = .ok (.iload_n 1, 1) := by decide +kernel
theorem dX9_init_133 : decode cX9_init 133 = .ok (.invokevirtual 83, 3) := by decide +kernel
theorem dX9_init_136 : decode cX9_init 136 = .ok (.i2l, 1) := by decide +kernel
theorem dX9_init_137 : decode cX9_init 137 = .ok (.invokevirtual 87, 3) := by decide +kernel
theorem dX9_init_140 : decode cX9_init 140 = .ok (.pop, 1) := by decide +kernel
theorem dX9_init_141 : decode cX9_init 141 = .ok (.iinc 1 1, 3) := by decide +kernel
theorem dX9_init_144 : decode cX9_init 144 = .ok (.goto (-28), 3) := by decide +kernel
theorem dX9_init_147 : decode cX9_init 147 = .ok (.aload_n 0, 1) := by decide +kernel
theorem dX9_init_148 : decode cX9_init 148 = .ok (.getfield 12, 3) := by decide +kernel
theorem dX9_init_151 : decode cX9_init 151 = .ok (.aload_n 0, 1) := by decide +kernel
theorem dX9_init_152 : decode cX9_init 152 = .ok (.getfield 68, 3) := by decide +kernel
theorem dX9_init_155 : decode cX9_init 155 = .ok (.invokevirtual 91, 3) := by decide +kernel
theorem dX9_init_158 : decode cX9_init 158 = .ok (.pop, 1) := by decide +kernel
theorem dX9_init_159 : decode cX9_init 159 = .ok (.aload_n 0, 1) := by decide +kernel
theorem dX9_init_160 : decode cX9_init 160 = .ok (.getfield 12, 3) := by decide +kernel
theorem dX9_init_163 : decode cX9_init 163 = .ok (.invokevirtual 95, 3) := by decide +kernel
theorem dX9_init_166 : decode cX9_init 166 = .ok (.return_, 1) := by decide +kernel
theorem dX9_write_0 : decode cX9_write 0 = .ok (.iload_n 1, 1) := by decide +kernel
theorem dX9_write_1 : decode cX9_write 1 = .ok (.iconst 1, 1) := by decide +kernel
theorem dX9_write_2 : decode cX9_write 2 = .ok (.if_icmp .lt 9, 3) := by decide +kernel
theorem dX9_write_5 : decode cX9_write 5 = .ok (.iload_n 1, 1) := by decide +kernel
theorem dX9_write_6 : decode cX9_write 6 = .ok (.bipush 8, 2) := by decide +kernel
theorem dX9_write_8 : decode cX9_write 8 = .ok (.if_icmp .le 5, 3) := by decide +kernel
theorem dX9_write_11 : decode cX9_write 11 = .ok (.iconst (-1), 1) := by decide +kernel
theorem dX9_write_12 : decode cX9_write 12 = .ok (.ireturn, 1) := by decide +kernel
theorem dX9_write_13 : decode cX9_write 13 = .ok (.aload_n 0, 1) := by decide +kernel
theorem dX9_write_14 : decode cX9_write 14 = .ok (.getfield 12, 3) := by decide +kernel
theorem dX9_write_17 : decode cX9_write 17 = .ok (.iload_n 1, 1) := by decide +kernel
theorem dX9_write_18 : decode cX9_write 18 = .ok (.invokevirtual 98, 3) := by decide +kernel
theorem dX9_write_21 : decode cX9_write 21 = .ok (.ifCond .eq 15, 3) := by decide +kernel
theorem dX9_write_24 : decode cX9_write 24 = .ok (.aload_n 0, 1) := by decide +kernel
theorem dX9_write_25 : decode cX9_write 25 = .ok (.getfield 12, 3) := by decide +kernel
theorem dX9_write_28 : decode cX9_write 28 = .ok (.iload_n 1, 1) := by decide +kernel
theorem dX9_write_29 : decode cX9_write 29 = .ok (.lload_n 2, 1) := by decide +kernel
theorem dX9_write_30 : decode cX9_write 30 = .ok (.invokevirtual 87, 3) := by decide +kernel
theorem dX9_write_33 : decode cX9_write 33 = .ok (.goto 5, 3) := by decide +kernel
theorem dX9_write_36 : decode cX9_write 36 = .ok (.bipush (-3), 2) := by decide +kernel
theorem dX9_write_38 : decode cX9_write 38 = .ok (.ireturn, 1) := by decide +kernel
theorem dX9_wipe_0 : decode cX9_wipe 0 = .ok (.aload_n 0, 1) := by decide +kernel
theorem dX9_wipe_1 : decode cX9_wipe 1 = .ok (.getfield 12, 3) := by decide +kernel
theorem dX9_wipe_4 : decode cX9_wipe 4 = .ok (.getfield 102, 3) := by decide +kernel
theorem dX9_wipe_7 : decode cX9_wipe 7 = .ok (.istore_n 1, 1) := by decide +kernel
theorem dX9_wipe_8 : decode cX9_wipe 8 = .ok (.aload_n 0, 1) := by decide +kernel
theorem dX9_wipe_9 : decode cX9_wipe 9 = .ok (.getfield 12, 3) := by decide +kernel
theorem dX9_wipe_12 : decode cX9_wipe 12 = .ok (.invokevirtual 95, 3) := by decide +kernel
theorem dX9_wipe_15 : decode cX9_wipe 15 = .ok (.iload_n 1, 1) := by decide +kernel
theorem dX9_wipe_16 : decode cX9_wipe 16 = .ok (.ireturn, 1) := by decide +kernel
theorem dX9_fault_0 : decode cX9_fault 0 = .ok (.aload_n 0, 1) := by decide +kernel
theorem dX9_fault_1 : decode cX9_fault 1 = .ok (.getfield 12, 3) := by decide +kernel
theorem dX9_fault_4 : decode cX9_fault 4 = .ok (.aload_n 0, 1) := by decide +kernel
theorem dX9_fault_5 : decode cX9_fault 5 = .ok (.getfield 72, 3) := by decide +kernel
theorem dX9_fault_8 : decode cX9_fault 8 = .ok (.invokevirtual 91, 3) := by decide +kernel
theorem dX9_fault_11 : decode cX9_fault 11 = .ok (.ireturn, 1) := by decide +kernel
theorem dX9_lay_0 : decode cX9_lay 0 = .ok (.aload_n 0, 1) := by decide +kernel
theorem dX9_lay_1 : decode cX9_lay 1 = .ok (.getfield 12, 3) := by decide +kernel
theorem dX9_lay_4 : decode cX9_lay 4 = .ok (.aload_n 0, 1) := by decide +kernel
theorem dX9_lay_5 : decode cX9_lay 5 = .ok (.getfield 72, 3) := by decide +kernel
theorem dX9_lay_8 : decode cX9_lay 8 = .ok (.invokevirtual 91, 3) := by decide +kernel
theorem dX9_lay_11 : decode cX9_lay 11 = .ok (.bipush (-4), 2) := by decide +kernel
theorem dX9_lay_13 : decode cX9_lay 13 = .ok (.if_icmp .ne 14, 3) := by decide +kernel
theorem dX9_lay_16 : decode cX9_lay 16 = .ok (.aload_n 0, 1) := by decide +kernel
theorem dX9_lay_17 : decode cX9_lay 17 = .ok (.getfield 72, 3) := by decide +kernel
theorem dX9_lay_20 : decode cX9_lay 20 = .ok (.getfield 105, 3) := by decide +kernel
theorem dX9_lay_23 : decode cX9_lay 23 = .ok (.iconst 1, 1) := by decide +kernel
theorem dX9_lay_24 : decode cX9_lay 24 = .ok (.if_icmp .ge 6, 3) := by decide +kernel
theorem dX9_lay_27 : decode cX9_lay 27 = .ok (.bipush (-2), 2) := by decide +kernel
theorem dX9_lay_29 : decode cX9_lay 29 = .ok (.ireturn, 1) := by decide +kernel
theorem dX9_lay_30 : decode cX9_lay 30 = .ok (.aload_n 0, 1) := by decide +kernel
theorem dX9_lay_31 : decode cX9_lay 31 = .ok (.getfield 68, 3) := by decide +kernel
theorem dX9_lay_34 : decode cX9_lay 34 = .ok (.astore_n 1, 1) := by decide +kernel
theorem dX9_lay_35 : decode cX9_lay 35 = .ok (.aload_n 0, 1) := by decide +kernel
theorem dX9_lay_36 : decode cX9_lay 36 = .ok (.aload_n 0, 1) := by decide +kernel
theorem dX9_lay_37 : decode cX9_lay 37 = .ok (.getfield 72, 3) := by decide +kernel
theorem dX9_lay_40 : decode cX9_lay 40 = .ok (.putfield 68, 3) := by decide +kernel
theorem dX9_lay_43 : decode cX9_lay 43 = .ok (.aload_n 0, 1) := by decide +kernel
theorem dX9_lay_44 : decode cX9_lay 44 = .ok (.aload_n 1, 1) := by decide +kernel
theorem dX9_lay_45 : decode cX9_lay 45 = .ok (.putfield 72, 3) := by decide +kernel
theorem dX9_lay_48 : decode cX9_lay 48 = .ok (.aload_n 0, 1) := by decide +kernel
theorem dX9_lay_49 : decode cX9_lay 49 = .ok (.getfield 19, 3) := by decide +kernel
theorem dX9_lay_52 : decode cX9_lay 52 = .ok (.invokevirtual 108, 3) := by decide +kernel
theorem dX9_lay_55 : decode cX9_lay 55 = .ok (.aload_n 0, 1) := by decide +kernel
theorem dX9_lay_56 : decode cX9_lay 56 = .ok (.getfield 26, 3) := by decide +kernel
theorem dX9_lay_59 : decode cX9_lay 59 = .ok (.iconst 0, 1) := by decide +kernel
theorem dX9_lay_60 : decode cX9_lay 60 = .ok (.putfield 109, 3) := by decide +kernel
theorem dX9_lay_63 : decode cX9_lay 63 = .ok (.aload_n 0, 1) := by decide +kernel
theorem dX9_lay_64 : decode cX9_lay 64 = .ok (.getfield 47, 3) := by decide +kernel
theorem dX9_lay_67 : decode cX9_lay 67 = .ok (.invokevirtual 112, 3) := by decide +kernel
theorem dX9_lay_70 : decode cX9_lay 70 = .ok (.aload_n 0, 1) := by decide +kernel
theorem dX9_lay_71 : decode cX9_lay 71 = .ok (.getfield 68, 3) := by decide +kernel
theorem dX9_lay_74 : decode cX9_lay 74 = .ok (.getfield 105, 3) := by decide +kernel
theorem dX9_lay_77 : decode cX9_lay 77 = .ok (.ireturn, 1) := by decide +kernel
theorem dX9_person_0 : decode cX9_person 0 = .ok (.aload_n 0, 1) := by decide +kernel
theorem dX9_person_1 : decode cX9_person 1 = .ok (.getfield 68, 3) := by decide +kernel
theorem dX9_person_4 : decode cX9_person 4 = .ok (.iload_n 1, 1) := by decide +kernel
theorem dX9_person_5 : decode cX9_person 5 = .ok (.invokevirtual 115, 3) := by decide +kernel
theorem dX9_person_8 : decode cX9_person 8 = .ok (.ifCond .ne 5, 3) := by decide +kernel
theorem dX9_person_11 : decode cX9_person 11 = .ok (.iconst (-1), 1) := by decide +kernel
theorem dX9_person_12 : decode cX9_person 12 = .ok (.ireturn, 1) := by decide +kernel
theorem dX9_person_13 : decode cX9_person 13 = .ok (.iload_n 2, 1) := by decide +kernel
theorem dX9_person_14 : decode cX9_person 14 = .ok (.bipush (-2), 2) := by decide +kernel
theorem dX9_person_16 : decode cX9_person 16 = .ok (.if_icmp .ne 20, 3) := by decide +kernel
theorem dX9_person_19 : decode cX9_person 19 = .ok (.aload_n 0, 1) := by decide +kernel
theorem dX9_person_20 : decode cX9_person 20 = .ok (.getfield 19, 3) := by decide +kernel
theorem dX9_person_23 : decode cX9_person 23 = .ok (.iload_n 1, 1) := by decide +kernel
theorem dX9_person_24 : decode cX9_person 24 = .ok (.invokevirtual 118, 3) := by decide +kernel
theorem dX9_person_27 : decode cX9_person 27 = .ok (.ifCond .eq 7, 3) := by decide +kernel
theorem dX9_person_30 : decode cX9_person 30 = .ok (.iconst 1, 1) := by decide +kernel
theorem dX9_person_31 : decode cX9_person 31 = .ok (.goto 4, 3) := by decide +kernel
theorem dX9_person_34 : decode cX9_person 34 = .ok (.iconst 0, 1) := by decide +kernel
theorem dX9_person_35 : decode cX9_person 35 = .ok (.ireturn, 1) := by decide +kernel
theorem dX9_person_36 : decode cX9_person 36 = .ok (.iload_n 2, 1) := by decide +kernel
theorem dX9_person_37 : decode cX9_person 37 = .ok (.iconst (-1), 1) := by decide +kernel
theorem dX9_person_38 : decode cX9_person 38 = .ok (.if_icmp .ne 19, 3) := by decide +kernel
theorem dX9_person_41 : decode cX9_person 41 = .ok (.aload_n 0, 1) := by decide +kernel
theorem dX9_person_42 : decode cX9_person 42 = .ok (.getfield 68, 3) := by decide +kernel
theorem dX9_person_45 : decode cX9_person 45 = .ok (.aload_n 0, 1) := by decide +kernel
theorem dX9_person_46 : decode cX9_person 46 = .ok (.getfield 68, 3) := by decide +kernel
theorem dX9_person_49 : decode cX9_person 49 = .ok (.iload_n 1, 1) := by decide +kernel
theorem dX9_person_50 : decode cX9_person 50 = .ok (.invokevirtual 121, 3) := by decide +kernel
theorem dX9_person_53 : decode cX9_person 53 = .ok (.invokevirtual 125, 3) := by decide +kernel
theorem dX9_person_56 : decode cX9_person 56 = .ok (.ireturn, 1) := by decide +kernel
theorem dX9_person_57 : decode cX9_person 57 = .ok (.aload_n 0, 1) := by decide +kernel
theorem dX9_person_58 : decode cX9_person 58 = .ok (.getfield 68, 3) := by decide +kernel
theorem dX9_person_61 : decode cX9_person 61 = .ok (.iload_n 2, 1) := by decide +kernel
theorem dX9_person_62 : decode cX9_person 62 = .ok (.invokevirtual 128, 3) := by decide +kernel
theorem dX9_person_65 : decode cX9_person 65 = .ok (.ifCond .eq 18, 3) := by decide +kernel
theorem dX9_person_68 : decode cX9_person 68 = .ok (.aload_n 0, 1) := by decide +kernel
theorem dX9_person_69 : decode cX9_person 69 = .ok (.getfield 68, 3) := by decide +kernel
theorem dX9_person_72 : decode cX9_person 72 = .ok (.iload_n 1, 1) := by decide +kernel
theorem dX9_person_73 : decode cX9_person 73 = .ok (.invokevirtual 121, 3) := by decide +kernel
theorem dX9_person_76 : decode cX9_person 76 = .ok (.iload_n 2, 1) := by decide +kernel
theorem dX9_person_77 : decode cX9_person 77 = .ok (.invokestatic 131, 3) := by decide +kernel
theorem dX9_person_80 : decode cX9_person 80 = .ok (.goto 4, 3) := by decide +kernel
theorem dX9_person_83 : decode cX9_person 83 = .ok (.iconst (-1), 1) := by decide +kernel
theorem dX9_person_84 : decode cX9_person 84 = .ok (.ireturn, 1) := by decide +kernel
theorem dX9_differ_0 : decode cX9_differ 0 = .ok (.aload_n 0, 1) := by decide +kernel
theorem dX9_differ_1 : decode cX9_differ 1 = .ok (.getfield 68, 3) := by decide +kernel
theorem dX9_differ_4 : decode cX9_differ 4 = .ok (.iload_n 1, 1) := by decide +kernel
theorem dX9_differ_5 : decode cX9_differ 5 = .ok (.invokevirtual 115, 3) := by decide +kernel
theorem dX9_differ_8 : decode cX9_differ 8 = .ok (.ifCond .eq 14, 3) := by decide +kernel
theorem dX9_differ_11 : decode cX9_differ 11 = .ok (.aload_n 0, 1) := by decide +kernel
theorem dX9_differ_12 : decode cX9_differ 12 = .ok (.getfield 68, 3) := by decide +kernel
theorem dX9_differ_15 : decode cX9_differ 15 = .ok (.iload_n 2, 1) := by decide +kernel
theorem dX9_differ_16 : decode cX9_differ 16 = .ok (.invokevirtual 115, 3) := by decide +kernel
theorem dX9_differ_19 : decode cX9_differ 19 = .ok (.ifCond .ne 5, 3) := by decide +kernel
theorem dX9_differ_22 : decode cX9_differ 22 = .ok (.iconst (-1), 1) := by decide +kernel
theorem dX9_differ_23 : decode cX9_differ 23 = .ok (.ireturn, 1) := by decide +kernel
theorem dX9_differ_24 : decode cX9_differ 24 = .ok (.iload_n 3, 1) := by decide +kernel
theorem dX9_differ_25 : decode cX9_differ 25 = .ok (.ifCond .eq 15, 3) := by decide +kernel
theorem dX9_differ_28 : decode cX9_differ 28 = .ok (.aload_n 0, 1) := by decide +kernel
theorem dX9_differ_29 : decode cX9_differ 29 = .ok (.getfield 68, 3) := by decide +kernel
theorem dX9_differ_32 : decode cX9_differ 32 = .ok (.iload_n 1, 1) := by decide +kernel
theorem dX9_differ_33 : decode cX9_differ 33 = .ok (.iload_n 2, 1) := by decide +kernel
theorem dX9_differ_34 : decode cX9_differ 34 = .ok (.invokevirtual 135, 3) := by decide +kernel
theorem dX9_differ_37 : decode cX9_differ 37 = .ok (.goto 22, 3) := by decide +kernel
theorem dX9_differ_40 : decode cX9_differ 40 = .ok (.aload_n 0, 1) := by decide +kernel
theorem dX9_differ_41 : decode cX9_differ 41 = .ok (.getfield 68, 3) := by decide +kernel
theorem dX9_differ_44 : decode cX9_differ 44 = .ok (.iload_n 1, 1) := by decide +kernel
theorem dX9_differ_45 : decode cX9_differ 45 = .ok (.invokevirtual 121, 3) := by decide +kernel
theorem dX9_differ_48 : decode cX9_differ 48 = .ok (.aload_n 0, 1) := by decide +kernel
theorem dX9_differ_49 : decode cX9_differ 49 = .ok (.getfield 68, 3) := by decide +kernel
theorem dX9_differ_52 : decode cX9_differ 52 = .ok (.iload_n 2, 1) := by decide +kernel
theorem dX9_differ_53 : decode cX9_differ 53 = .ok (.invokevirtual 121, 3) := by decide +kernel
theorem dX9_differ_56 : decode cX9_differ 56 = .ok (.invokestatic 138, 3) := by decide +kernel
theorem dX9_differ_59 : decode cX9_differ 59 = .ok (.ireturn, 1) := by decide +kernel
theorem dX9_may_0 : decode cX9_may 0 = .ok (.aload_n 0, 1) := by decide +kernel
theorem dX9_may_1 : decode cX9_may 1 = .ok (.getfield 68, 3) := by decide +kernel
theorem dX9_may_4 : decode cX9_may 4 = .ok (.iload_n 1, 1) := by decide +kernel
theorem dX9_may_5 : decode cX9_may 5 = .ok (.invokevirtual 115, 3) := by decide +kernel
theorem dX9_may_8 : decode cX9_may 8 = .ok (.ifCond .ne 5, 3) := by decide +kernel
theorem dX9_may_11 : decode cX9_may 11 = .ok (.iconst (-1), 1) := by decide +kernel
theorem dX9_may_12 : decode cX9_may 12 = .ok (.ireturn, 1) := by decide +kernel
theorem dX9_may_13 : decode cX9_may 13 = .ok (.aload_n 0, 1) := by decide +kernel
theorem dX9_may_14 : decode cX9_may 14 = .ok (.getfield 19, 3) := by decide +kernel
theorem dX9_may_17 : decode cX9_may 17 = .ok (.getfield 141, 3) := by decide +kernel
theorem dX9_may_20 : decode cX9_may 20 = .ok (.aload_n 0, 1) := by decide +kernel
theorem dX9_may_21 : decode cX9_may 21 = .ok (.getfield 68, 3) := by decide +kernel
theorem dX9_may_24 : decode cX9_may 24 = .ok (.iload_n 1, 1) := by decide +kernel
theorem dX9_may_25 : decode cX9_may 25 = .ok (.invokevirtual 142, 3) := by decide +kernel
theorem dX9_may_28 : decode cX9_may 28 = .ok (.ifCond .eq 7, 3) := by decide +kernel
theorem dX9_may_31 : decode cX9_may 31 = .ok (.iconst 1, 1) := by decide +kernel
theorem dX9_may_32 : decode cX9_may 32 = .ok (.goto 4, 3) := by decide +kernel
theorem dX9_may_35 : decode cX9_may 35 = .ok (.iconst 0, 1) := by decide +kernel
theorem dX9_may_36 : decode cX9_may 36 = .ok (.ireturn, 1) := by decide +kernel
theorem dX9_goIn_0 : decode cX9_goIn 0 = .ok (.aload_n 0, 1) := by decide +kernel
theorem dX9_goIn_1 : decode cX9_goIn 1 = .ok (.getfield 68, 3) := by decide +kernel
theorem dX9_goIn_4 : decode cX9_goIn 4 = .ok (.iload_n 1, 1) := by decide +kernel
theorem dX9_goIn_5 : decode cX9_goIn 5 = .ok (.invokevirtual 115, 3) := by decide +kernel
theorem dX9_goIn_8 : decode cX9_goIn 8 = .ok (.ifCond .ne 5, 3) := by decide +kernel
theorem dX9_goIn_11 : decode cX9_goIn 11 = .ok (.iconst (-1), 1) := by decide +kernel
theorem dX9_goIn_12 : decode cX9_goIn 12 = .ok (.ireturn, 1) := by decide +kernel
theorem dX9_goIn_13 : decode cX9_goIn 13 = .ok (.aload_n 0, 1) := by decide +kernel
theorem dX9_goIn_14 : decode cX9_goIn 14 = .ok (.getfield 19, 3) := by decide +kernel
theorem dX9_goIn_17 : decode cX9_goIn 17 = .ok (.iload_n 1, 1) := by decide +kernel
theorem dX9_goIn_18 : decode cX9_goIn 18 = .ok (.invokevirtual 118, 3) := by decide +kernel
theorem dX9_goIn_21 : decode cX9_goIn 21 = .ok (.ifCond .eq 8, 3) := by decide +kernel
theorem dX9_goIn_24 : decode cX9_goIn 24 = .ok (.bipush (-2), 2) := by decide +kernel
theorem dX9_goIn_26 : decode cX9_goIn 26 = .ok (.goto 8, 3) := by decide +kernel
theorem dX9_goIn_29 : decode cX9_goIn 29 = .ok (.aload_n 0, 1) := by decide +kernel
theorem dX9_goIn_30 : decode cX9_goIn 30 = .ok (.iload_n 1, 1) := by decide +kernel
theorem dX9_goIn_31 : decode cX9_goIn 31 = .ok (.invokevirtual 146, 3) := by decide +kernel
theorem dX9_goIn_34 : decode cX9_goIn 34 = .ok (.ireturn, 1) := by decide +kernel
theorem dX9_goOut_0 : decode cX9_goOut 0 = .ok (.aload_n 0, 1) := by decide +kernel
theorem dX9_goOut_1 : decode cX9_goOut 1 = .ok (.getfield 68, 3) := by decide +kernel
theorem dX9_goOut_4 : decode cX9_goOut 4 = .ok (.iload_n 1, 1) := by decide +kernel
theorem dX9_goOut_5 : decode cX9_goOut 5 = .ok (.invokevirtual 115, 3) := by decide +kernel
theorem dX9_goOut_8 : decode cX9_goOut 8 = .ok (.ifCond .ne 5, 3) := by decide +kernel
theorem dX9_goOut_11 : decode cX9_goOut 11 = .ok (.iconst (-1), 1) := by decide +kernel
theorem dX9_goOut_12 : decode cX9_goOut 12 = .ok (.ireturn, 1) := by decide +kernel
theorem dX9_goOut_13 : decode cX9_goOut 13 = .ok (.aload_n 0, 1) := by decide +kernel
theorem dX9_goOut_14 : decode cX9_goOut 14 = .ok (.getfield 19, 3) := by decide +kernel
theorem dX9_goOut_17 : decode cX9_goOut 17 = .ok (.iload_n 1, 1) := by decide +kernel
theorem dX9_goOut_18 : decode cX9_goOut 18 = .ok (.invokevirtual 118, 3) := by decide +kernel
theorem dX9_goOut_21 : decode cX9_goOut 21 = .ok (.ifCond .eq 11, 3) := by decide +kernel
theorem dX9_goOut_24 : decode cX9_goOut 24 = .ok (.aload_n 0, 1) := by decide +kernel
theorem dX9_goOut_25 : decode cX9_goOut 25 = .ok (.iload_n 1, 1) := by decide +kernel
theorem dX9_goOut_26 : decode cX9_goOut 26 = .ok (.invokevirtual 146, 3) := by decide +kernel
theorem dX9_goOut_29 : decode cX9_goOut 29 = .ok (.goto 5, 3) := by decide +kernel
theorem dX9_goOut_32 : decode cX9_goOut 32 = .ok (.bipush (-2), 2) := by decide +kernel
theorem dX9_goOut_34 : decode cX9_goOut 34 = .ok (.ireturn, 1) := by decide +kernel
theorem dX9_passGate_0 : decode cX9_passGate 0 = .ok (.aload_n 0, 1) := by decide +kernel
theorem dX9_passGate_1 : decode cX9_passGate 1 = .ok (.getfield 19, 3) := by decide +kernel
theorem dX9_passGate_4 : decode cX9_passGate 4 = .ok (.getfield 141, 3) := by decide +kernel
theorem dX9_passGate_7 : decode cX9_passGate 7 = .ok (.aload_n 0, 1) := by decide +kernel
theorem dX9_passGate_8 : decode cX9_passGate 8 = .ok (.getfield 68, 3) := by decide +kernel
theorem dX9_passGate_11 : decode cX9_passGate 11 = .ok (.iload_n 1, 1) := by decide +kernel
theorem dX9_passGate_12 : decode cX9_passGate 12 = .ok (.invokevirtual 142, 3) := by decide +kernel
theorem dX9_passGate_15 : decode cX9_passGate 15 = .ok (.ifCond .ne 6, 3) := by decide +kernel
theorem dX9_passGate_18 : decode cX9_passGate 18 = .ok (.bipush (-2), 2) := by decide +kernel
theorem dX9_passGate_20 : decode cX9_passGate 20 = .ok (.ireturn, 1) := by decide +kernel
theorem dX9_passGate_21 : decode cX9_passGate 21 = .ok (.aload_n 0, 1) := by decide +kernel
theorem dX9_passGate_22 : decode cX9_passGate 22 = .ok (.getfield 19, 3) := by decide +kernel
theorem dX9_passGate_25 : decode cX9_passGate 25 = .ok (.aload_n 0, 1) := by decide +kernel
theorem dX9_passGate_26 : decode cX9_passGate 26 = .ok (.getfield 68, 3) := by decide +kernel
theorem dX9_passGate_29 : decode cX9_passGate 29 = .ok (.iload_n 1, 1) := by decide +kernel
theorem dX9_passGate_30 : decode cX9_passGate 30 = .ok (.invokevirtual 149, 3) := by decide +kernel
theorem dX9_passGate_33 : decode cX9_passGate 33 = .ok (.aload_n 0, 1) := by decide +kernel
theorem dX9_passGate_34 : decode cX9_passGate 34 = .ok (.getfield 19, 3) := by decide +kernel
theorem dX9_passGate_37 : decode cX9_passGate 37 = .ok (.invokevirtual 153, 3) := by decide +kernel
theorem dX9_passGate_40 : decode cX9_passGate 40 = .ok (.ireturn, 1) := by decide +kernel
theorem dX9_undo_0 : decode cX9_undo 0 = .ok (.aload_n 0, 1) := by decide +kernel
theorem dX9_undo_1 : decode cX9_undo 1 = .ok (.getfield 19, 3) := by decide +kernel
theorem dX9_undo_4 : decode cX9_undo 4 = .ok (.invokevirtual 156, 3) := by decide +kernel
theorem dX9_undo_7 : decode cX9_undo 7 = .ok (.ifCond .eq 13, 3) := by decide +kernel
theorem dX9_undo_10 : decode cX9_undo 10 = .ok (.aload_n 0, 1) := by decide +kernel
theorem dX9_undo_11 : decode cX9_undo 11 = .ok (.getfield 19, 3) := by decide +kernel
theorem dX9_undo_14 : decode cX9_undo 14 = .ok (.getfield 160, 3) := by decide +kernel
theorem dX9_undo_17 : decode cX9_undo 17 = .ok (.goto 5, 3) := by decide +kernel
theorem dX9_undo_20 : decode cX9_undo 20 = .ok (.bipush (-2), 2) := by decide +kernel
theorem dX9_undo_22 : decode cX9_undo 22 = .ok (.ireturn, 1) := by decide +kernel
theorem dX9_last_0 : decode cX9_last 0 = .ok (.aload_n 0, 1) := by decide +kernel
theorem dX9_last_1 : decode cX9_last 1 = .ok (.getfield 19, 3) := by decide +kernel
theorem dX9_last_4 : decode cX9_last 4 = .ok (.getfield 141, 3) := by decide +kernel
theorem dX9_last_7 : decode cX9_last 7 = .ok (.getfield 163, 3) := by decide +kernel
theorem dX9_last_10 : decode cX9_last 10 = .ok (.iconst (-1), 1) := by decide +kernel
theorem dX9_last_11 : decode cX9_last 11 = .ok (.if_icmp .ne 8, 3) := by decide +kernel
theorem dX9_last_14 : decode cX9_last 14 = .ok (.bipush (-4), 2) := by decide +kernel
theorem dX9_last_16 : decode cX9_last 16 = .ok (.goto 13, 3) := by decide +kernel
theorem dX9_last_19 : decode cX9_last 19 = .ok (.aload_n 0, 1) := by decide +kernel
theorem dX9_last_20 : decode cX9_last 20 = .ok (.getfield 19, 3) := by decide +kernel
theorem dX9_last_23 : decode cX9_last 23 = .ok (.getfield 141, 3) := by decide +kernel
theorem dX9_last_26 : decode cX9_last 26 = .ok (.getfield 163, 3) := by decide +kernel
theorem dX9_last_29 : decode cX9_last 29 = .ok (.ireturn, 1) := by decide +kernel
theorem dX9_add_0 : decode cX9_add 0 = .ok (.aload_n 0, 1) := by decide +kernel
theorem dX9_add_1 : decode cX9_add 1 = .ok (.getfield 68, 3) := by decide +kernel
theorem dX9_add_4 : decode cX9_add 4 = .ok (.iload_n 1, 1) := by decide +kernel
theorem dX9_add_5 : decode cX9_add 5 = .ok (.invokevirtual 115, 3) := by decide +kernel
theorem dX9_add_8 : decode cX9_add 8 = .ok (.ifCond .ne 5, 3) := by decide +kernel
theorem dX9_add_11 : decode cX9_add 11 = .ok (.iconst (-1), 1) := by decide +kernel
theorem dX9_add_12 : decode cX9_add 12 = .ok (.ireturn, 1) := by decide +kernel
theorem dX9_add_13 : decode cX9_add 13 = .ok (.aload_n 0, 1) := by decide +kernel
theorem dX9_add_14 : decode cX9_add 14 = .ok (.getfield 26, 3) := by decide +kernel
theorem dX9_add_17 : decode cX9_add 17 = .ok (.iload_n 1, 1) := by decide +kernel
theorem dX9_add_18 : decode cX9_add 18 = .ok (.invokevirtual 166, 3) := by decide +kernel
theorem dX9_add_21 : decode cX9_add 21 = .ok (.ifCond .eq 13, 3) := by decide +kernel
theorem dX9_add_24 : decode cX9_add 24 = .ok (.aload_n 0, 1) := by decide +kernel
theorem dX9_add_25 : decode cX9_add 25 = .ok (.getfield 26, 3) := by decide +kernel
theorem dX9_add_28 : decode cX9_add 28 = .ok (.getfield 109, 3) := by decide +kernel
theorem dX9_add_31 : decode cX9_add 31 = .ok (.goto 5, 3) := by decide +kernel
theorem dX9_add_34 : decode cX9_add 34 = .ok (.bipush (-3), 2) := by decide +kernel
theorem dX9_add_36 : decode cX9_add 36 = .ok (.ireturn, 1) := by decide +kernel
theorem dX9_noRow_0 : decode cX9_noRow 0 = .ok (.aload_n 0, 1) := by decide +kernel
theorem dX9_noRow_1 : decode cX9_noRow 1 = .ok (.getfield 26, 3) := by decide +kernel
theorem dX9_noRow_4 : decode cX9_noRow 4 = .ok (.getfield 109, 3) := by decide +kernel
theorem dX9_noRow_7 : decode cX9_noRow 7 = .ok (.istore_n 1, 1) := by decide +kernel
theorem dX9_noRow_8 : decode cX9_noRow 8 = .ok (.aload_n 0, 1) := by decide +kernel
theorem dX9_noRow_9 : decode cX9_noRow 9 = .ok (.getfield 26, 3) := by decide +kernel
theorem dX9_noRow_12 : decode cX9_noRow 12 = .ok (.iconst 0, 1) := by decide +kernel
theorem dX9_noRow_13 : decode cX9_noRow 13 = .ok (.putfield 109, 3) := by decide +kernel
theorem dX9_noRow_16 : decode cX9_noRow 16 = .ok (.iload_n 1, 1) := by decide +kernel
theorem dX9_noRow_17 : decode cX9_noRow 17 = .ok (.ireturn, 1) := by decide +kernel
theorem dX9_judge_0 : decode cX9_judge 0 = .ok (.aload_n 0, 1) := by decide +kernel
theorem dX9_judge_1 : decode cX9_judge 1 = .ok (.getfield 33, 3) := by decide +kernel
theorem dX9_judge_4 : decode cX9_judge 4 = .ok (.invokevirtual 168, 3) := by decide +kernel
theorem dX9_judge_7 : decode cX9_judge 7 = .ok (.iconst 0, 1) := by decide +kernel
theorem dX9_judge_8 : decode cX9_judge 8 = .ok (.istore_n 1, 1) := by decide +kernel
theorem dX9_judge_9 : decode cX9_judge 9 = .ok (.iload_n 1, 1) := by decide +kernel
theorem dX9_judge_10 : decode cX9_judge 10 = .ok (.aload_n 0, 1) := by decide +kernel
theorem dX9_judge_11 : decode cX9_judge 11 = .ok (.getfield 26, 3) := by decide +kernel
theorem dX9_judge_14 : decode cX9_judge 14 = .ok (.getfield 109, 3) := by decide +kernel
theorem dX9_judge_17 : decode cX9_judge 17 = .ok (.if_icmp .ge 47, 3) := by decide +kernel
theorem dX9_judge_20 : decode cX9_judge 20 = .ok (.aload_n 0, 1) := by decide +kernel
theorem dX9_judge_21 : decode cX9_judge 21 = .ok (.getfield 26, 3) := by decide +kernel
theorem dX9_judge_24 : decode cX9_judge 24 = .ok (.iload_n 1, 1) := by decide +kernel
theorem dX9_judge_25 : decode cX9_judge 25 = .ok (.invokevirtual 169, 3) := by decide +kernel
theorem dX9_judge_28 : decode cX9_judge 28 = .ok (.istore_n 2, 1) := by decide +kernel
theorem dX9_judge_29 : decode cX9_judge 29 = .ok (.aload_n 0, 1) := by decide +kernel
theorem dX9_judge_30 : decode cX9_judge 30 = .ok (.getfield 33, 3) := by decide +kernel
theorem dX9_judge_33 : decode cX9_judge 33 = .ok (.aload_n 0, 1) := by decide +kernel
theorem dX9_judge_34 : decode cX9_judge 34 = .ok (.getfield 68, 3) := by decide +kernel
theorem dX9_judge_37 : decode cX9_judge 37 = .ok (.iload_n 2, 1) := by decide +kernel
theorem dX9_judge_38 : decode cX9_judge 38 = .ok (.invokevirtual 142, 3) := by decide +kernel
theorem dX9_judge_41 : decode cX9_judge 41 = .ok (.ifCond .ne 5, 3) := by decide +kernel
theorem dX9_judge_44 : decode cX9_judge 44 = .ok (.iload_n 1, 1) := by decide +kernel
theorem dX9_judge_45 : decode cX9_judge 45 = .ok (.ireturn, 1) := by decide +kernel
theorem dX9_judge_46 : decode cX9_judge 46 = .ok (.aload_n 0, 1) := by decide +kernel
theorem dX9_judge_47 : decode cX9_judge 47 = .ok (.getfield 33, 3) := by decide +kernel
theorem dX9_judge_50 : decode cX9_judge 50 = .ok (.aload_n 0, 1) := by decide +kernel
theorem dX9_judge_51 : decode cX9_judge 51 = .ok (.getfield 68, 3) := by decide +kernel
theorem dX9_judge_54 : decode cX9_judge 54 = .ok (.iload_n 2, 1) := by decide +kernel
theorem dX9_judge_55 : decode cX9_judge 55 = .ok (.invokevirtual 172, 3) := by decide +kernel
theorem dX9_judge_58 : decode cX9_judge 58 = .ok (.iinc 1 1, 3) := by decide +kernel
theorem dX9_judge_61 : decode cX9_judge 61 = .ok (.goto (-52), 3) := by decide +kernel
theorem dX9_judge_64 : decode cX9_judge 64 = .ok (.bipush (-4), 2) := by decide +kernel
theorem dX9_judge_66 : decode cX9_judge 66 = .ok (.ireturn, 1) := by decide +kernel
theorem dX9_longest_0 : decode cX9_longest 0 = .ok (.iload_n 1, 1) := by decide +kernel
theorem dX9_longest_1 : decode cX9_longest 1 = .ok (.ifCond .lt 21, 3) := by decide +kernel
theorem dX9_longest_4 : decode cX9_longest 4 = .ok (.iload_n 1, 1) := by decide +kernel
theorem dX9_longest_5 : decode cX9_longest 5 = .ok (.iconst 1, 1) := by decide +kernel
theorem dX9_longest_6 : decode cX9_longest 6 = .ok (.aload_n 0, 1) := by decide +kernel
theorem dX9_longest_7 : decode cX9_longest 7 = .ok (.getfield 68, 3) := by decide +kernel
theorem dX9_longest_10 : decode cX9_longest 10 = .ok (.getfield 105, 3) := by decide +kernel
theorem dX9_longest_13 : decode cX9_longest 13 = .ok (.ishl, 1) := by decide +kernel
theorem dX9_longest_14 : decode cX9_longest 14 = .ok (.if_icmp .ge 8, 3) := by decide +kernel
theorem dX9_longest_17 : decode cX9_longest 17 = .ok (.iload_n 2, 1) := by decide +kernel
theorem dX9_longest_18 : decode cX9_longest 18 = .ok (.iconst (-1), 1) := by decide +kernel
theorem dX9_longest_19 : decode cX9_longest 19 = .ok (.if_icmp .ge 5, 3) := by decide +kernel
theorem dX9_longest_22 : decode cX9_longest 22 = .ok (.iconst (-1), 1) := by decide +kernel
theorem dX9_longest_23 : decode cX9_longest 23 = .ok (.ireturn, 1) := by decide +kernel
theorem dX9_longest_24 : decode cX9_longest 24 = .ok (.aload_n 0, 1) := by decide +kernel
theorem dX9_longest_25 : decode cX9_longest 25 = .ok (.getfield 47, 3) := by decide +kernel
theorem dX9_longest_28 : decode cX9_longest 28 = .ok (.aload_n 0, 1) := by decide +kernel
theorem dX9_longest_29 : decode cX9_longest 29 = .ok (.getfield 68, 3) := by decide +kernel
theorem dX9_longest_32 : decode cX9_longest 32 = .ok (.iload_n 1, 1) := by decide +kernel
theorem dX9_longest_33 : decode cX9_longest 33 = .ok (.invokevirtual 175, 3) := by decide +kernel
theorem dX9_longest_36 : decode cX9_longest 36 = .ok (.istore_n 3, 1) := by decide +kernel
theorem dX9_longest_37 : decode cX9_longest 37 = .ok (.iload_n 2, 1) := by decide +kernel
theorem dX9_longest_38 : decode cX9_longest 38 = .ok (.iconst (-1), 1) := by decide +kernel
theorem dX9_longest_39 : decode cX9_longest 39 = .ok (.if_icmp .ne 5, 3) := by decide +kernel
theorem dX9_longest_42 : decode cX9_longest 42 = .ok (.iload_n 3, 1) := by decide +kernel
theorem dX9_longest_43 : decode cX9_longest 43 = .ok (.ireturn, 1) := by decide +kernel
theorem dX9_longest_44 : decode cX9_longest 44 = .ok (.iload_n 2, 1) := by decide +kernel
theorem dX9_longest_45 : decode cX9_longest 45 = .ok (.iload_n 3, 1) := by decide +kernel
theorem dX9_longest_46 : decode cX9_longest 46 = .ok (.if_icmp .ge 24, 3) := by decide +kernel
theorem dX9_longest_49 : decode cX9_longest 49 = .ok (.aload_n 0, 1) := by decide +kernel
theorem dX9_longest_50 : decode cX9_longest 50 = .ok (.getfield 47, 3) := by decide +kernel
theorem dX9_longest_53 : decode cX9_longest 53 = .ok (.aload_n 0, 1) := by decide +kernel
theorem dX9_longest_54 : decode cX9_longest 54 = .ok (.getfield 68, 3) := by decide +kernel
theorem dX9_longest_57 : decode cX9_longest 57 = .ok (.aload_n 0, 1) := by decide +kernel
theorem dX9_longest_58 : decode cX9_longest 58 = .ok (.getfield 33, 3) := by decide +kernel
theorem dX9_longest_61 : decode cX9_longest 61 = .ok (.iload_n 1, 1) := by decide +kernel
theorem dX9_longest_62 : decode cX9_longest 62 = .ok (.iload_n 3, 1) := by decide +kernel
theorem dX9_longest_63 : decode cX9_longest 63 = .ok (.iload_n 2, 1) := by decide +kernel
theorem dX9_longest_64 : decode cX9_longest 64 = .ok (.invokevirtual 179, 3) := by decide +kernel
theorem dX9_longest_67 : decode cX9_longest 67 = .ok (.goto 5, 3) := by decide +kernel
theorem dX9_longest_70 : decode cX9_longest 70 = .ok (.bipush (-4), 2) := by decide +kernel
theorem dX9_longest_72 : decode cX9_longest 72 = .ok (.ireturn, 1) := by decide +kernel
theorem dX9_proof_0 : decode cX9_proof 0 = .ok (.aload_n 0, 1) := by decide +kernel
theorem dX9_proof_1 : decode cX9_proof 1 = .ok (.getfield 68, 3) := by decide +kernel
theorem dX9_proof_4 : decode cX9_proof 4 = .ok (.getfield 183, 3) := by decide +kernel
theorem dX9_proof_7 : decode cX9_proof 7 = .ok (.ifCond .ne 35, 3) := by decide +kernel
theorem dX9_proof_10 : decode cX9_proof 10 = .ok (.aload_n 0, 1) := by decide +kernel
theorem dX9_proof_11 : decode cX9_proof 11 = .ok (.getfield 68, 3) := by decide +kernel
theorem dX9_proof_14 : decode cX9_proof 14 = .ok (.invokevirtual 186, 3) := by decide +kernel
theorem dX9_proof_17 : decode cX9_proof 17 = .ok (.aload_n 0, 1) := by decide +kernel
theorem dX9_proof_18 : decode cX9_proof 18 = .ok (.getfield 68, 3) := by decide +kernel
theorem dX9_proof_21 : decode cX9_proof 21 = .ok (.invokevirtual 189, 3) := by decide +kernel
theorem dX9_proof_24 : decode cX9_proof 24 = .ok (.if_icmp .ne 18, 3) := by decide +kernel
theorem dX9_proof_27 : decode cX9_proof 27 = .ok (.aload_n 0, 1) := by decide +kernel
theorem dX9_proof_28 : decode cX9_proof 28 = .ok (.getfield 68, 3) := by decide +kernel
theorem dX9_proof_31 : decode cX9_proof 31 = .ok (.iconst 2, 1) := by decide +kernel
theorem dX9_proof_32 : decode cX9_proof 32 = .ok (.invokevirtual 192, 3) := by decide +kernel
theorem dX9_proof_35 : decode cX9_proof 35 = .ok (.ifCond .ne 7, 3) := by decide +kernel
theorem dX9_proof_38 : decode cX9_proof 38 = .ok (.iconst 1, 1) := by decide +kernel
theorem dX9_proof_39 : decode cX9_proof 39 = .ok (.goto 4, 3) := by decide +kernel
theorem dX9_proof_42 : decode cX9_proof 42 = .ok (.iconst 0, 1) := by decide +kernel
theorem dX9_proof_43 : decode cX9_proof 43 = .ok (.istore_n 1, 1) := by decide +kernel
theorem dX9_proof_44 : decode cX9_proof 44 = .ok (.iload_n 1, 1) := by decide +kernel
theorem dX9_proof_45 : decode cX9_proof 45 = .ok (.ifCond .eq 21, 3) := by decide +kernel
theorem dX9_proof_48 : decode cX9_proof 48 = .ok (.aload_n 0, 1) := by decide +kernel
theorem dX9_proof_49 : decode cX9_proof 49 = .ok (.getfield 68, 3) := by decide +kernel
theorem dX9_proof_52 : decode cX9_proof 52 = .ok (.invokevirtual 195, 3) := by decide +kernel
theorem dX9_proof_55 : decode cX9_proof 55 = .ok (.invokestatic 198, 3) := by decide +kernel
theorem dX9_proof_58 : decode cX9_proof 58 = .ok (.iconst 2, 1) := by decide +kernel
theorem dX9_proof_59 : decode cX9_proof 59 = .ok (.if_icmp .lt 7, 3) := by decide +kernel
theorem dX9_proof_62 : decode cX9_proof 62 = .ok (.iconst 1, 1) := by decide +kernel
theorem dX9_proof_63 : decode cX9_proof 63 = .ok (.goto 4, 3) := by decide +kernel
theorem dX9_proof_66 : decode cX9_proof 66 = .ok (.iconst 0, 1) := by decide +kernel
theorem dX9_proof_67 : decode cX9_proof 67 = .ok (.ireturn, 1) := by decide +kernel
theorem dX9_between_0 : decode cX9_between 0 = .ok (.aload_n 0, 1) := by decide +kernel
theorem dX9_between_1 : decode cX9_between 1 = .ok (.getfield 68, 3) := by decide +kernel
theorem dX9_between_4 : decode cX9_between 4 = .ok (.iload_n 1, 1) := by decide +kernel
theorem dX9_between_5 : decode cX9_between 5 = .ok (.invokevirtual 115, 3) := by decide +kernel
theorem dX9_between_8 : decode cX9_between 8 = .ok (.ifCond .eq 24, 3) := by decide +kernel
theorem dX9_between_11 : decode cX9_between 11 = .ok (.aload_n 0, 1) := by decide +kernel
theorem dX9_between_12 : decode cX9_between 12 = .ok (.getfield 68, 3) := by decide +kernel
theorem dX9_between_15 : decode cX9_between 15 = .ok (.iload_n 2, 1) := by decide +kernel
theorem dX9_between_16 : decode cX9_between 16 = .ok (.invokevirtual 115, 3) := by decide +kernel
theorem dX9_between_19 : decode cX9_between 19 = .ok (.ifCond .eq 13, 3) := by decide +kernel
theorem dX9_between_22 : decode cX9_between 22 = .ok (.iload_n 3, 1) := by decide +kernel
theorem dX9_between_23 : decode cX9_between 23 = .ok (.ifCond .lt 9, 3) := by decide +kernel
theorem dX9_between_26 : decode cX9_between 26 = .ok (.iload_n 3, 1) := by decide +kernel
theorem dX9_between_27 : decode cX9_between 27 = .ok (.bipush 12, 2) := by decide +kernel
theorem dX9_between_29 : decode cX9_between 29 = .ok (.if_icmp .le 7, 3) := by decide +kernel
theorem dX9_between_32 : decode cX9_between 32 = .ok (.ldc2_w 203, 3) := by decide +kernel
theorem dX9_between_35 : decode cX9_between 35 = .ok (.lreturn, 1) := by decide +kernel
theorem dX9_between_36 : decode cX9_between 36 = .ok (.aload_n 0, 1) := by decide +kernel
theorem dX9_between_37 : decode cX9_between 37 = .ok (.getfield 40, 3) := by decide +kernel
theorem dX9_between_40 : decode cX9_between 40 = .ok (.iload_n 1, 1) := by decide +kernel
theorem dX9_between_41 : decode cX9_between 41 = .ok (.invokevirtual 205, 3) := by decide +kernel
theorem dX9_between_44 : decode cX9_between 44 = .ok (.iconst 0, 1) := by decide +kernel
theorem dX9_between_45 : decode cX9_between 45 = .ok (.istore 4, 2) := by decide +kernel
theorem dX9_between_47 : decode cX9_between 47 = .ok (.iload 4, 2) := by decide +kernel
theorem dX9_between_49 : decode cX9_between 49 = .ok (.iload_n 3, 1) := by decide +kernel
theorem dX9_between_50 : decode cX9_between 50 = .ok (.if_icmp .gt 20, 3) := by decide +kernel
theorem dX9_between_53 : decode cX9_between 53 = .ok (.aload_n 0, 1) := by decide +kernel
theorem dX9_between_54 : decode cX9_between 54 = .ok (.getfield 40, 3) := by decide +kernel
theorem dX9_between_57 : decode cX9_between 57 = .ok (.aload_n 0, 1) := by decide +kernel
theorem dX9_between_58 : decode cX9_between 58 = .ok (.getfield 68, 3) := by decide +kernel
theorem dX9_between_61 : decode cX9_between 61 = .ok (.invokevirtual 209, 3) := by decide +kernel
theorem dX9_between_64 : decode cX9_between 64 = .ok (.iinc 4 1, 3) := by decide +kernel
theorem dX9_between_67 : decode cX9_between 67 = .ok (.goto (-20), 3) := by decide +kernel
theorem dX9_between_70 : decode cX9_between 70 = .ok (.aload_n 0, 1) := by decide +kernel
theorem dX9_between_71 : decode cX9_between 71 = .ok (.getfield 40, 3) := by decide +kernel
theorem dX9_between_74 : decode cX9_between 74 = .ok (.iload_n 2, 1) := by decide +kernel
theorem dX9_between_75 : decode cX9_between 75 = .ok (.invokevirtual 213, 3) := by decide +kernel
theorem dX9_between_78 : decode cX9_between 78 = .ok (.lreturn, 1) := by decide +kernel
theorem dX9_nearest_0 : decode cX9_nearest 0 = .ok (.aload_n 0, 1) := by decide +kernel
theorem dX9_nearest_1 : decode cX9_nearest 1 = .ok (.getfield 68, 3) := by decide +kernel
theorem dX9_nearest_4 : decode cX9_nearest 4 = .ok (.iload_n 1, 1) := by decide +kernel
theorem dX9_nearest_5 : decode cX9_nearest 5 = .ok (.invokevirtual 115, 3) := by decide +kernel
theorem dX9_nearest_8 : decode cX9_nearest 8 = .ok (.ifCond .eq 14, 3) := by decide +kernel
theorem dX9_nearest_11 : decode cX9_nearest 11 = .ok (.aload_n 0, 1) := by decide +kernel
theorem dX9_nearest_12 : decode cX9_nearest 12 = .ok (.getfield 68, 3) := by decide +kernel
theorem dX9_nearest_15 : decode cX9_nearest 15 = .ok (.iload_n 2, 1) := by decide +kernel
theorem dX9_nearest_16 : decode cX9_nearest 16 = .ok (.invokevirtual 115, 3) := by decide +kernel
theorem dX9_nearest_19 : decode cX9_nearest 19 = .ok (.ifCond .ne 5, 3) := by decide +kernel
theorem dX9_nearest_22 : decode cX9_nearest 22 = .ok (.iconst (-1), 1) := by decide +kernel
theorem dX9_nearest_23 : decode cX9_nearest 23 = .ok (.ireturn, 1) := by decide +kernel
theorem dX9_nearest_24 : decode cX9_nearest 24 = .ok (.aload_n 0, 1) := by decide +kernel
theorem dX9_nearest_25 : decode cX9_nearest 25 = .ok (.getfield 40, 3) := by decide +kernel
theorem dX9_nearest_28 : decode cX9_nearest 28 = .ok (.iload_n 1, 1) := by decide +kernel
theorem dX9_nearest_29 : decode cX9_nearest 29 = .ok (.invokevirtual 205, 3) := by decide +kernel
theorem dX9_nearest_32 : decode cX9_nearest 32 = .ok (.iconst 0, 1) := by decide +kernel
theorem dX9_nearest_33 : decode cX9_nearest 33 = .ok (.istore_n 3, 1) := by decide +kernel
theorem dX9_nearest_34 : decode cX9_nearest 34 = .ok (.iload_n 3, 1) := by decide +kernel
theorem dX9_nearest_35 : decode cX9_nearest 35 = .ok (.bipush 12, 2) := by decide +kernel
theorem dX9_nearest_37 : decode cX9_nearest 37 = .ok (.if_icmp .gt 35, 3) := by decide +kernel
theorem dX9_nearest_40 : decode cX9_nearest 40 = .ok (.aload_n 0, 1) := by decide +kernel
theorem dX9_nearest_41 : decode cX9_nearest 41 = .ok (.getfield 40, 3) := by decide +kernel
theorem dX9_nearest_44 : decode cX9_nearest 44 = .ok (.aload_n 0, 1) := by decide +kernel
theorem dX9_nearest_45 : decode cX9_nearest 45 = .ok (.getfield 68, 3) := by decide +kernel
theorem dX9_nearest_48 : decode cX9_nearest 48 = .ok (.invokevirtual 209, 3) := by decide +kernel
theorem dX9_nearest_51 : decode cX9_nearest 51 = .ok (.aload_n 0, 1) := by decide +kernel
theorem dX9_nearest_52 : decode cX9_nearest 52 = .ok (.getfield 40, 3) := by decide +kernel
theorem dX9_nearest_55 : decode cX9_nearest 55 = .ok (.iload_n 2, 1) := by decide +kernel
theorem dX9_nearest_56 : decode cX9_nearest 56 = .ok (.invokevirtual 213, 3) := by decide +kernel
theorem dX9_nearest_59 : decode cX9_nearest 59 = .ok (.lconst 0, 1) := by decide +kernel
theorem dX9_nearest_60 : decode cX9_nearest 60 = .ok (.lcmp, 1) := by decide +kernel
theorem dX9_nearest_61 : decode cX9_nearest 61 = .ok (.ifCond .le 5, 3) := by decide +kernel
theorem dX9_nearest_64 : decode cX9_nearest 64 = .ok (.iload_n 3, 1) := by decide +kernel
theorem dX9_nearest_65 : decode cX9_nearest 65 = .ok (.ireturn, 1) := by decide +kernel
theorem dX9_nearest_66 : decode cX9_nearest 66 = .ok (.iinc 3 1, 3) := by decide +kernel
theorem dX9_nearest_69 : decode cX9_nearest 69 = .ok (.goto (-35), 3) := by decide +kernel
theorem dX9_nearest_72 : decode cX9_nearest 72 = .ok (.bipush (-4), 2) := by decide +kernel
theorem dX9_nearest_74 : decode cX9_nearest 74 = .ok (.ireturn, 1) := by decide +kernel
theorem dX9_steps_0 : decode cX9_steps 0 = .ok (.aload_n 0, 1) := by decide +kernel
theorem dX9_steps_1 : decode cX9_steps 1 = .ok (.getfield 68, 3) := by decide +kernel
theorem dX9_steps_4 : decode cX9_steps 4 = .ok (.iload_n 1, 1) := by decide +kernel
theorem dX9_steps_5 : decode cX9_steps 5 = .ok (.invokevirtual 115, 3) := by decide +kernel
theorem dX9_steps_8 : decode cX9_steps 8 = .ok (.ifCond .eq 23, 3) := by decide +kernel
theorem dX9_steps_11 : decode cX9_steps 11 = .ok (.aload_n 0, 1) := by decide +kernel
theorem dX9_steps_12 : decode cX9_steps 12 = .ok (.getfield 68, 3) := by decide +kernel
theorem dX9_steps_15 : decode cX9_steps 15 = .ok (.iload_n 2, 1) := by decide +kernel
theorem dX9_steps_16 : decode cX9_steps 16 = .ok (.invokevirtual 115, 3) := by decide +kernel
theorem dX9_steps_19 : decode cX9_steps 19 = .ok (.ifCond .eq 12, 3) := by decide +kernel
theorem dX9_steps_22 : decode cX9_steps 22 = .ok (.iload_n 3, 1) := by decide +kernel
theorem dX9_steps_23 : decode cX9_steps 23 = .ok (.ifCond .lt 8, 3) := by decide +kernel
theorem dX9_steps_26 : decode cX9_steps 26 = .ok (.iload_n 3, 1) := by decide +kernel
theorem dX9_steps_27 : decode cX9_steps 27 = .ok (.iconst 1, 1) := by decide +kernel
theorem dX9_steps_28 : decode cX9_steps 28 = .ok (.if_icmp .le 5, 3) := by decide +kernel
theorem dX9_steps_31 : decode cX9_steps 31 = .ok (.iconst (-1), 1) := by decide +kernel
theorem dX9_steps_32 : decode cX9_steps 32 = .ok (.ireturn, 1) := by decide +kernel
theorem dX9_steps_33 : decode cX9_steps 33 = .ok (.aload_n 0, 1) := by decide +kernel
theorem dX9_steps_34 : decode cX9_steps 34 = .ok (.getfield 54, 3) := by decide +kernel
theorem dX9_steps_37 : decode cX9_steps 37 = .ok (.aload_n 0, 1) := by decide +kernel
theorem dX9_steps_38 : decode cX9_steps 38 = .ok (.getfield 68, 3) := by decide +kernel
theorem dX9_steps_41 : decode cX9_steps 41 = .ok (.aload_n 0, 1) := by decide +kernel
theorem dX9_steps_42 : decode cX9_steps 42 = .ok (.getfield 68, 3) := by decide +kernel
theorem dX9_steps_45 : decode cX9_steps 45 = .ok (.iload_n 1, 1) := by decide +kernel
theorem dX9_steps_46 : decode cX9_steps 46 = .ok (.iload_n 2, 1) := by decide +kernel
theorem dX9_steps_47 : decode cX9_steps 47 = .ok (.invokevirtual 135, 3) := by decide +kernel
theorem dX9_steps_50 : decode cX9_steps 50 = .ok (.invokevirtual 217, 3) := by decide +kernel
theorem dX9_steps_53 : decode cX9_steps 53 = .ok (.istore 4, 2) := by decide +kernel
theorem dX9_steps_55 : decode cX9_steps 55 = .ok (.iload_n 3, 1) := by decide +kernel
theorem dX9_steps_56 : decode cX9_steps 56 = .ok (.ifCond .eq 10, 3) := by decide +kernel
theorem dX9_steps_59 : decode cX9_steps 59 = .ok (.iload 4, 2) := by decide +kernel
theorem dX9_steps_61 : decode cX9_steps 61 = .ok (.bipush (-4), 2) := by decide +kernel
theorem dX9_steps_63 : decode cX9_steps 63 = .ok (.if_icmp .ne 6, 3) := by decide +kernel
theorem dX9_steps_66 : decode cX9_steps 66 = .ok (.iload 4, 2) := by decide +kernel
theorem dX9_steps_68 : decode cX9_steps 68 = .ok (.ireturn, 1) := by decide +kernel
theorem dX9_steps_69 : decode cX9_steps 69 = .ok (.iload 4, 2) := by decide +kernel
theorem dX9_steps_71 : decode cX9_steps 71 = .ok (.ifCond .ne 8, 3) := by decide +kernel
theorem dX9_steps_74 : decode cX9_steps 74 = .ok (.bipush (-4), 2) := by decide +kernel
theorem dX9_steps_76 : decode cX9_steps 76 = .ok (.goto 32, 3) := by decide +kernel
theorem dX9_steps_79 : decode cX9_steps 79 = .ok (.aload_n 0, 1) := by decide +kernel
theorem dX9_steps_80 : decode cX9_steps 80 = .ok (.getfield 54, 3) := by decide +kernel
theorem dX9_steps_83 : decode cX9_steps 83 = .ok (.aload_n 0, 1) := by decide +kernel
theorem dX9_steps_84 : decode cX9_steps 84 = .ok (.getfield 68, 3) := by decide +kernel
theorem dX9_steps_87 : decode cX9_steps 87 = .ok (.aload_n 0, 1) := by decide +kernel
theorem dX9_steps_88 : decode cX9_steps 88 = .ok (.getfield 68, 3) := by decide +kernel
theorem dX9_steps_91 : decode cX9_steps 91 = .ok (.iload_n 1, 1) := by decide +kernel
theorem dX9_steps_92 : decode cX9_steps 92 = .ok (.invokevirtual 121, 3) := by decide +kernel
theorem dX9_steps_95 : decode cX9_steps 95 = .ok (.aload_n 0, 1) := by decide +kernel
theorem dX9_steps_96 : decode cX9_steps 96 = .ok (.getfield 68, 3) := by decide +kernel
theorem dX9_steps_99 : decode cX9_steps 99 = .ok (.iload_n 2, 1) := by decide +kernel
theorem dX9_steps_100 : decode cX9_steps 100 = .ok (.invokevirtual 121, 3) := by decide +kernel
theorem dX9_steps_103 : decode cX9_steps 103 = .ok (.iload 4, 2) := by decide +kernel
theorem dX9_steps_105 : decode cX9_steps 105 = .ok (.invokevirtual 220, 3) := by decide +kernel
theorem dX9_steps_108 : decode cX9_steps 108 = .ok (.ireturn, 1) := by decide +kernel
theorem dX9_lent_0 : decode cX9_lent 0 = .ok (.iload_n 1, 1) := by decide +kernel
theorem dX9_lent_1 : decode cX9_lent 1 = .ok (.iconst (-1), 1) := by decide +kernel
theorem dX9_lent_2 : decode cX9_lent 2 = .ok (.if_icmp .lt 14, 3) := by decide +kernel
theorem dX9_lent_5 : decode cX9_lent 5 = .ok (.iload_n 1, 1) := by decide +kernel
theorem dX9_lent_6 : decode cX9_lent 6 = .ok (.aload_n 0, 1) := by decide +kernel
theorem dX9_lent_7 : decode cX9_lent 7 = .ok (.getfield 26, 3) := by decide +kernel
theorem dX9_lent_10 : decode cX9_lent 10 = .ok (.getfield 109, 3) := by decide +kernel
theorem dX9_lent_13 : decode cX9_lent 13 = .ok (.if_icmp .lt 5, 3) := by decide +kernel
theorem dX9_lent_16 : decode cX9_lent 16 = .ok (.iconst (-1), 1) := by decide +kernel
theorem dX9_lent_17 : decode cX9_lent 17 = .ok (.ireturn, 1) := by decide +kernel
theorem dX9_lent_18 : decode cX9_lent 18 = .ok (.iload_n 1, 1) := by decide +kernel
theorem dX9_lent_19 : decode cX9_lent 19 = .ok (.iconst (-1), 1) := by decide +kernel
theorem dX9_lent_20 : decode cX9_lent 20 = .ok (.if_icmp .ne 21, 3) := by decide +kernel
theorem dX9_lent_23 : decode cX9_lent 23 = .ok (.aload_n 0, 1) := by decide +kernel
theorem dX9_lent_24 : decode cX9_lent 24 = .ok (.getfield 61, 3) := by decide +kernel
theorem dX9_lent_27 : decode cX9_lent 27 = .ok (.aload_n 0, 1) := by decide +kernel
theorem dX9_lent_28 : decode cX9_lent 28 = .ok (.getfield 68, 3) := by decide +kernel
theorem dX9_lent_31 : decode cX9_lent 31 = .ok (.aload_n 0, 1) := by decide +kernel
theorem dX9_lent_32 : decode cX9_lent 32 = .ok (.getfield 26, 3) := by decide +kernel
theorem dX9_lent_35 : decode cX9_lent 35 = .ok (.invokevirtual 224, 3) := by decide +kernel
theorem dX9_lent_38 : decode cX9_lent 38 = .ok (.goto 19, 3) := by decide +kernel
theorem dX9_lent_41 : decode cX9_lent 41 = .ok (.aload_n 0, 1) := by decide +kernel
theorem dX9_lent_42 : decode cX9_lent 42 = .ok (.getfield 61, 3) := by decide +kernel
theorem dX9_lent_45 : decode cX9_lent 45 = .ok (.aload_n 0, 1) := by decide +kernel
theorem dX9_lent_46 : decode cX9_lent 46 = .ok (.getfield 68, 3) := by decide +kernel
theorem dX9_lent_49 : decode cX9_lent 49 = .ok (.aload_n 0, 1) := by decide +kernel
theorem dX9_lent_50 : decode cX9_lent 50 = .ok (.getfield 26, 3) := by decide +kernel
theorem dX9_lent_53 : decode cX9_lent 53 = .ok (.iload_n 1, 1) := by decide +kernel
theorem dX9_lent_54 : decode cX9_lent 54 = .ok (.invokevirtual 227, 3) := by decide +kernel
theorem dX9_lent_57 : decode cX9_lent 57 = .ok (.ireturn, 1) := by decide +kernel
theorem dX9_mustSee_0 : decode cX9_mustSee 0 = .ok (.aload_n 0, 1) := by decide +kernel
theorem dX9_mustSee_1 : decode cX9_mustSee 1 = .ok (.getfield 68, 3) := by decide +kernel
theorem dX9_mustSee_4 : decode cX9_mustSee 4 = .ok (.invokevirtual 189, 3) := by decide +kernel
theorem dX9_mustSee_7 : decode cX9_mustSee 7 = .ok (.istore_n 1, 1) := by decide +kernel
theorem dX9_mustSee_8 : decode cX9_mustSee 8 = .ok (.aload_n 0, 1) := by decide +kernel
theorem dX9_mustSee_9 : decode cX9_mustSee 9 = .ok (.getfield 68, 3) := by decide +kernel
theorem dX9_mustSee_12 : decode cX9_mustSee 12 = .ok (.invokevirtual 189, 3) := by decide +kernel
theorem dX9_mustSee_15 : decode cX9_mustSee 15 = .ok (.istore_n 2, 1) := by decide +kernel
theorem dX9_mustSee_16 : decode cX9_mustSee 16 = .ok (.iload_n 2, 1) := by decide +kernel
theorem dX9_mustSee_17 : decode cX9_mustSee 17 = .ok (.ifCond .lt 33, 3) := by decide +kernel
theorem dX9_mustSee_20 : decode cX9_mustSee 20 = .ok (.iload_n 2, 1) := by decide +kernel
theorem dX9_mustSee_21 : decode cX9_mustSee 21 = .ok (.invokestatic 231, 3) := by decide +kernel
theorem dX9_mustSee_24 : decode cX9_mustSee 24 = .ok (.iload_n 1, 1) := by decide +kernel
theorem dX9_mustSee_25 : decode cX9_mustSee 25 = .ok (.invokestatic 231, 3) := by decide +kernel
theorem dX9_mustSee_28 : decode cX9_mustSee 28 = .ok (.if_icmp .gt 16, 3) := by decide +kernel
theorem dX9_mustSee_31 : decode cX9_mustSee 31 = .ok (.aload_n 0, 1) := by decide +kernel
theorem dX9_mustSee_32 : decode cX9_mustSee 32 = .ok (.getfield 68, 3) := by decide +kernel
theorem dX9_mustSee_35 : decode cX9_mustSee 35 = .ok (.iload_n 2, 1) := by decide +kernel
theorem dX9_mustSee_36 : decode cX9_mustSee 36 = .ok (.invokevirtual 236, 3) := by decide +kernel
theorem dX9_mustSee_39 : decode cX9_mustSee 39 = .ok (.ifCond .eq 5, 3) := by decide +kernel
theorem dX9_mustSee_42 : decode cX9_mustSee 42 = .ok (.iload_n 2, 1) := by decide +kernel
theorem dX9_mustSee_43 : decode cX9_mustSee 43 = .ok (.istore_n 1, 1) := by decide +kernel
theorem dX9_mustSee_44 : decode cX9_mustSee 44 = .ok (.iinc 2 (-1), 3) := by decide +kernel
theorem dX9_mustSee_47 : decode cX9_mustSee 47 = .ok (.goto (-31), 3) := by decide +kernel
theorem dX9_mustSee_50 : decode cX9_mustSee 50 = .ok (.iload_n 1, 1) := by decide +kernel
theorem dX9_mustSee_51 : decode cX9_mustSee 51 = .ok (.ireturn, 1) := by decide +kernel
theorem dX9_crowd_0 : decode cX9_crowd 0 = .ok (.iload_n 1, 1) := by decide +kernel
theorem dX9_crowd_1 : decode cX9_crowd 1 = .ok (.ifCond .lt 30, 3) := by decide +kernel
theorem dX9_crowd_4 : decode cX9_crowd 4 = .ok (.iload_n 1, 1) := by decide +kernel
theorem dX9_crowd_5 : decode cX9_crowd 5 = .ok (.sipush 9999, 3) := by decide +kernel
theorem dX9_crowd_8 : decode cX9_crowd 8 = .ok (.if_icmp .gt 23, 3) := by decide +kernel
theorem dX9_crowd_11 : decode cX9_crowd 11 = .ok (.iload_n 2, 1) := by decide +kernel
theorem dX9_crowd_12 : decode cX9_crowd 12 = .ok (.iconst 1, 1) := by decide +kernel
theorem dX9_crowd_13 : decode cX9_crowd 13 = .ok (.if_icmp .lt 18, 3) := by decide +kernel
theorem dX9_crowd_16 : decode cX9_crowd 16 = .ok (.iload_n 2, 1) := by decide +kernel
theorem dX9_crowd_17 : decode cX9_crowd 17 = .ok (.bipush 60, 2) := by decide +kernel
theorem dX9_crowd_19 : decode cX9_crowd 19 = .ok (.if_icmp .gt 12, 3) := by decide +kernel
theorem dX9_crowd_22 : decode cX9_crowd 22 = .ok (.iload_n 3, 1) := by decide +kernel
theorem dX9_crowd_23 : decode cX9_crowd 23 = .ok (.ifCond .lt 8, 3) := by decide +kernel
theorem dX9_crowd_26 : decode cX9_crowd 26 = .ok (.iload_n 3, 1) := by decide +kernel
theorem dX9_crowd_27 : decode cX9_crowd 27 = .ok (.iconst 1, 1) := by decide +kernel
theorem dX9_crowd_28 : decode cX9_crowd 28 = .ok (.if_icmp .le 5, 3) := by decide +kernel
theorem dX9_crowd_31 : decode cX9_crowd 31 = .ok (.iconst (-1), 1) := by decide +kernel
theorem dX9_crowd_32 : decode cX9_crowd 32 = .ok (.ireturn, 1) := by decide +kernel
theorem dX9_crowd_33 : decode cX9_crowd 33 = .ok (.aload_n 0, 1) := by decide +kernel
theorem dX9_crowd_34 : decode cX9_crowd 34 = .ok (.getfield 33, 3) := by decide +kernel
theorem dX9_crowd_37 : decode cX9_crowd 37 = .ok (.invokevirtual 168, 3) := by decide +kernel
theorem dX9_crowd_40 : decode cX9_crowd 40 = .ok (.iconst 0, 1) := by decide +kernel
theorem dX9_crowd_41 : decode cX9_crowd 41 = .ok (.istore 4, 2) := by decide +kernel
theorem dX9_crowd_43 : decode cX9_crowd 43 = .ok (.iconst 0, 1) := by decide +kernel
theorem dX9_crowd_44 : decode cX9_crowd 44 = .ok (.istore 5, 2) := by decide +kernel
theorem dX9_crowd_46 : decode cX9_crowd 46 = .ok (.iload 5, 2) := by decide +kernel
theorem dX9_crowd_48 : decode cX9_crowd 48 = .ok (.iload_n 2, 1) := by decide +kernel
theorem dX9_crowd_49 : decode cX9_crowd 49 = .ok (.if_icmp .ge 53, 3) := by decide +kernel
theorem dX9_crowd_52 : decode cX9_crowd 52 = .ok (.aload_n 0, 1) := by decide +kernel
theorem dX9_crowd_53 : decode cX9_crowd 53 = .ok (.getfield 68, 3) := by decide +kernel
theorem dX9_crowd_56 : decode cX9_crowd 56 = .ok (.iload_n 1, 1) := by decide +kernel
theorem dX9_crowd_57 : decode cX9_crowd 57 = .ok (.iload 5, 2) := by decide +kernel
theorem dX9_crowd_59 : decode cX9_crowd 59 = .ok (.invokevirtual 239, 3) := by decide +kernel
theorem dX9_crowd_62 : decode cX9_crowd 62 = .ok (.istore 6, 2) := by decide +kernel
theorem dX9_crowd_64 : decode cX9_crowd 64 = .ok (.aload_n 0, 1) := by decide +kernel
theorem dX9_crowd_65 : decode cX9_crowd 65 = .ok (.getfield 33, 3) := by decide +kernel
theorem dX9_crowd_68 : decode cX9_crowd 68 = .ok (.aload_n 0, 1) := by decide +kernel
theorem dX9_crowd_69 : decode cX9_crowd 69 = .ok (.getfield 68, 3) := by decide +kernel
theorem dX9_crowd_72 : decode cX9_crowd 72 = .ok (.iload 6, 2) := by decide +kernel
theorem dX9_crowd_74 : decode cX9_crowd 74 = .ok (.invokevirtual 142, 3) := by decide +kernel
theorem dX9_crowd_77 : decode cX9_crowd 77 = .ok (.ifCond .eq 19, 3) := by decide +kernel
theorem dX9_crowd_80 : decode cX9_crowd 80 = .ok (.aload_n 0, 1) := by decide +kernel
theorem dX9_crowd_81 : decode cX9_crowd 81 = .ok (.getfield 33, 3) := by decide +kernel
theorem dX9_crowd_84 : decode cX9_crowd 84 = .ok (.aload_n 0, 1) := by decide +kernel
theorem dX9_crowd_85 : decode cX9_crowd 85 = .ok (.getfield 68, 3) := by decide +kernel
theorem dX9_crowd_88 : decode cX9_crowd 88 = .ok (.iload 6, 2) := by decide +kernel
theorem dX9_crowd_90 : decode cX9_crowd 90 = .ok (.invokevirtual 172, 3) := by decide +kernel
theorem dX9_crowd_93 : decode cX9_crowd 93 = .ok (.iinc 4 1, 3) := by decide +kernel
theorem dX9_crowd_96 : decode cX9_crowd 96 = .ok (.iinc 5 1, 3) := by decide +kernel
theorem dX9_crowd_99 : decode cX9_crowd 99 = .ok (.goto (-53), 3) := by decide +kernel
theorem dX9_crowd_102 : decode cX9_crowd 102 = .ok (.iload_n 3, 1) := by decide +kernel
theorem dX9_crowd_103 : decode cX9_crowd 103 = .ok (.ifCond .ne 8, 3) := by decide +kernel
theorem dX9_crowd_106 : decode cX9_crowd 106 = .ok (.iload 4, 2) := by decide +kernel
theorem dX9_crowd_108 : decode cX9_crowd 108 = .ok (.goto 10, 3) := by decide +kernel
theorem dX9_crowd_111 : decode cX9_crowd 111 = .ok (.aload_n 0, 1) := by decide +kernel
theorem dX9_crowd_112 : decode cX9_crowd 112 = .ok (.getfield 33, 3) := by decide +kernel
theorem dX9_crowd_115 : decode cX9_crowd 115 = .ok (.getfield 163, 3) := by decide +kernel
theorem dX9_crowd_118 : decode cX9_crowd 118 = .ok (.ireturn, 1) := by decide +kernel
theorem dX9_keep_0 : decode cX9_keep 0 = .ok (.aload_n 0, 1) := by decide +kernel
theorem dX9_keep_1 : decode cX9_keep 1 = .ok (.getfield 19, 3) := by decide +kernel
theorem dX9_keep_4 : decode cX9_keep 4 = .ok (.invokevirtual 242, 3) := by decide +kernel
theorem dX9_keep_7 : decode cX9_keep 7 = .ok (.ifCond .eq 13, 3) := by decide +kernel
theorem dX9_keep_10 : decode cX9_keep 10 = .ok (.aload_n 0, 1) := by decide +kernel
theorem dX9_keep_11 : decode cX9_keep 11 = .ok (.getfield 19, 3) := by decide +kernel
theorem dX9_keep_14 : decode cX9_keep 14 = .ok (.getfield 245, 3) := by decide +kernel
theorem dX9_keep_17 : decode cX9_keep 17 = .ok (.goto 5, 3) := by decide +kernel
theorem dX9_keep_20 : decode cX9_keep 20 = .ok (.bipush (-3), 2) := by decide +kernel
theorem dX9_keep_22 : decode cX9_keep 22 = .ok (.ireturn, 1) := by decide +kernel
theorem dX9_back_0 : decode cX9_back 0 = .ok (.aload_n 0, 1) := by decide +kernel
theorem dX9_back_1 : decode cX9_back 1 = .ok (.getfield 19, 3) := by decide +kernel
theorem dX9_back_4 : decode cX9_back 4 = .ok (.invokevirtual 248, 3) := by decide +kernel
theorem dX9_back_7 : decode cX9_back 7 = .ok (.ifCond .eq 13, 3) := by decide +kernel
theorem dX9_back_10 : decode cX9_back 10 = .ok (.aload_n 0, 1) := by decide +kernel
theorem dX9_back_11 : decode cX9_back 11 = .ok (.getfield 19, 3) := by decide +kernel
theorem dX9_back_14 : decode cX9_back 14 = .ok (.getfield 245, 3) := by decide +kernel
theorem dX9_back_17 : decode cX9_back 17 = .ok (.goto 5, 3) := by decide +kernel
theorem dX9_back_20 : decode cX9_back 20 = .ok (.bipush (-2), 2) := by decide +kernel
theorem dX9_back_22 : decode cX9_back 22 = .ok (.ireturn, 1) := by decide +kernel
theorem dX9_count_0 : decode cX9_count 0 = .ok (.iload_n 1, 1) := by decide +kernel
theorem dX9_count_1 : decode cX9_count 1 = .ok (.tableswitch 123 0 8 #[51, 59, 67, 75, 83, 91, 99, 107, 115], 51) := by decide +kernel
theorem dX9_count_52 : decode cX9_count 52 = .ok (.aload_n 0, 1) := by decide +kernel
theorem dX9_count_53 : decode cX9_count 53 = .ok (.getfield 68, 3) := by decide +kernel
theorem dX9_count_56 : decode cX9_count 56 = .ok (.getfield 105, 3) := by decide +kernel
theorem dX9_count_59 : decode cX9_count 59 = .ok (.ireturn, 1) := by decide +kernel
theorem dX9_count_60 : decode cX9_count 60 = .ok (.aload_n 0, 1) := by decide +kernel
theorem dX9_count_61 : decode cX9_count 61 = .ok (.getfield 68, 3) := by decide +kernel
theorem dX9_count_64 : decode cX9_count 64 = .ok (.getfield 251, 3) := by decide +kernel
theorem dX9_count_67 : decode cX9_count 67 = .ok (.ireturn, 1) := by decide +kernel
theorem dX9_count_68 : decode cX9_count 68 = .ok (.aload_n 0, 1) := by decide +kernel
theorem dX9_count_69 : decode cX9_count 69 = .ok (.getfield 19, 3) := by decide +kernel
theorem dX9_count_72 : decode cX9_count 72 = .ok (.invokevirtual 153, 3) := by decide +kernel
theorem dX9_count_75 : decode cX9_count 75 = .ok (.ireturn, 1) := by decide +kernel
theorem dX9_count_76 : decode cX9_count 76 = .ok (.aload_n 0, 1) := by decide +kernel
theorem dX9_count_77 : decode cX9_count 77 = .ok (.getfield 26, 3) := by decide +kernel
theorem dX9_count_80 : decode cX9_count 80 = .ok (.getfield 109, 3) := by decide +kernel
theorem dX9_count_83 : decode cX9_count 83 = .ok (.ireturn, 1) := by decide +kernel
theorem dX9_count_84 : decode cX9_count 84 = .ok (.aload_n 0, 1) := by decide +kernel
theorem dX9_count_85 : decode cX9_count 85 = .ok (.getfield 19, 3) := by decide +kernel
theorem dX9_count_88 : decode cX9_count 88 = .ok (.getfield 160, 3) := by decide +kernel
theorem dX9_count_91 : decode cX9_count 91 = .ok (.ireturn, 1) := by decide +kernel
theorem dX9_count_92 : decode cX9_count 92 = .ok (.aload_n 0, 1) := by decide +kernel
theorem dX9_count_93 : decode cX9_count 93 = .ok (.getfield 19, 3) := by decide +kernel
theorem dX9_count_96 : decode cX9_count 96 = .ok (.getfield 245, 3) := by decide +kernel
theorem dX9_count_99 : decode cX9_count 99 = .ok (.ireturn, 1) := by decide +kernel
theorem dX9_count_100 : decode cX9_count 100 = .ok (.aload_n 0, 1) := by decide +kernel
theorem dX9_count_101 : decode cX9_count 101 = .ok (.getfield 12, 3) := by decide +kernel
theorem dX9_count_104 : decode cX9_count 104 = .ok (.getfield 102, 3) := by decide +kernel
theorem dX9_count_107 : decode cX9_count 107 = .ok (.ireturn, 1) := by decide +kernel
theorem dX9_count_108 : decode cX9_count 108 = .ok (.aload_n 0, 1) := by decide +kernel
theorem dX9_count_109 : decode cX9_count 109 = .ok (.getfield 68, 3) := by decide +kernel
theorem dX9_count_112 : decode cX9_count 112 = .ok (.getfield 183, 3) := by decide +kernel
theorem dX9_count_115 : decode cX9_count 115 = .ok (.ireturn, 1) := by decide +kernel
theorem dX9_count_116 : decode cX9_count 116 = .ok (.aload_n 0, 1) := by decide +kernel
theorem dX9_count_117 : decode cX9_count 117 = .ok (.getfield 68, 3) := by decide +kernel
theorem dX9_count_120 : decode cX9_count 120 = .ok (.invokevirtual 186, 3) := by decide +kernel
theorem dX9_count_123 : decode cX9_count 123 = .ok (.ireturn, 1) := by decide +kernel
theorem dX9_count_124 : decode cX9_count 124 = .ok (.iconst (-1), 1) := by decide +kernel
theorem dX9_count_125 : decode cX9_count 125 = .ok (.ireturn, 1) := by decide +kernel
theorem dX9_unlike_0 : decode cX9_unlike 0 = .ok (.iload_n 0, 1) := by decide +kernel
theorem dX9_unlike_1 : decode cX9_unlike 1 = .ok (.iload_n 1, 1) := by decide +kernel
theorem dX9_unlike_2 : decode cX9_unlike 2 = .ok (.ixor, 1) := by decide +kernel
theorem dX9_unlike_3 : decode cX9_unlike 3 = .ok (.istore_n 2, 1) := by decide +kernel
theorem dX9_unlike_4 : decode cX9_unlike 4 = .ok (.iload_n 2, 1) := by decide +kernel
theorem dX9_unlike_5 : decode cX9_unlike 5 = .ok (.iload_n 2, 1) := by decide +kernel
theorem dX9_unlike_6 : decode cX9_unlike 6 = .ok (.iconst 5, 1) := by decide +kernel
theorem dX9_unlike_7 : decode cX9_unlike 7 = .ok (.iushr, 1) := by decide +kernel
theorem dX9_unlike_8 : decode cX9_unlike 8 = .ok (.ior, 1) := by decide +kernel
theorem dX9_unlike_9 : decode cX9_unlike 9 = .ok (.bipush 31, 2) := by decide +kernel
theorem dX9_unlike_11 : decode cX9_unlike 11 = .ok (.iand, 1) := by decide +kernel
theorem dX9_unlike_12 : decode cX9_unlike 12 = .ok (.ireturn, 1) := by decide +kernel
theorem dX9_valueOf_0 : decode cX9_valueOf 0 = .ok (.iload_n 0, 1) := by decide +kernel
theorem dX9_valueOf_1 : decode cX9_valueOf 1 = .ok (.iload_n 1, 1) := by decide +kernel
theorem dX9_valueOf_2 : decode cX9_valueOf 2 = .ok (.iushr, 1) := by decide +kernel
theorem dX9_valueOf_3 : decode cX9_valueOf 3 = .ok (.iconst 1, 1) := by decide +kernel
theorem dX9_valueOf_4 : decode cX9_valueOf 4 = .ok (.iand, 1) := by decide +kernel
theorem dX9_valueOf_5 : decode cX9_valueOf 5 = .ok (.iload_n 0, 1) := by decide +kernel
theorem dX9_valueOf_6 : decode cX9_valueOf 6 = .ok (.iload_n 1, 1) := by decide +kernel
theorem dX9_valueOf_7 : decode cX9_valueOf 7 = .ok (.iconst 5, 1) := by decide +kernel
theorem dX9_valueOf_8 : decode cX9_valueOf 8 = .ok (.iadd, 1) := by decide +kernel
theorem dX9_valueOf_9 : decode cX9_valueOf 9 = .ok (.iushr, 1) := by decide +kernel
theorem dX9_valueOf_10 : decode cX9_valueOf 10 = .ok (.iconst 1, 1) := by decide +kernel
theorem dX9_valueOf_11 : decode cX9_valueOf 11 = .ok (.iand, 1) := by decide +kernel
theorem dX9_valueOf_12 : decode cX9_valueOf 12 = .ok (.iconst 1, 1) := by decide +kernel
theorem dX9_valueOf_13 : decode cX9_valueOf 13 = .ok (.ishl, 1) := by decide +kernel
theorem dX9_valueOf_14 : decode cX9_valueOf 14 = .ok (.ior, 1) := by decide +kernel
theorem dX9_valueOf_15 : decode cX9_valueOf 15 = .ok (.ireturn, 1) := by decide +kernel
theorem dX9_lookWith_0 : decode cX9_lookWith 0 = .ok (.iload_n 1, 1) := by decide +kernel
theorem dX9_lookWith_1 : decode cX9_lookWith 1 = .ok (.iconst 1, 1) := by decide +kernel
theorem dX9_lookWith_2 : decode cX9_lookWith 2 = .ok (.iand, 1) := by decide +kernel
theorem dX9_lookWith_3 : decode cX9_lookWith 3 = .ok (.iload_n 0, 1) := by decide +kernel
theorem dX9_lookWith_4 : decode cX9_lookWith 4 = .ok (.ishl, 1) := by decide +kernel
theorem dX9_lookWith_5 : decode cX9_lookWith 5 = .ok (.iload_n 1, 1) := by decide +kernel
theorem dX9_lookWith_6 : decode cX9_lookWith 6 = .ok (.iconst 1, 1) := by decide +kernel
theorem dX9_lookWith_7 : decode cX9_lookWith 7 = .ok (.iushr, 1) := by decide +kernel
theorem dX9_lookWith_8 : decode cX9_lookWith 8 = .ok (.iconst 1, 1) := by decide +kernel
theorem dX9_lookWith_9 : decode cX9_lookWith 9 = .ok (.iand, 1) := by decide +kernel
theorem dX9_lookWith_10 : decode cX9_lookWith 10 = .ok (.iload_n 0, 1) := by decide +kernel
theorem dX9_lookWith_11 : decode cX9_lookWith 11 = .ok (.iconst 5, 1) := by decide +kernel
theorem dX9_lookWith_12 : decode cX9_lookWith 12 = .ok (.iadd, 1) := by decide +kernel
theorem dX9_lookWith_13 : decode cX9_lookWith 13 = .ok (.ishl, 1) := by decide +kernel
theorem dX9_lookWith_14 : decode cX9_lookWith 14 = .ok (.ior, 1) := by decide +kernel
theorem dX9_lookWith_15 : decode cX9_lookWith 15 = .ok (.ireturn, 1) := by decide +kernel
theorem dX9_barredBy_0 : decode cX9_barredBy 0 = .ok (.iload_n 0, 1) := by decide +kernel
theorem dX9_barredBy_1 : decode cX9_barredBy 1 = .ok (.ifCond .ne 7, 3) := by decide +kernel
theorem dX9_barredBy_4 : decode cX9_barredBy 4 = .ok (.iconst 0, 1) := by decide +kernel
theorem dX9_barredBy_5 : decode cX9_barredBy 5 = .ok (.goto 8, 3) := by decide +kernel
theorem dX9_barredBy_8 : decode cX9_barredBy 8 = .ok (.iconst 1, 1) := by decide +kernel
theorem dX9_barredBy_9 : decode cX9_barredBy 9 = .ok (.iload_n 0, 1) := by decide +kernel
theorem dX9_barredBy_10 : decode cX9_barredBy 10 = .ok (.iconst 1, 1) := by decide +kernel
theorem dX9_barredBy_11 : decode cX9_barredBy 11 = .ok (.isub, 1) := by decide +kernel
theorem dX9_barredBy_12 : decode cX9_barredBy 12 = .ok (.ishl, 1) := by decide +kernel
theorem dX9_barredBy_13 : decode cX9_barredBy 13 = .ok (.ireturn, 1) := by decide +kernel
theorem dX10_init_0 : decode cX10_init 0 = .ok (.aload_n 0, 1) := by decide +kernel
theorem dX10_init_1 : decode cX10_init 1 = .ok (.invokespecial 1, 3) := by decide +kernel
theorem dX10_init_4 : decode cX10_init 4 = .ok (.aload_n 0, 1) := by decide +kernel
theorem dX10_init_5 : decode cX10_init 5 = .ok (.sipush 300, 3) := by decide +kernel
theorem dX10_init_8 : decode cX10_init 8 = .ok (.newarray .byte, 2) := by decide +kernel
theorem dX10_init_10 : decode cX10_init 10 = .ok (.putfield 7, 3) := by decide +kernel
theorem dX10_init_13 : decode cX10_init 13 = .ok (.aload_n 0, 1) := by decide +kernel
theorem dX10_init_14 : decode cX10_init 14 = .ok (.iconst 4, 1) := by decide +kernel
theorem dX10_init_15 : decode cX10_init 15 = .ok (.newarray .int, 2) := by decide +kernel
theorem dX10_init_17 : decode cX10_init 17 = .ok (.putfield 13, 3) := by decide +kernel
theorem dX10_init_20 : decode cX10_init 20 = .ok (.aload_n 0, 1) := by decide +kernel
theorem dX10_init_21 : decode cX10_init 21 = .ok (.iconst 2, 1) := by decide +kernel
theorem dX10_init_22 : decode cX10_init 22 = .ok (.newarray .int, 2) := by decide +kernel
theorem dX10_init_24 : decode cX10_init 24 = .ok (.putfield 17, 3) := by decide +kernel
theorem dX10_init_27 : decode cX10_init 27 = .ok (.aload_n 0, 1) := by decide +kernel
theorem dX10_init_28 : decode cX10_init 28 = .ok (.bipush 10, 2) := by decide +kernel
theorem dX10_init_30 : decode cX10_init 30 = .ok (.newarray .int, 2) := by decide +kernel
theorem dX10_init_32 : decode cX10_init 32 = .ok (.putfield 20, 3) := by decide +kernel
theorem dX10_init_35 : decode cX10_init 35 = .ok (.aload_n 0, 1) := by decide +kernel
theorem dX10_init_36 : decode cX10_init 36 = .ok (.bipush 10, 2) := by decide +kernel
theorem dX10_init_38 : decode cX10_init 38 = .ok (.newarray .int, 2) := by decide +kernel
theorem dX10_init_40 : decode cX10_init 40 = .ok (.putfield 23, 3) := by decide +kernel
theorem dX10_init_43 : decode cX10_init 43 = .ok (.aload_n 0, 1) := by decide +kernel
theorem dX10_init_44 : decode cX10_init 44 = .ok (.iconst 2, 1) := by decide +kernel
theorem dX10_init_45 : decode cX10_init 45 = .ok (.newarray .int, 2) := by decide +kernel
theorem dX10_init_47 : decode cX10_init 47 = .ok (.putfield 26, 3) := by decide +kernel
theorem dX10_init_50 : decode cX10_init 50 = .ok (.aload_n 0, 1) := by decide +kernel
theorem dX10_init_51 : decode cX10_init 51 = .ok (.bipush 90, 2) := by decide +kernel
theorem dX10_init_53 : decode cX10_init 53 = .ok (.newarray .int, 2) := by decide +kernel
theorem dX10_init_55 : decode cX10_init 55 = .ok (.putfield 29, 3) := by decide +kernel
theorem dX10_init_58 : decode cX10_init 58 = .ok (.aload_n 0, 1) := by decide +kernel
theorem dX10_init_59 : decode cX10_init 59 = .ok (.bipush 9, 2) := by decide +kernel
theorem dX10_init_61 : decode cX10_init 61 = .ok (.newarray .int, 2) := by decide +kernel
theorem dX10_init_63 : decode cX10_init 63 = .ok (.putfield 32, 3) := by decide +kernel
theorem dX10_init_66 : decode cX10_init 66 = .ok (.aload_n 0, 1) := by decide +kernel
theorem dX10_init_67 : decode cX10_init 67 = .ok (.bipush 24, 2) := by decide +kernel
theorem dX10_init_69 : decode cX10_init 69 = .ok (.newarray .int, 2) := by decide +kernel
theorem dX10_init_71 : decode cX10_init 71 = .ok (.putfield 35, 3) := by decide +kernel
theorem dX10_init_74 : decode cX10_init 74 = .ok (.aload_n 0, 1) := by decide +kernel
theorem dX10_init_75 : decode cX10_init 75 = .ok (.bipush 16, 2) := by decide +kernel
theorem dX10_init_77 : decode cX10_init 77 = .ok (.newarray .int, 2) := by decide +kernel
theorem dX10_init_79 : decode cX10_init 79 = .ok (.putfield 38, 3) := by decide +kernel
theorem dX10_init_82 : decode cX10_init 82 = .ok (.aload_n 0, 1) := by decide +kernel
theorem dX10_init_83 : decode cX10_init 83 = .ok (.bipush 10, 2) := by decide +kernel
theorem dX10_init_85 : decode cX10_init 85 = .ok (.newarray .int, 2) := by decide +kernel
theorem dX10_init_87 : decode cX10_init 87 = .ok (.putfield 41, 3) := by decide +kernel
theorem dX10_init_90 : decode cX10_init 90 = .ok (.aload_n 0, 1) := by decide +kernel
theorem dX10_init_91 : decode cX10_init 91 = .ok (.bipush 11, 2) := by decide +kernel
theorem dX10_init_93 : decode cX10_init 93 = .ok (.newarray .int, 2) := by decide +kernel
theorem dX10_init_95 : decode cX10_init 95 = .ok (.putfield 44, 3) := by decide +kernel
theorem dX10_init_98 : decode cX10_init 98 = .ok (.aload_n 0, 1) := by decide +kernel
theorem dX10_init_99 : decode cX10_init 99 = .ok (.bipush 9, 2) := by decide +kernel
theorem dX10_init_101 : decode cX10_init 101 = .ok (.newarray .int, 2) := by decide +kernel
theorem dX10_init_103 : decode cX10_init 103 = .ok (.putfield 47, 3) := by decide +kernel
theorem dX10_init_106 : decode cX10_init 106 = .ok (.aload_n 0, 1) := by decide +kernel
theorem dX10_init_107 : decode cX10_init 107 = .ok (.sipush 324, 3) := by decide +kernel
theorem dX10_init_110 : decode cX10_init 110 = .ok (.newarray .long, 2) := by decide +kernel
theorem dX10_init_112 : decode cX10_init 112 = .ok (.putfield 50, 3) := by decide +kernel
theorem dX10_init_115 : decode cX10_init 115 = .ok (.aload_n 0, 1) := by decide +kernel
theorem dX10_init_116 : decode cX10_init 116 = .ok (.sipush 5120, 3) := by decide +kernel
theorem dX10_init_119 : decode cX10_init 119 = .ok (.newarray .int, 2) := by decide +kernel
theorem dX10_init_121 : decode cX10_init 121 = .ok (.putfield 54, 3) := by decide +kernel
theorem dX10_init_124 : decode cX10_init 124 = .ok (.aload_n 0, 1) := by decide +kernel
theorem dX10_init_125 : decode cX10_init 125 = .ok (.sipush 5120, 3) := by decide +kernel
theorem dX10_init_128 : decode cX10_init 128 = .ok (.newarray .int, 2) := by decide +kernel
theorem dX10_init_130 : decode cX10_init 130 = .ok (.putfield 57, 3) := by decide +kernel
theorem dX10_init_133 : decode cX10_init 133 = .ok (.aload_n 0, 1) := by decide +kernel
theorem dX10_init_134 : decode cX10_init 134 = .ok (.sipush 272, 3) := by decide +kernel
theorem dX10_init_137 : decode cX10_init 137 = .ok (.newarray .int, 2) := by decide +kernel
theorem dX10_init_139 : decode cX10_init 139 = .ok (.putfield 60, 3) := by decide +kernel
theorem dX10_init_142 : decode cX10_init 142 = .ok (.aload_n 0, 1) := by decide +kernel
theorem dX10_init_143 : decode cX10_init 143 = .ok (.sipush 272, 3) := by decide +kernel
theorem dX10_init_146 : decode cX10_init 146 = .ok (.newarray .int, 2) := by decide +kernel
theorem dX10_init_148 : decode cX10_init 148 = .ok (.putfield 63, 3) := by decide +kernel
theorem dX10_init_151 : decode cX10_init 151 = .ok (.aload_n 0, 1) := by decide +kernel
theorem dX10_init_152 : decode cX10_init 152 = .ok (.invokevirtual 66, 3) := by decide +kernel
theorem dX10_init_155 : decode cX10_init 155 = .ok (.aload_n 0, 1) := by decide +kernel
theorem dX10_init_156 : decode cX10_init 156 = .ok (.getfield 17, 3) := by decide +kernel
theorem dX10_init_159 : decode cX10_init 159 = .ok (.iconst 1, 1) := by decide +kernel
theorem dX10_init_160 : decode cX10_init 160 = .ok (.iconst 2, 1) := by decide +kernel
theorem dX10_init_161 : decode cX10_init 161 = .ok (.iastore, 1) := by decide +kernel
theorem dX10_init_162 : decode cX10_init 162 = .ok (.aload_n 0, 1) := by decide +kernel
theorem dX10_init_163 : decode cX10_init 163 = .ok (.getfield 20, 3) := by decide +kernel
theorem dX10_init_166 : decode cX10_init 166 = .ok (.iconst 5, 1) := by decide +kernel
theorem dX10_init_167 : decode cX10_init 167 = .ok (.iconst 2, 1) := by decide +kernel
theorem dX10_init_168 : decode cX10_init 168 = .ok (.iastore, 1) := by decide +kernel
theorem dX10_init_169 : decode cX10_init 169 = .ok (.aload_n 0, 1) := by decide +kernel
theorem dX10_init_170 : decode cX10_init 170 = .ok (.getfield 20, 3) := by decide +kernel
theorem dX10_init_173 : decode cX10_init 173 = .ok (.bipush 6, 2) := by decide +kernel
theorem dX10_init_175 : decode cX10_init 175 = .ok (.iconst 2, 1) := by decide +kernel
theorem dX10_init_176 : decode cX10_init 176 = .ok (.iastore, 1) := by decide +kernel
theorem dX10_init_177 : decode cX10_init 177 = .ok (.aload_n 0, 1) := by decide +kernel
theorem dX10_init_178 : decode cX10_init 178 = .ok (.getfield 23, 3) := by decide +kernel
theorem dX10_init_181 : decode cX10_init 181 = .ok (.iconst 5, 1) := by decide +kernel
theorem dX10_init_182 : decode cX10_init 182 = .ok (.iconst 0, 1) := by decide +kernel
theorem dX10_init_183 : decode cX10_init 183 = .ok (.iastore, 1) := by decide +kernel
theorem dX10_init_184 : decode cX10_init 184 = .ok (.aload_n 0, 1) := by decide +kernel
theorem dX10_init_185 : decode cX10_init 185 = .ok (.getfield 23, 3) := by decide +kernel
theorem dX10_init_188 : decode cX10_init 188 = .ok (.bipush 6, 2) := by decide +kernel
theorem dX10_init_190 : decode cX10_init 190 = .ok (.iconst 1, 1) := by decide +kernel
theorem dX10_init_191 : decode cX10_init 191 = .ok (.iastore, 1) := by decide +kernel
theorem dX10_init_192 : decode cX10_init 192 = .ok (.aload_n 0, 1) := by decide +kernel
theorem dX10_init_193 : decode cX10_init 193 = .ok (.getfield 26, 3) := by decide +kernel
theorem dX10_init_196 : decode cX10_init 196 = .ok (.iconst 1, 1) := by decide +kernel
theorem dX10_init_197 : decode cX10_init 197 = .ok (.iconst 3, 1) := by decide +kernel
theorem dX10_init_198 : decode cX10_init 198 = .ok (.iastore, 1) := by decide +kernel
theorem dX10_init_199 : decode cX10_init 199 = .ok (.aload_n 0, 1) := by decide +kernel
theorem dX10_init_200 : decode cX10_init 200 = .ok (.getfield 29, 3) := by decide +kernel
theorem dX10_init_203 : decode cX10_init 203 = .ok (.bipush 51, 2) := by decide +kernel
theorem dX10_init_205 : decode cX10_init 205 = .ok (.iconst 1, 1) := by decide +kernel
theorem dX10_init_206 : decode cX10_init 206 = .ok (.iastore, 1) := by decide +kernel
theorem dX10_init_207 : decode cX10_init 207 = .ok (.aload_n 0, 1) := by decide +kernel
theorem dX10_init_208 : decode cX10_init 208 = .ok (.getfield 29, 3) := by decide +kernel
theorem dX10_init_211 : decode cX10_init 211 = .ok (.bipush 55, 2) := by decide +kernel
theorem dX10_init_213 : decode cX10_init 213 = .ok (.iconst 1, 1) := by decide +kernel
theorem dX10_init_214 : decode cX10_init 214 = .ok (.iastore, 1) := by decide +kernel
theorem dX10_init_215 : decode cX10_init 215 = .ok (.aload_n 0, 1) := by decide +kernel
theorem dX10_init_216 : decode cX10_init 216 = .ok (.getfield 29, 3) := by decide +kernel
theorem dX10_init_219 : decode cX10_init 219 = .ok (.bipush 56, 2) := by decide +kernel
theorem dX10_init_221 : decode cX10_init 221 = .ok (.iconst 1, 1) := by decide +kernel
theorem dX10_init_222 : decode cX10_init 222 = .ok (.iastore, 1) := by decide +kernel
theorem dX10_init_223 : decode cX10_init 223 = .ok (.aload_n 0, 1) := by decide +kernel
theorem dX10_init_224 : decode cX10_init 224 = .ok (.invokevirtual 69, 3) := by decide +kernel
theorem dX10_init_227 : decode cX10_init 227 = .ok (.return_, 1) := by decide +kernel
theorem dX10_in_0 : decode cX10_in 0 = .ok (.lload_n 0, 1) := by decide +kernel
theorem dX10_in_1 : decode cX10_in 1 = .ok (.lload_n 2, 1) := by decide +kernel
theorem dX10_in_2 : decode cX10_in 2 = .ok (.lcmp, 1) := by decide +kernel
theorem dX10_in_3 : decode cX10_in 3 = .ok (.ifCond .lt 14, 3) := by decide +kernel
theorem dX10_in_6 : decode cX10_in 6 = .ok (.lload_n 0, 1) := by decide +kernel
theorem dX10_in_7 : decode cX10_in 7 = .ok (.lload 4, 2) := by decide +kernel
theorem dX10_in_9 : decode cX10_in 9 = .ok (.lcmp, 1) := by decide +kernel
theorem dX10_in_10 : decode cX10_in 10 = .ok (.ifCond .gt 7, 3) := by decide +kernel
theorem dX10_in_13 : decode cX10_in 13 = .ok (.iconst 1, 1) := by decide +kernel
theorem dX10_in_14 : decode cX10_in 14 = .ok (.goto 4, 3) := by decide +kernel
theorem dX10_in_17 : decode cX10_in 17 = .ok (.iconst 0, 1) := by decide +kernel
theorem dX10_in_18 : decode cX10_in 18 = .ok (.ireturn, 1) := by decide +kernel
theorem dX10_write_0 : decode cX10_write 0 = .ok (.iload_n 1, 1) := by decide +kernel
theorem dX10_write_1 : decode cX10_write 1 = .ok (.i2l, 1) := by decide +kernel
theorem dX10_write_2 : decode cX10_write 2 = .ok (.lconst 1, 1) := by decide +kernel
theorem dX10_write_3 : decode cX10_write 3 = .ok (.ldc2_w 72, 3) := by decide +kernel
theorem dX10_write_6 : decode cX10_write 6 = .ok (.invokestatic 74, 3) := by decide +kernel
theorem dX10_write_9 : decode cX10_write 9 = .ok (.ifCond .ne 5, 3) := by decide +kernel
theorem dX10_write_12 : decode cX10_write 12 = .ok (.iconst (-1), 1) := by decide +kernel
theorem dX10_write_13 : decode cX10_write 13 = .ok (.ireturn, 1) := by decide +kernel
theorem dX10_write_14 : decode cX10_write 14 = .ok (.aload_n 0, 1) := by decide +kernel
theorem dX10_write_15 : decode cX10_write 15 = .ok (.getfield 78, 3) := by decide +kernel
theorem dX10_write_18 : decode cX10_write 18 = .ok (.iload_n 1, 1) := by decide +kernel
theorem dX10_write_19 : decode cX10_write 19 = .ok (.iadd, 1) := by decide +kernel
theorem dX10_write_20 : decode cX10_write 20 = .ok (.sipush 300, 3) := by decide +kernel
theorem dX10_write_23 : decode cX10_write 23 = .ok (.if_icmp .le 6, 3) := by decide +kernel
theorem dX10_write_26 : decode cX10_write 26 = .ok (.bipush (-3), 2) := by decide +kernel
theorem dX10_write_28 : decode cX10_write 28 = .ok (.ireturn, 1) := by decide +kernel
theorem dX10_write_29 : decode cX10_write 29 = .ok (.iload_n 1, 1) := by decide +kernel
theorem dX10_write_30 : decode cX10_write 30 = .ok (.iconst 1, 1) := by decide +kernel
theorem dX10_write_31 : decode cX10_write 31 = .ok (.isub, 1) := by decide +kernel
theorem dX10_write_32 : decode cX10_write 32 = .ok (.istore 4, 2) := by decide +kernel
theorem dX10_write_34 : decode cX10_write 34 = .ok (.iload 4, 2) := by decide +kernel
theorem dX10_write_36 : decode cX10_write 36 = .ok (.ifCond .lt 37, 3) := by decide +kernel
theorem dX10_write_39 : decode cX10_write 39 = .ok (.aload_n 0, 1) := by decide +kernel
theorem dX10_write_40 : decode cX10_write 40 = .ok (.getfield 7, 3) := by decide +kernel
theorem dX10_write_43 : decode cX10_write 43 = .ok (.aload_n 0, 1) := by decide +kernel
theorem dX10_write_44 : decode cX10_write 44 = .ok (.getfield 78, 3) := by decide +kernel
theorem dX10_write_47 : decode cX10_write 47 = .ok (.lload_n 2, 1) := by decide +kernel
theorem dX10_write_48 : decode cX10_write 48 = .ok (.bipush 8, 2) := by decide +kernel
theorem dX10_write_50 : decode cX10_write 50 = .ok (.iload 4, 2) := by decide +kernel
theorem dX10_write_52 : decode cX10_write 52 = .ok (.imul, 1) := by decide +kernel
theorem dX10_write_53 : decode cX10_write 53 = .ok (.lshr, 1) := by decide +kernel
theorem dX10_write_54 : decode cX10_write 54 = .ok (.l2i, 1) := by decide +kernel
theorem dX10_write_55 : decode cX10_write 55 = .ok (.i2b, 1) := by decide +kernel
theorem dX10_write_56 : decode cX10_write 56 = .ok (.bastore, 1) := by decide +kernel
theorem dX10_write_57 : decode cX10_write 57 = .ok (.aload_n 0, 1) := by decide +kernel
theorem dX10_write_58 : decode cX10_write 58 = .ok (.dup, 1) := by decide +kernel
theorem dX10_write_59 : decode cX10_write 59 = .ok (.getfield 78, 3) := by decide +kernel
theorem dX10_write_62 : decode cX10_write 62 = .ok (.iconst 1, 1) := by decide +kernel
theorem dX10_write_63 : decode cX10_write 63 = .ok (.iadd, 1) := by decide +kernel
theorem dX10_write_64 : decode cX10_write 64 = .ok (.putfield 78, 3) := by decide +kernel
theorem dX10_write_67 : decode cX10_write 67 = .ok (.iinc 4 (-1), 3) := by decide +kernel
theorem dX10_write_70 : decode cX10_write 70 = .ok (.goto (-36), 3) := by decide +kernel
theorem dX10_write_73 : decode cX10_write 73 = .ok (.aload_n 0, 1) := by decide +kernel
theorem dX10_write_74 : decode cX10_write 74 = .ok (.getfield 78, 3) := by decide +kernel
theorem dX10_write_77 : decode cX10_write 77 = .ok (.ireturn, 1) := by decide +kernel
theorem dX10_wipe_0 : decode cX10_wipe 0 = .ok (.aload_n 0, 1) := by decide +kernel
theorem dX10_wipe_1 : decode cX10_wipe 1 = .ok (.getfield 78, 3) := by decide +kernel
theorem dX10_wipe_4 : decode cX10_wipe 4 = .ok (.istore_n 1, 1) := by decide +kernel
theorem dX10_wipe_5 : decode cX10_wipe 5 = .ok (.aload_n 0, 1) := by decide +kernel
theorem dX10_wipe_6 : decode cX10_wipe 6 = .ok (.iconst 0, 1) := by decide +kernel
theorem dX10_wipe_7 : decode cX10_wipe 7 = .ok (.putfield 78, 3) := by decide +kernel
theorem dX10_wipe_10 : decode cX10_wipe 10 = .ok (.iload_n 1, 1) := by decide +kernel
theorem dX10_wipe_11 : decode cX10_wipe 11 = .ok (.ireturn, 1) := by decide +kernel
theorem dX10_number_0 : decode cX10_number 0 = .ok (.iconst 0, 1) := by decide +kernel
theorem dX10_number_1 : decode cX10_number 1 = .ok (.istore_n 1, 1) := by decide +kernel
theorem dX10_number_2 : decode cX10_number 2 = .ok (.iconst 0, 1) := by decide +kernel
theorem dX10_number_3 : decode cX10_number 3 = .ok (.istore_n 2, 1) := by decide +kernel
theorem dX10_number_4 : decode cX10_number 4 = .ok (.aload_n 0, 1) := by decide +kernel
theorem dX10_number_5 : decode cX10_number 5 = .ok (.getfield 82, 3) := by decide +kernel
theorem dX10_number_8 : decode cX10_number 8 = .ok (.aload_n 0, 1) := by decide +kernel
theorem dX10_number_9 : decode cX10_number 9 = .ok (.getfield 78, 3) := by decide +kernel
theorem dX10_number_12 : decode cX10_number 12 = .ok (.if_icmp .ge 68, 3) := by decide +kernel
theorem dX10_number_15 : decode cX10_number 15 = .ok (.aload_n 0, 1) := by decide +kernel
theorem dX10_number_16 : decode cX10_number 16 = .ok (.getfield 7, 3) := by decide +kernel
theorem dX10_number_19 : decode cX10_number 19 = .ok (.aload_n 0, 1) := by decide +kernel
theorem dX10_number_20 : decode cX10_number 20 = .ok (.getfield 82, 3) := by decide +kernel
theorem dX10_number_23 : decode cX10_number 23 = .ok (.baload, 1) := by decide +kernel
theorem dX10_number_24 : decode cX10_number 24 = .ok (.i2l, 1) := by decide +kernel
theorem dX10_number_25 : decode cX10_number 25 = .ok (.ldc2_w 85, 3) := by decide +kernel
theorem dX10_number_28 : decode cX10_number 28 = .ok (.ldc2_w 87, 3) := by decide +kernel
theorem dX10_number_31 : decode cX10_number 31 = .ok (.invokestatic 74, 3) := by decide +kernel
theorem dX10_number_34 : decode cX10_number 34 = .ok (.ifCond .eq 46, 3) := by decide +kernel
theorem dX10_number_37 : decode cX10_number 37 = .ok (.iload_n 2, 1) := by decide +kernel
theorem dX10_number_38 : decode cX10_number 38 = .ok (.iconst 2, 1) := by decide +kernel
theorem dX10_number_39 : decode cX10_number 39 = .ok (.if_icmp .ge 23, 3) := by decide +kernel
theorem dX10_number_42 : decode cX10_number 42 = .ok (.bipush 10, 2) := by decide +kernel
theorem dX10_number_44 : decode cX10_number 44 = .ok (.iload_n 1, 1) := by decide +kernel
theorem dX10_number_45 : decode cX10_number 45 = .ok (.imul, 1) := by decide +kernel
theorem dX10_number_46 : decode cX10_number 46 = .ok (.aload_n 0, 1) := by decide +kernel
theorem dX10_number_47 : decode cX10_number 47 = .ok (.getfield 7, 3) := by decide +kernel
theorem dX10_number_50 : decode cX10_number 50 = .ok (.aload_n 0, 1) := by decide +kernel
theorem dX10_number_51 : decode cX10_number 51 = .ok (.getfield 82, 3) := by decide +kernel
theorem dX10_number_54 : decode cX10_number 54 = .ok (.baload, 1) := by decide +kernel
theorem dX10_number_55 : decode cX10_number 55 = .ok (.iadd, 1) := by decide +kernel
theorem dX10_number_56 : decode cX10_number 56 = .ok (.bipush 48, 2) := by decide +kernel
theorem dX10_number_58 : decode cX10_number 58 = .ok (.isub, 1) := by decide +kernel
theorem dX10_number_59 : decode cX10_number 59 = .ok (.goto 4, 3) := by decide +kernel
theorem dX10_number_62 : decode cX10_number 62 = .ok (.iload_n 1, 1) := by decide +kernel
theorem dX10_number_63 : decode cX10_number 63 = .ok (.istore_n 1, 1) := by decide +kernel
theorem dX10_number_64 : decode cX10_number 64 = .ok (.iinc 2 1, 3) := by decide +kernel
theorem dX10_number_67 : decode cX10_number 67 = .ok (.aload_n 0, 1) := by decide +kernel
theorem dX10_number_68 : decode cX10_number 68 = .ok (.dup, 1) := by decide +kernel
theorem dX10_number_69 : decode cX10_number 69 = .ok (.getfield 82, 3) := by decide +kernel
theorem dX10_number_72 : decode cX10_number 72 = .ok (.iconst 1, 1) := by decide +kernel
theorem dX10_number_73 : decode cX10_number 73 = .ok (.iadd, 1) := by decide +kernel
theorem dX10_number_74 : decode cX10_number 74 = .ok (.putfield 82, 3) := by decide +kernel
theorem dX10_number_77 : decode cX10_number 77 = .ok (.goto (-73), 3) := by decide +kernel
theorem dX10_number_80 : decode cX10_number 80 = .ok (.iload_n 2, 1) := by decide +kernel
theorem dX10_number_81 : decode cX10_number 81 = .ok (.i2l, 1) := by decide +kernel
theorem dX10_number_82 : decode cX10_number 82 = .ok (.lconst 1, 1) := by decide +kernel
theorem dX10_number_83 : decode cX10_number 83 = .ok (.ldc2_w 89, 3) := by decide +kernel
theorem dX10_number_86 : decode cX10_number 86 = .ok (.invokestatic 74, 3) := by decide +kernel
theorem dX10_number_89 : decode cX10_number 89 = .ok (.ifCond .eq 7, 3) := by decide +kernel
theorem dX10_number_92 : decode cX10_number 92 = .ok (.iload_n 1, 1) := by decide +kernel
theorem dX10_number_93 : decode cX10_number 93 = .ok (.goto 4, 3) := by decide +kernel
theorem dX10_number_96 : decode cX10_number 96 = .ok (.iconst (-1), 1) := by decide +kernel
theorem dX10_number_97 : decode cX10_number 97 = .ok (.ireturn, 1) := by decide +kernel
theorem dX10_isPerson_0 : decode cX10_isPerson 0 = .ok (.aload_n 0, 1) := by decide +kernel
theorem dX10_isPerson_1 : decode cX10_isPerson 1 = .ok (.getfield 17, 3) := by decide +kernel
theorem dX10_isPerson_4 : decode cX10_isPerson 4 = .ok (.iconst 1, 1) := by decide +kernel
theorem dX10_isPerson_5 : decode cX10_isPerson 5 = .ok (.iaload, 1) := by decide +kernel
theorem dX10_isPerson_6 : decode cX10_isPerson 6 = .ok (.ifCond .le 18, 3) := by decide +kernel
theorem dX10_isPerson_9 : decode cX10_isPerson 9 = .ok (.aload_n 0, 1) := by decide +kernel
theorem dX10_isPerson_10 : decode cX10_isPerson 10 = .ok (.getfield 26, 3) := by decide +kernel
theorem dX10_isPerson_13 : decode cX10_isPerson 13 = .ok (.iconst 1, 1) := by decide +kernel
theorem dX10_isPerson_14 : decode cX10_isPerson 14 = .ok (.iaload, 1) := by decide +kernel
theorem dX10_isPerson_15 : decode cX10_isPerson 15 = .ok (.bipush 9, 2) := by decide +kernel
theorem dX10_isPerson_17 : decode cX10_isPerson 17 = .ok (.if_icmp .ge 7, 3) := by decide +kernel
theorem dX10_isPerson_20 : decode cX10_isPerson 20 = .ok (.iconst 1, 1) := by decide +kernel
theorem dX10_isPerson_21 : decode cX10_isPerson 21 = .ok (.goto 4, 3) := by decide +kernel
theorem dX10_isPerson_24 : decode cX10_isPerson 24 = .ok (.iconst 0, 1) := by decide +kernel
theorem dX10_isPerson_25 : decode cX10_isPerson 25 = .ok (.istore_n 1, 1) := by decide +kernel
theorem dX10_isPerson_26 : decode cX10_isPerson 26 = .ok (.iconst 0, 1) := by decide +kernel
theorem dX10_isPerson_27 : decode cX10_isPerson 27 = .ok (.istore_n 2, 1) := by decide +kernel
theorem dX10_isPerson_28 : decode cX10_isPerson 28 = .ok (.iload_n 1, 1) := by decide +kernel
theorem dX10_isPerson_29 : decode cX10_isPerson 29 = .ok (.ifCond .eq 125, 3) := by decide +kernel
theorem dX10_isPerson_32 : decode cX10_isPerson 32 = .ok (.aload_n 0, 1) := by decide +kernel
theorem dX10_isPerson_33 : decode cX10_isPerson 33 = .ok (.getfield 82, 3) := by decide +kernel
theorem dX10_isPerson_36 : decode cX10_isPerson 36 = .ok (.aload_n 0, 1) := by decide +kernel
theorem dX10_isPerson_37 : decode cX10_isPerson 37 = .ok (.getfield 78, 3) := by decide +kernel
theorem dX10_isPerson_40 : decode cX10_isPerson 40 = .ok (.if_icmp .ge 114, 3) := by decide +kernel
theorem dX10_isPerson_43 : decode cX10_isPerson 43 = .ok (.aload_n 0, 1) := by decide +kernel
theorem dX10_isPerson_44 : decode cX10_isPerson 44 = .ok (.getfield 7, 3) := by decide +kernel
theorem dX10_isPerson_47 : decode cX10_isPerson 47 = .ok (.aload_n 0, 1) := by decide +kernel
theorem dX10_isPerson_48 : decode cX10_isPerson 48 = .ok (.getfield 82, 3) := by decide +kernel
theorem dX10_isPerson_51 : decode cX10_isPerson 51 = .ok (.baload, 1) := by decide +kernel
theorem dX10_isPerson_52 : decode cX10_isPerson 52 = .ok (.i2l, 1) := by decide +kernel
theorem dX10_isPerson_53 : decode cX10_isPerson 53 = .ok (.ldc2_w 85, 3) := by decide +kernel
theorem dX10_isPerson_56 : decode cX10_isPerson 56 = .ok (.ldc2_w 87, 3) := by decide +kernel
theorem dX10_isPerson_59 : decode cX10_isPerson 59 = .ok (.invokestatic 74, 3) := by decide +kernel
theorem dX10_isPerson_62 : decode cX10_isPerson 62 = .ok (.ifCond .eq 92, 3) := by decide +kernel
theorem dX10_isPerson_65 : decode cX10_isPerson 65 = .ok (.iload_n 2, 1) := by decide +kernel
theorem dX10_isPerson_66 : decode cX10_isPerson 66 = .ok (.aload_n 0, 1) := by decide +kernel
theorem dX10_isPerson_67 : decode cX10_isPerson 67 = .ok (.getfield 17, 3) := by decide +kernel
theorem dX10_isPerson_70 : decode cX10_isPerson 70 = .ok (.iconst 1, 1) := by decide +kernel
theorem dX10_isPerson_71 : decode cX10_isPerson 71 = .ok (.iaload, 1) := by decide +kernel
theorem dX10_isPerson_72 : decode cX10_isPerson 72 = .ok (.if_icmp .ge 30, 3) := by decide +kernel
theorem dX10_isPerson_75 : decode cX10_isPerson 75 = .ok (.aload_n 0, 1) := by decide +kernel
theorem dX10_isPerson_76 : decode cX10_isPerson 76 = .ok (.getfield 7, 3) := by decide +kernel
theorem dX10_isPerson_79 : decode cX10_isPerson 79 = .ok (.aload_n 0, 1) := by decide +kernel
theorem dX10_isPerson_80 : decode cX10_isPerson 80 = .ok (.getfield 82, 3) := by decide +kernel
theorem dX10_isPerson_83 : decode cX10_isPerson 83 = .ok (.baload, 1) := by decide +kernel
theorem dX10_isPerson_84 : decode cX10_isPerson 84 = .ok (.bipush 48, 2) := by decide +kernel
theorem dX10_isPerson_86 : decode cX10_isPerson 86 = .ok (.isub, 1) := by decide +kernel
theorem dX10_isPerson_87 : decode cX10_isPerson 87 = .ok (.aload_n 0, 1) := by decide +kernel
theorem dX10_isPerson_88 : decode cX10_isPerson 88 = .ok (.getfield 20, 3) := by decide +kernel
theorem dX10_isPerson_91 : decode cX10_isPerson 91 = .ok (.iconst 5, 1) := by decide +kernel
theorem dX10_isPerson_92 : decode cX10_isPerson 92 = .ok (.iload_n 2, 1) := by decide +kernel
theorem dX10_isPerson_93 : decode cX10_isPerson 93 = .ok (.iadd, 1) := by decide +kernel
theorem dX10_isPerson_94 : decode cX10_isPerson 94 = .ok (.iaload, 1) := by decide +kernel
theorem dX10_isPerson_95 : decode cX10_isPerson 95 = .ok (.if_icmp .ge 7, 3) := by decide +kernel
theorem dX10_isPerson_98 : decode cX10_isPerson 98 = .ok (.iconst 1, 1) := by decide +kernel
theorem dX10_isPerson_99 : decode cX10_isPerson 99 = .ok (.goto 4, 3) := by decide +kernel
theorem dX10_isPerson_102 : decode cX10_isPerson 102 = .ok (.iconst 0, 1) := by decide +kernel
theorem dX10_isPerson_103 : decode cX10_isPerson 103 = .ok (.istore_n 1, 1) := by decide +kernel
theorem dX10_isPerson_104 : decode cX10_isPerson 104 = .ok (.iload_n 1, 1) := by decide +kernel
theorem dX10_isPerson_105 : decode cX10_isPerson 105 = .ok (.ifCond .eq 33, 3) := by decide +kernel
theorem dX10_isPerson_108 : decode cX10_isPerson 108 = .ok (.aload_n 0, 1) := by decide +kernel
theorem dX10_isPerson_109 : decode cX10_isPerson 109 = .ok (.getfield 29, 3) := by decide +kernel
theorem dX10_isPerson_112 : decode cX10_isPerson 112 = .ok (.bipush 45, 2) := by decide +kernel
theorem dX10_isPerson_114 : decode cX10_isPerson 114 = .ok (.iconst 5, 1) := by decide +kernel
theorem dX10_isPerson_115 : decode cX10_isPerson 115 = .ok (.aload_n 0, 1) := by decide +kernel
theorem dX10_isPerson_116 : decode cX10_isPerson 116 = .ok (.getfield 26, 3) := by decide +kernel
theorem dX10_isPerson_119 : decode cX10_isPerson 119 = .ok (.iconst 1, 1) := by decide +kernel
theorem dX10_isPerson_120 : decode cX10_isPerson 120 = .ok (.iaload, 1) := by decide +kernel
theorem dX10_isPerson_121 : decode cX10_isPerson 121 = .ok (.imul, 1) := by decide +kernel
theorem dX10_isPerson_122 : decode cX10_isPerson 122 = .ok (.iadd, 1) := by decide +kernel
theorem dX10_isPerson_123 : decode cX10_isPerson 123 = .ok (.iload_n 2, 1) := by decide +kernel
theorem dX10_isPerson_124 : decode cX10_isPerson 124 = .ok (.iadd, 1) := by decide +kernel
theorem dX10_isPerson_125 : decode cX10_isPerson 125 = .ok (.aload_n 0, 1) := by decide +kernel
theorem dX10_isPerson_126 : decode cX10_isPerson 126 = .ok (.getfield 7, 3) := by decide +kernel
theorem dX10_isPerson_129 : decode cX10_isPerson 129 = .ok (.aload_n 0, 1) := by decide +kernel
theorem dX10_isPerson_130 : decode cX10_isPerson 130 = .ok (.getfield 82, 3) := by decide +kernel
theorem dX10_isPerson_133 : decode cX10_isPerson 133 = .ok (.baload, 1) := by decide +kernel
theorem dX10_isPerson_134 : decode cX10_isPerson 134 = .ok (.bipush 48, 2) := by decide +kernel
theorem dX10_isPerson_136 : decode cX10_isPerson 136 = .ok (.isub, 1) := by decide +kernel
theorem dX10_isPerson_137 : decode cX10_isPerson 137 = .ok (.iastore, 1) := by decide +kernel
theorem dX10_isPerson_138 : decode cX10_isPerson 138 = .ok (.iinc 2 1, 3) := by decide +kernel
theorem dX10_isPerson_141 : decode cX10_isPerson 141 = .ok (.aload_n 0, 1) := by decide +kernel
theorem dX10_isPerson_142 : decode cX10_isPerson 142 = .ok (.dup, 1) := by decide +kernel
theorem dX10_isPerson_143 : decode cX10_isPerson 143 = .ok (.getfield 82, 3) := by decide +kernel
theorem dX10_isPerson_146 : decode cX10_isPerson 146 = .ok (.iconst 1, 1) := by decide +kernel
theorem dX10_isPerson_147 : decode cX10_isPerson 147 = .ok (.iadd, 1) := by decide +kernel
theorem dX10_isPerson_148 : decode cX10_isPerson 148 = .ok (.putfield 82, 3) := by decide +kernel
theorem dX10_isPerson_151 : decode cX10_isPerson 151 = .ok (.goto (-123), 3) := by decide +kernel
theorem dX10_isPerson_154 : decode cX10_isPerson 154 = .ok (.iload_n 1, 1) := by decide +kernel
theorem dX10_isPerson_155 : decode cX10_isPerson 155 = .ok (.ifCond .eq 17, 3) := by decide +kernel
theorem dX10_isPerson_158 : decode cX10_isPerson 158 = .ok (.iload_n 2, 1) := by decide +kernel
theorem dX10_isPerson_159 : decode cX10_isPerson 159 = .ok (.aload_n 0, 1) := by decide +kernel
theorem dX10_isPerson_160 : decode cX10_isPerson 160 = .ok (.getfield 17, 3) := by decide +kernel
theorem dX10_isPerson_163 : decode cX10_isPerson 163 = .ok (.iconst 1, 1) := by decide +kernel
theorem dX10_isPerson_164 : decode cX10_isPerson 164 = .ok (.iaload, 1) := by decide +kernel
theorem dX10_isPerson_165 : decode cX10_isPerson 165 = .ok (.if_icmp .ne 7, 3) := by decide +kernel
theorem dX10_isPerson_168 : decode cX10_isPerson 168 = .ok (.iconst 1, 1) := by decide +kernel
theorem dX10_isPerson_169 : decode cX10_isPerson 169 = .ok (.goto 4, 3) := by decide +kernel
theorem dX10_isPerson_172 : decode cX10_isPerson 172 = .ok (.iconst 0, 1) := by decide +kernel
theorem dX10_isPerson_173 : decode cX10_isPerson 173 = .ok (.istore_n 1, 1) := by decide +kernel
theorem dX10_isPerson_174 : decode cX10_isPerson 174 = .ok (.aload_n 0, 1) := by decide +kernel
theorem dX10_isPerson_175 : decode cX10_isPerson 175 = .ok (.getfield 26, 3) := by decide +kernel
theorem dX10_isPerson_178 : decode cX10_isPerson 178 = .ok (.iconst 1, 1) := by decide +kernel
theorem dX10_isPerson_179 : decode cX10_isPerson 179 = .ok (.dup2, 1) := by decide +kernel
theorem dX10_isPerson_180 : decode cX10_isPerson 180 = .ok (.iaload, 1) := by decide +kernel
theorem dX10_isPerson_181 : decode cX10_isPerson 181 = .ok (.iload_n 1, 1) := by decide +kernel
theorem dX10_isPerson_182 : decode cX10_isPerson 182 = .ok (.ifCond .eq 7, 3) := by decide +kernel
theorem dX10_isPerson_185 : decode cX10_isPerson 185 = .ok (.iconst 1, 1) := by decide +kernel
theorem dX10_isPerson_186 : decode cX10_isPerson 186 = .ok (.goto 4, 3) := by decide +kernel
theorem dX10_isPerson_189 : decode cX10_isPerson 189 = .ok (.iconst 0, 1) := by decide +kernel
theorem dX10_isPerson_190 : decode cX10_isPerson 190 = .ok (.iadd, 1) := by decide +kernel
theorem dX10_isPerson_191 : decode cX10_isPerson 191 = .ok (.iastore, 1) := by decide +kernel
theorem dX10_isPerson_192 : decode cX10_isPerson 192 = .ok (.iload_n 1, 1) := by decide +kernel
theorem dX10_isPerson_193 : decode cX10_isPerson 193 = .ok (.ireturn, 1) := by decide +kernel
theorem dX10_borrowed_0 : decode cX10_borrowed 0 = .ok (.iconst 0, 1) := by decide +kernel
theorem dX10_borrowed_1 : decode cX10_borrowed 1 = .ok (.istore_n 1, 1) := by decide +kernel
theorem dX10_borrowed_2 : decode cX10_borrowed 2 = .ok (.iconst 0, 1) := by decide +kernel
theorem dX10_borrowed_3 : decode cX10_borrowed 3 = .ok (.istore_n 2, 1) := by decide +kernel
theorem dX10_borrowed_4 : decode cX10_borrowed 4 = .ok (.iload_n 2, 1) := by decide +kernel
theorem dX10_borrowed_5 : decode cX10_borrowed 5 = .ok (.aload_n 0, 1) := by decide +kernel
theorem dX10_borrowed_6 : decode cX10_borrowed 6 = .ok (.getfield 17, 3) := by decide +kernel
theorem dX10_borrowed_9 : decode cX10_borrowed 9 = .ok (.iconst 1, 1) := by decide +kernel
theorem dX10_borrowed_10 : decode cX10_borrowed 10 = .ok (.iaload, 1) := by decide +kernel
theorem dX10_borrowed_11 : decode cX10_borrowed 11 = .ok (.if_icmp .ge 20, 3) := by decide +kernel
theorem dX10_borrowed_14 : decode cX10_borrowed 14 = .ok (.iload_n 1, 1) := by decide +kernel
theorem dX10_borrowed_15 : decode cX10_borrowed 15 = .ok (.aload_n 0, 1) := by decide +kernel
theorem dX10_borrowed_16 : decode cX10_borrowed 16 = .ok (.getfield 23, 3) := by decide +kernel
theorem dX10_borrowed_19 : decode cX10_borrowed 19 = .ok (.iconst 5, 1) := by decide +kernel
theorem dX10_borrowed_20 : decode cX10_borrowed 20 = .ok (.iload_n 2, 1) := by decide +kernel
theorem dX10_borrowed_21 : decode cX10_borrowed 21 = .ok (.iadd, 1) := by decide +kernel
theorem dX10_borrowed_22 : decode cX10_borrowed 22 = .ok (.iaload, 1) := by decide +kernel
theorem dX10_borrowed_23 : decode cX10_borrowed 23 = .ok (.iadd, 1) := by decide +kernel
theorem dX10_borrowed_24 : decode cX10_borrowed 24 = .ok (.istore_n 1, 1) := by decide +kernel
theorem dX10_borrowed_25 : decode cX10_borrowed 25 = .ok (.iinc 2 1, 3) := by decide +kernel
theorem dX10_borrowed_28 : decode cX10_borrowed 28 = .ok (.goto (-24), 3) := by decide +kernel
theorem dX10_borrowed_31 : decode cX10_borrowed 31 = .ok (.iload_n 1, 1) := by decide +kernel
theorem dX10_borrowed_32 : decode cX10_borrowed 32 = .ok (.ireturn, 1) := by decide +kernel
theorem dX10_isThing_0 : decode cX10_isThing 0 = .ok (.aload_n 0, 1) := by decide +kernel
theorem dX10_isThing_1 : decode cX10_isThing 1 = .ok (.invokevirtual 91, 3) := by decide +kernel
theorem dX10_isThing_4 : decode cX10_isThing 4 = .ok (.istore_n 1, 1) := by decide +kernel
theorem dX10_isThing_5 : decode cX10_isThing 5 = .ok (.iload_n 1, 1) := by decide +kernel
theorem dX10_isThing_6 : decode cX10_isThing 6 = .ok (.i2l, 1) := by decide +kernel
theorem dX10_isThing_7 : decode cX10_isThing 7 = .ok (.lconst 1, 1) := by decide +kernel
theorem dX10_isThing_8 : decode cX10_isThing 8 = .ok (.ldc2_w 95, 3) := by decide +kernel
theorem dX10_isThing_11 : decode cX10_isThing 11 = .ok (.invokestatic 74, 3) := by decide +kernel
theorem dX10_isThing_14 : decode cX10_isThing 14 = .ok (.ifCond .eq 32, 3) := by decide +kernel
theorem dX10_isThing_17 : decode cX10_isThing 17 = .ok (.aload_n 0, 1) := by decide +kernel
theorem dX10_isThing_18 : decode cX10_isThing 18 = .ok (.getfield 82, 3) := by decide +kernel
theorem dX10_isThing_21 : decode cX10_isThing 21 = .ok (.aload_n 0, 1) := by decide +kernel
theorem dX10_isThing_22 : decode cX10_isThing 22 = .ok (.getfield 78, 3) := by decide +kernel
theorem dX10_isThing_25 : decode cX10_isThing 25 = .ok (.if_icmp .ge 21, 3) := by decide +kernel
theorem dX10_isThing_28 : decode cX10_isThing 28 = .ok (.aload_n 0, 1) := by decide +kernel
theorem dX10_isThing_29 : decode cX10_isThing 29 = .ok (.getfield 7, 3) := by decide +kernel
theorem dX10_isThing_32 : decode cX10_isThing 32 = .ok (.aload_n 0, 1) := by decide +kernel
theorem dX10_isThing_33 : decode cX10_isThing 33 = .ok (.getfield 82, 3) := by decide +kernel
theorem dX10_isThing_36 : decode cX10_isThing 36 = .ok (.baload, 1) := by decide +kernel
theorem dX10_isThing_37 : decode cX10_isThing 37 = .ok (.bipush 44, 2) := by decide +kernel
theorem dX10_isThing_39 : decode cX10_isThing 39 = .ok (.if_icmp .ne 7, 3) := by decide +kernel
theorem dX10_isThing_42 : decode cX10_isThing 42 = .ok (.iconst 1, 1) := by decide +kernel
theorem dX10_isThing_43 : decode cX10_isThing 43 = .ok (.goto 4, 3) := by decide +kernel
theorem dX10_isThing_46 : decode cX10_isThing 46 = .ok (.iconst 0, 1) := by decide +kernel
theorem dX10_isThing_47 : decode cX10_isThing 47 = .ok (.istore_n 2, 1) := by decide +kernel
theorem dX10_isThing_48 : decode cX10_isThing 48 = .ok (.aload_n 0, 1) := by decide +kernel
theorem dX10_isThing_49 : decode cX10_isThing 49 = .ok (.dup, 1) := by decide +kernel
theorem dX10_isThing_50 : decode cX10_isThing 50 = .ok (.getfield 82, 3) := by decide +kernel
theorem dX10_isThing_53 : decode cX10_isThing 53 = .ok (.iconst 1, 1) := by decide +kernel
theorem dX10_isThing_54 : decode cX10_isThing 54 = .ok (.iadd, 1) := by decide +kernel
theorem dX10_isThing_55 : decode cX10_isThing 55 = .ok (.putfield 82, 3) := by decide +kernel
theorem dX10_isThing_58 : decode cX10_isThing 58 = .ok (.iload_n 2, 1) := by decide +kernel
theorem dX10_isThing_59 : decode cX10_isThing 59 = .ok (.ifCond .eq 10, 3) := by decide +kernel
theorem dX10_isThing_62 : decode cX10_isThing 62 = .ok (.aload_n 0, 1) := by decide +kernel
theorem dX10_isThing_63 : decode cX10_isThing 63 = .ok (.invokevirtual 91, 3) := by decide +kernel
theorem dX10_isThing_66 : decode cX10_isThing 66 = .ok (.goto 4, 3) := by decide +kernel
theorem dX10_isThing_69 : decode cX10_isThing 69 = .ok (.iconst (-1), 1) := by decide +kernel
theorem dX10_isThing_70 : decode cX10_isThing 70 = .ok (.istore_n 3, 1) := by decide +kernel
theorem dX10_isThing_71 : decode cX10_isThing 71 = .ok (.iload_n 2, 1) := by decide +kernel
theorem dX10_isThing_72 : decode cX10_isThing 72 = .ok (.ifCond .eq 46, 3) := by decide +kernel
theorem dX10_isThing_75 : decode cX10_isThing 75 = .ok (.iload_n 3, 1) := by decide +kernel
theorem dX10_isThing_76 : decode cX10_isThing 76 = .ok (.i2l, 1) := by decide +kernel
theorem dX10_isThing_77 : decode cX10_isThing 77 = .ok (.lconst 0, 1) := by decide +kernel
theorem dX10_isThing_78 : decode cX10_isThing 78 = .ok (.lconst 1, 1) := by decide +kernel
theorem dX10_isThing_79 : decode cX10_isThing 79 = .ok (.invokestatic 74, 3) := by decide +kernel
theorem dX10_isThing_82 : decode cX10_isThing 82 = .ok (.ifCond .eq 36, 3) := by decide +kernel
theorem dX10_isThing_85 : decode cX10_isThing 85 = .ok (.aload_n 0, 1) := by decide +kernel
theorem dX10_isThing_86 : decode cX10_isThing 86 = .ok (.getfield 17, 3) := by decide +kernel
theorem dX10_isThing_89 : decode cX10_isThing 89 = .ok (.iconst 1, 1) := by decide +kernel
theorem dX10_isThing_90 : decode cX10_isThing 90 = .ok (.iaload, 1) := by decide +kernel
theorem dX10_isThing_91 : decode cX10_isThing 91 = .ok (.iconst 5, 1) := by decide +kernel
theorem dX10_isThing_92 : decode cX10_isThing 92 = .ok (.if_icmp .ge 26, 3) := by decide +kernel
theorem dX10_isThing_95 : decode cX10_isThing 95 = .ok (.aload_n 0, 1) := by decide +kernel
theorem dX10_isThing_96 : decode cX10_isThing 96 = .ok (.getfield 26, 3) := by decide +kernel
theorem dX10_isThing_99 : decode cX10_isThing 99 = .ok (.iconst 1, 1) := by decide +kernel
theorem dX10_isThing_100 : decode cX10_isThing 100 = .ok (.iaload, 1) := by decide +kernel
theorem dX10_isThing_101 : decode cX10_isThing 101 = .ok (.ifCond .ne 17, 3) := by decide +kernel
theorem dX10_isThing_104 : decode cX10_isThing 104 = .ok (.aload_n 0, 1) := by decide +kernel
theorem dX10_isThing_105 : decode cX10_isThing 105 = .ok (.invokevirtual 97, 3) := by decide +kernel
theorem dX10_isThing_108 : decode cX10_isThing 108 = .ok (.iload_n 3, 1) := by decide +kernel
theorem dX10_isThing_109 : decode cX10_isThing 109 = .ok (.iadd, 1) := by decide +kernel
theorem dX10_isThing_110 : decode cX10_isThing 110 = .ok (.iconst 2, 1) := by decide +kernel
theorem dX10_isThing_111 : decode cX10_isThing 111 = .ok (.if_icmp .gt 7, 3) := by decide +kernel
theorem dX10_isThing_114 : decode cX10_isThing 114 = .ok (.iconst 1, 1) := by decide +kernel
theorem dX10_isThing_115 : decode cX10_isThing 115 = .ok (.goto 4, 3) := by decide +kernel
theorem dX10_isThing_118 : decode cX10_isThing 118 = .ok (.iconst 0, 1) := by decide +kernel
theorem dX10_isThing_119 : decode cX10_isThing 119 = .ok (.istore_n 2, 1) := by decide +kernel
theorem dX10_isThing_120 : decode cX10_isThing 120 = .ok (.iload_n 2, 1) := by decide +kernel
theorem dX10_isThing_121 : decode cX10_isThing 121 = .ok (.ifCond .eq 41, 3) := by decide +kernel
theorem dX10_isThing_124 : decode cX10_isThing 124 = .ok (.aload_n 0, 1) := by decide +kernel
theorem dX10_isThing_125 : decode cX10_isThing 125 = .ok (.getfield 20, 3) := by decide +kernel
theorem dX10_isThing_128 : decode cX10_isThing 128 = .ok (.iconst 5, 1) := by decide +kernel
theorem dX10_isThing_129 : decode cX10_isThing 129 = .ok (.aload_n 0, 1) := by decide +kernel
theorem dX10_isThing_130 : decode cX10_isThing 130 = .ok (.getfield 17, 3) := by decide +kernel
theorem dX10_isThing_133 : decode cX10_isThing 133 = .ok (.iconst 1, 1) := by decide +kernel
theorem dX10_isThing_134 : decode cX10_isThing 134 = .ok (.iaload, 1) := by decide +kernel
theorem dX10_isThing_135 : decode cX10_isThing 135 = .ok (.iadd, 1) := by decide +kernel
theorem dX10_isThing_136 : decode cX10_isThing 136 = .ok (.iload_n 1, 1) := by decide +kernel
theorem dX10_isThing_137 : decode cX10_isThing 137 = .ok (.iastore, 1) := by decide +kernel
theorem dX10_isThing_138 : decode cX10_isThing 138 = .ok (.aload_n 0, 1) := by decide +kernel
theorem dX10_isThing_139 : decode cX10_isThing 139 = .ok (.getfield 23, 3) := by decide +kernel
theorem dX10_isThing_142 : decode cX10_isThing 142 = .ok (.iconst 5, 1) := by decide +kernel
theorem dX10_isThing_143 : decode cX10_isThing 143 = .ok (.aload_n 0, 1) := by decide +kernel
theorem dX10_isThing_144 : decode cX10_isThing 144 = .ok (.getfield 17, 3) := by decide +kernel
theorem dX10_isThing_147 : decode cX10_isThing 147 = .ok (.iconst 1, 1) := by decide +kernel
theorem dX10_isThing_148 : decode cX10_isThing 148 = .ok (.iaload, 1) := by decide +kernel
theorem dX10_isThing_149 : decode cX10_isThing 149 = .ok (.iadd, 1) := by decide +kernel
theorem dX10_isThing_150 : decode cX10_isThing 150 = .ok (.iload_n 3, 1) := by decide +kernel
theorem dX10_isThing_151 : decode cX10_isThing 151 = .ok (.iastore, 1) := by decide +kernel
theorem dX10_isThing_152 : decode cX10_isThing 152 = .ok (.aload_n 0, 1) := by decide +kernel
theorem dX10_isThing_153 : decode cX10_isThing 153 = .ok (.getfield 17, 3) := by decide +kernel
theorem dX10_isThing_156 : decode cX10_isThing 156 = .ok (.iconst 1, 1) := by decide +kernel
theorem dX10_isThing_157 : decode cX10_isThing 157 = .ok (.dup2, 1) := by decide +kernel
theorem dX10_isThing_158 : decode cX10_isThing 158 = .ok (.iaload, 1) := by decide +kernel
theorem dX10_isThing_159 : decode cX10_isThing 159 = .ok (.iconst 1, 1) := by decide +kernel
theorem dX10_isThing_160 : decode cX10_isThing 160 = .ok (.iadd, 1) := by decide +kernel
theorem dX10_isThing_161 : decode cX10_isThing 161 = .ok (.iastore, 1) := by decide +kernel
theorem dX10_isThing_162 : decode cX10_isThing 162 = .ok (.iload_n 2, 1) := by decide +kernel
theorem dX10_isThing_163 : decode cX10_isThing 163 = .ok (.ireturn, 1) := by decide +kernel
theorem dX10_isItem_0 : decode cX10_isItem 0 = .ok (.aload_n 0, 1) := by decide +kernel
theorem dX10_isItem_1 : decode cX10_isItem 1 = .ok (.getfield 7, 3) := by decide +kernel
theorem dX10_isItem_4 : decode cX10_isItem 4 = .ok (.aload_n 0, 1) := by decide +kernel
theorem dX10_isItem_5 : decode cX10_isItem 5 = .ok (.getfield 82, 3) := by decide +kernel
theorem dX10_isItem_8 : decode cX10_isItem 8 = .ok (.baload, 1) := by decide +kernel
theorem dX10_isItem_9 : decode cX10_isItem 9 = .ok (.istore_n 1, 1) := by decide +kernel
theorem dX10_isItem_10 : decode cX10_isItem 10 = .ok (.aload_n 0, 1) := by decide +kernel
theorem dX10_isItem_11 : decode cX10_isItem 11 = .ok (.dup, 1) := by decide +kernel
theorem dX10_isItem_12 : decode cX10_isItem 12 = .ok (.getfield 82, 3) := by decide +kernel
theorem dX10_isItem_15 : decode cX10_isItem 15 = .ok (.iconst 1, 1) := by decide +kernel
theorem dX10_isItem_16 : decode cX10_isItem 16 = .ok (.iadd, 1) := by decide +kernel
theorem dX10_isItem_17 : decode cX10_isItem 17 = .ok (.putfield 82, 3) := by decide +kernel
theorem dX10_isItem_20 : decode cX10_isItem 20 = .ok (.iconst 0, 1) := by decide +kernel
theorem dX10_isItem_21 : decode cX10_isItem 21 = .ok (.istore_n 2, 1) := by decide +kernel
theorem dX10_isItem_22 : decode cX10_isItem 22 = .ok (.iload_n 1, 1) := by decide +kernel
theorem dX10_isItem_23 : decode cX10_isItem 23 = .ok (.bipush 116, 2) := by decide +kernel
theorem dX10_isItem_25 : decode cX10_isItem 25 = .ok (.if_icmp .ne 11, 3) := by decide +kernel
theorem dX10_isItem_28 : decode cX10_isItem 28 = .ok (.aload_n 0, 1) := by decide +kernel
theorem dX10_isItem_29 : decode cX10_isItem 29 = .ok (.invokevirtual 100, 3) := by decide +kernel
theorem dX10_isItem_32 : decode cX10_isItem 32 = .ok (.istore_n 2, 1) := by decide +kernel
theorem dX10_isItem_33 : decode cX10_isItem 33 = .ok (.goto 87, 3) := by decide +kernel
theorem dX10_isItem_36 : decode cX10_isItem 36 = .ok (.iload_n 1, 1) := by decide +kernel
theorem dX10_isItem_37 : decode cX10_isItem 37 = .ok (.bipush 112, 2) := by decide +kernel
theorem dX10_isItem_39 : decode cX10_isItem 39 = .ok (.if_icmp .ne 11, 3) := by decide +kernel
theorem dX10_isItem_42 : decode cX10_isItem 42 = .ok (.aload_n 0, 1) := by decide +kernel
theorem dX10_isItem_43 : decode cX10_isItem 43 = .ok (.invokevirtual 104, 3) := by decide +kernel
theorem dX10_isItem_46 : decode cX10_isItem 46 = .ok (.istore_n 2, 1) := by decide +kernel
theorem dX10_isItem_47 : decode cX10_isItem 47 = .ok (.goto 73, 3) := by decide +kernel
theorem dX10_isItem_50 : decode cX10_isItem 50 = .ok (.iload_n 1, 1) := by decide +kernel
theorem dX10_isItem_51 : decode cX10_isItem 51 = .ok (.bipush 108, 2) := by decide +kernel
theorem dX10_isItem_53 : decode cX10_isItem 53 = .ok (.if_icmp .eq 9, 3) := by decide +kernel
theorem dX10_isItem_56 : decode cX10_isItem 56 = .ok (.iload_n 1, 1) := by decide +kernel
theorem dX10_isItem_57 : decode cX10_isItem 57 = .ok (.bipush 103, 2) := by decide +kernel
theorem dX10_isItem_59 : decode cX10_isItem 59 = .ok (.if_icmp .ne 61, 3) := by decide +kernel
theorem dX10_isItem_62 : decode cX10_isItem 62 = .ok (.aload_n 0, 1) := by decide +kernel
theorem dX10_isItem_63 : decode cX10_isItem 63 = .ok (.getfield 13, 3) := by decide +kernel
theorem dX10_isItem_66 : decode cX10_isItem 66 = .ok (.iload_n 1, 1) := by decide +kernel
theorem dX10_isItem_67 : decode cX10_isItem 67 = .ok (.bipush 108, 2) := by decide +kernel
theorem dX10_isItem_69 : decode cX10_isItem 69 = .ok (.if_icmp .ne 7, 3) := by decide +kernel
theorem dX10_isItem_72 : decode cX10_isItem 72 = .ok (.iconst 2, 1) := by decide +kernel
theorem dX10_isItem_73 : decode cX10_isItem 73 = .ok (.goto 4, 3) := by decide +kernel
theorem dX10_isItem_76 : decode cX10_isItem 76 = .ok (.iconst 3, 1) := by decide +kernel
theorem dX10_isItem_77 : decode cX10_isItem 77 = .ok (.aload_n 0, 1) := by decide +kernel
theorem dX10_isItem_78 : decode cX10_isItem 78 = .ok (.invokevirtual 91, 3) := by decide +kernel
theorem dX10_isItem_81 : decode cX10_isItem 81 = .ok (.iastore, 1) := by decide +kernel
theorem dX10_isItem_82 : decode cX10_isItem 82 = .ok (.iload_n 1, 1) := by decide +kernel
theorem dX10_isItem_83 : decode cX10_isItem 83 = .ok (.bipush 108, 2) := by decide +kernel
theorem dX10_isItem_85 : decode cX10_isItem 85 = .ok (.if_icmp .ne 20, 3) := by decide +kernel
theorem dX10_isItem_88 : decode cX10_isItem 88 = .ok (.aload_n 0, 1) := by decide +kernel
theorem dX10_isItem_89 : decode cX10_isItem 89 = .ok (.getfield 13, 3) := by decide +kernel
theorem dX10_isItem_92 : decode cX10_isItem 92 = .ok (.iconst 2, 1) := by decide +kernel
theorem dX10_isItem_93 : decode cX10_isItem 93 = .ok (.iaload, 1) := by decide +kernel
theorem dX10_isItem_94 : decode cX10_isItem 94 = .ok (.i2l, 1) := by decide +kernel
theorem dX10_isItem_95 : decode cX10_isItem 95 = .ok (.lconst 0, 1) := by decide +kernel
theorem dX10_isItem_96 : decode cX10_isItem 96 = .ok (.ldc2_w 107, 3) := by decide +kernel
theorem dX10_isItem_99 : decode cX10_isItem 99 = .ok (.invokestatic 74, 3) := by decide +kernel
theorem dX10_isItem_102 : decode cX10_isItem 102 = .ok (.goto 17, 3) := by decide +kernel
theorem dX10_isItem_105 : decode cX10_isItem 105 = .ok (.aload_n 0, 1) := by decide +kernel
theorem dX10_isItem_106 : decode cX10_isItem 106 = .ok (.getfield 13, 3) := by decide +kernel
theorem dX10_isItem_109 : decode cX10_isItem 109 = .ok (.iconst 3, 1) := by decide +kernel
theorem dX10_isItem_110 : decode cX10_isItem 110 = .ok (.iaload, 1) := by decide +kernel
theorem dX10_isItem_111 : decode cX10_isItem 111 = .ok (.i2l, 1) := by decide +kernel
theorem dX10_isItem_112 : decode cX10_isItem 112 = .ok (.lconst 0, 1) := by decide +kernel
theorem dX10_isItem_113 : decode cX10_isItem 113 = .ok (.ldc2_w 109, 3) := by decide +kernel
theorem dX10_isItem_116 : decode cX10_isItem 116 = .ok (.invokestatic 74, 3) := by decide +kernel
theorem dX10_isItem_119 : decode cX10_isItem 119 = .ok (.istore_n 2, 1) := by decide +kernel
theorem dX10_isItem_120 : decode cX10_isItem 120 = .ok (.iload_n 2, 1) := by decide +kernel
theorem dX10_isItem_121 : decode cX10_isItem 121 = .ok (.ifCond .eq 32, 3) := by decide +kernel
theorem dX10_isItem_124 : decode cX10_isItem 124 = .ok (.aload_n 0, 1) := by decide +kernel
theorem dX10_isItem_125 : decode cX10_isItem 125 = .ok (.getfield 82, 3) := by decide +kernel
theorem dX10_isItem_128 : decode cX10_isItem 128 = .ok (.aload_n 0, 1) := by decide +kernel
theorem dX10_isItem_129 : decode cX10_isItem 129 = .ok (.getfield 78, 3) := by decide +kernel
theorem dX10_isItem_132 : decode cX10_isItem 132 = .ok (.if_icmp .ge 21, 3) := by decide +kernel
theorem dX10_isItem_135 : decode cX10_isItem 135 = .ok (.aload_n 0, 1) := by decide +kernel
theorem dX10_isItem_136 : decode cX10_isItem 136 = .ok (.getfield 7, 3) := by decide +kernel
theorem dX10_isItem_139 : decode cX10_isItem 139 = .ok (.aload_n 0, 1) := by decide +kernel
theorem dX10_isItem_140 : decode cX10_isItem 140 = .ok (.getfield 82, 3) := by decide +kernel
theorem dX10_isItem_143 : decode cX10_isItem 143 = .ok (.baload, 1) := by decide +kernel
theorem dX10_isItem_144 : decode cX10_isItem 144 = .ok (.bipush 59, 2) := by decide +kernel
theorem dX10_isItem_146 : decode cX10_isItem 146 = .ok (.if_icmp .ne 7, 3) := by decide +kernel
theorem dX10_isItem_149 : decode cX10_isItem 149 = .ok (.iconst 1, 1) := by decide +kernel
theorem dX10_isItem_150 : decode cX10_isItem 150 = .ok (.goto 4, 3) := by decide +kernel
theorem dX10_isItem_153 : decode cX10_isItem 153 = .ok (.iconst 0, 1) := by decide +kernel
theorem dX10_isItem_154 : decode cX10_isItem 154 = .ok (.istore_n 2, 1) := by decide +kernel
theorem dX10_isItem_155 : decode cX10_isItem 155 = .ok (.aload_n 0, 1) := by decide +kernel
theorem dX10_isItem_156 : decode cX10_isItem 156 = .ok (.dup, 1) := by decide +kernel
theorem dX10_isItem_157 : decode cX10_isItem 157 = .ok (.getfield 82, 3) := by decide +kernel
theorem dX10_isItem_160 : decode cX10_isItem 160 = .ok (.iconst 1, 1) := by decide +kernel
theorem dX10_isItem_161 : decode cX10_isItem 161 = .ok (.iadd, 1) := by decide +kernel
theorem dX10_isItem_162 : decode cX10_isItem 162 = .ok (.putfield 82, 3) := by decide +kernel
theorem dX10_isItem_165 : decode cX10_isItem 165 = .ok (.iload_n 2, 1) := by decide +kernel
theorem dX10_isItem_166 : decode cX10_isItem 166 = .ok (.ireturn, 1) := by decide +kernel
theorem dX10_begins_0 : decode cX10_begins 0 = .ok (.aload_n 0, 1) := by decide +kernel
theorem dX10_begins_1 : decode cX10_begins 1 = .ok (.getfield 13, 3) := by decide +kernel
theorem dX10_begins_4 : decode cX10_begins 4 = .ok (.iconst 2, 1) := by decide +kernel
theorem dX10_begins_5 : decode cX10_begins 5 = .ok (.iconst 0, 1) := by decide +kernel
theorem dX10_begins_6 : decode cX10_begins 6 = .ok (.iastore, 1) := by decide +kernel
theorem dX10_begins_7 : decode cX10_begins 7 = .ok (.aload_n 0, 1) := by decide +kernel
theorem dX10_begins_8 : decode cX10_begins 8 = .ok (.getfield 13, 3) := by decide +kernel
theorem dX10_begins_11 : decode cX10_begins 11 = .ok (.iconst 3, 1) := by decide +kernel
theorem dX10_begins_12 : decode cX10_begins 12 = .ok (.bipush 31, 2) := by decide +kernel
theorem dX10_begins_14 : decode cX10_begins 14 = .ok (.iastore, 1) := by decide +kernel
theorem dX10_begins_15 : decode cX10_begins 15 = .ok (.aload_n 0, 1) := by decide +kernel
theorem dX10_begins_16 : decode cX10_begins 16 = .ok (.getfield 17, 3) := by decide +kernel
theorem dX10_begins_19 : decode cX10_begins 19 = .ok (.iconst 1, 1) := by decide +kernel
theorem dX10_begins_20 : decode cX10_begins 20 = .ok (.iconst 0, 1) := by decide +kernel
theorem dX10_begins_21 : decode cX10_begins 21 = .ok (.iastore, 1) := by decide +kernel
theorem dX10_begins_22 : decode cX10_begins 22 = .ok (.aload_n 0, 1) := by decide +kernel
theorem dX10_begins_23 : decode cX10_begins 23 = .ok (.getfield 26, 3) := by decide +kernel
theorem dX10_begins_26 : decode cX10_begins 26 = .ok (.iconst 1, 1) := by decide +kernel
theorem dX10_begins_27 : decode cX10_begins 27 = .ok (.iconst 0, 1) := by decide +kernel
theorem dX10_begins_28 : decode cX10_begins 28 = .ok (.iastore, 1) := by decide +kernel
theorem dX10_begins_29 : decode cX10_begins 29 = .ok (.return_, 1) := by decide +kernel
theorem dX10_takes_0 : decode cX10_takes 0 = .ok (.aload_n 0, 1) := by decide +kernel
theorem dX10_takes_1 : decode cX10_takes 1 = .ok (.getfield 13, 3) := by decide +kernel
theorem dX10_takes_4 : decode cX10_takes 4 = .ok (.iconst 0, 1) := by decide +kernel
theorem dX10_takes_5 : decode cX10_takes 5 = .ok (.aload_n 0, 1) := by decide +kernel
theorem dX10_takes_6 : decode cX10_takes 6 = .ok (.getfield 13, 3) := by decide +kernel
theorem dX10_takes_9 : decode cX10_takes 9 = .ok (.iconst 2, 1) := by decide +kernel
theorem dX10_takes_10 : decode cX10_takes 10 = .ok (.iaload, 1) := by decide +kernel
theorem dX10_takes_11 : decode cX10_takes 11 = .ok (.iastore, 1) := by decide +kernel
theorem dX10_takes_12 : decode cX10_takes 12 = .ok (.aload_n 0, 1) := by decide +kernel
theorem dX10_takes_13 : decode cX10_takes 13 = .ok (.getfield 13, 3) := by decide +kernel
theorem dX10_takes_16 : decode cX10_takes 16 = .ok (.iconst 1, 1) := by decide +kernel
theorem dX10_takes_17 : decode cX10_takes 17 = .ok (.aload_n 0, 1) := by decide +kernel
theorem dX10_takes_18 : decode cX10_takes 18 = .ok (.getfield 13, 3) := by decide +kernel
theorem dX10_takes_21 : decode cX10_takes 21 = .ok (.iconst 3, 1) := by decide +kernel
theorem dX10_takes_22 : decode cX10_takes 22 = .ok (.iaload, 1) := by decide +kernel
theorem dX10_takes_23 : decode cX10_takes 23 = .ok (.iastore, 1) := by decide +kernel
theorem dX10_takes_24 : decode cX10_takes 24 = .ok (.aload_n 0, 1) := by decide +kernel
theorem dX10_takes_25 : decode cX10_takes 25 = .ok (.getfield 17, 3) := by decide +kernel
theorem dX10_takes_28 : decode cX10_takes 28 = .ok (.iconst 0, 1) := by decide +kernel
theorem dX10_takes_29 : decode cX10_takes 29 = .ok (.aload_n 0, 1) := by decide +kernel
theorem dX10_takes_30 : decode cX10_takes 30 = .ok (.getfield 17, 3) := by decide +kernel
theorem dX10_takes_33 : decode cX10_takes 33 = .ok (.iconst 1, 1) := by decide +kernel
theorem dX10_takes_34 : decode cX10_takes 34 = .ok (.iaload, 1) := by decide +kernel
theorem dX10_takes_35 : decode cX10_takes 35 = .ok (.iastore, 1) := by decide +kernel
theorem dX10_takes_36 : decode cX10_takes 36 = .ok (.aload_n 0, 1) := by decide +kernel
theorem dX10_takes_37 : decode cX10_takes 37 = .ok (.getfield 26, 3) := by decide +kernel
theorem dX10_takes_40 : decode cX10_takes 40 = .ok (.iconst 0, 1) := by decide +kernel
theorem dX10_takes_41 : decode cX10_takes 41 = .ok (.aload_n 0, 1) := by decide +kernel
theorem dX10_takes_42 : decode cX10_takes 42 = .ok (.getfield 26, 3) := by decide +kernel
theorem dX10_takes_45 : decode cX10_takes 45 = .ok (.iconst 1, 1) := by decide +kernel
theorem dX10_takes_46 : decode cX10_takes 46 = .ok (.iaload, 1) := by decide +kernel
theorem dX10_takes_47 : decode cX10_takes 47 = .ok (.iastore, 1) := by decide +kernel
theorem dX10_takes_48 : decode cX10_takes 48 = .ok (.iconst 0, 1) := by decide +kernel
theorem dX10_takes_49 : decode cX10_takes 49 = .ok (.istore_n 1, 1) := by decide +kernel
theorem dX10_takes_50 : decode cX10_takes 50 = .ok (.iload_n 1, 1) := by decide +kernel
theorem dX10_takes_51 : decode cX10_takes 51 = .ok (.bipush 45, 2) := by decide +kernel
theorem dX10_takes_53 : decode cX10_takes 53 = .ok (.if_icmp .ge 57, 3) := by decide +kernel
theorem dX10_takes_56 : decode cX10_takes 56 = .ok (.aload_n 0, 1) := by decide +kernel
theorem dX10_takes_57 : decode cX10_takes 57 = .ok (.getfield 29, 3) := by decide +kernel
theorem dX10_takes_60 : decode cX10_takes 60 = .ok (.iload_n 1, 1) := by decide +kernel
theorem dX10_takes_61 : decode cX10_takes 61 = .ok (.aload_n 0, 1) := by decide +kernel
