theorem dX0_init_0 : decode cX0_init 0 = .ok (.aload_n 0, 1) := by decide +kernel
theorem dX0_init_1 : decode cX0_init 1 = .ok (.invokespecial 3, 3) := by decide +kernel
theorem dX0_init_4 : decode cX0_init 4 = .ok (.aload_n 0, 1) := by decide +kernel
theorem dX0_init_5 : decode cX0_init 5 = .ok (.iconst 1, 1) := by decide +kernel
theorem dX0_init_6 : decode cX0_init 6 = .ok (.putfield 9, 3) := by decide +kernel
theorem dX0_init_9 : decode cX0_init 9 = .ok (.return_, 1) := by decide +kernel
theorem dX0_isEmpty_0 : decode cX0_isEmpty 0 = .ok (.aload_n 0, 1) := by decide +kernel
theorem dX0_isEmpty_1 : decode cX0_isEmpty 1 = .ok (.getfield 15, 3) := by decide +kernel
theorem dX0_isEmpty_4 : decode cX0_isEmpty 4 = .ok (.ifCond .ne 7, 3) := by decide +kernel
theorem dX0_isEmpty_7 : decode cX0_isEmpty 7 = .ok (.iconst 1, 1) := by decide +kernel
theorem dX0_isEmpty_8 : decode cX0_isEmpty 8 = .ok (.goto 4, 3) := by decide +kernel
theorem dX0_isEmpty_11 : decode cX0_isEmpty 11 = .ok (.iconst 0, 1) := by decide +kernel
theorem dX0_isEmpty_12 : decode cX0_isEmpty 12 = .ok (.ireturn, 1) := by decide +kernel
theorem dX0_told_0 : decode cX0_told 0 = .ok (.iload_n 1, 1) := by decide +kernel
theorem dX0_told_1 : decode cX0_told 1 = .ok (.tableswitch 87 0 7 #[47, 52, 57, 62, 67, 72, 77, 82], 47) := by decide +kernel
theorem dX0_told_48 : decode cX0_told 48 = .ok (.aload_n 0, 1) := by decide +kernel
theorem dX0_told_49 : decode cX0_told 49 = .ok (.getfield 18, 3) := by decide +kernel
theorem dX0_told_52 : decode cX0_told 52 = .ok (.ireturn, 1) := by decide +kernel
theorem dX0_told_53 : decode cX0_told 53 = .ok (.aload_n 0, 1) := by decide +kernel
theorem dX0_told_54 : decode cX0_told 54 = .ok (.getfield 21, 3) := by decide +kernel
theorem dX0_told_57 : decode cX0_told 57 = .ok (.ireturn, 1) := by decide +kernel
theorem dX0_told_58 : decode cX0_told 58 = .ok (.aload_n 0, 1) := by decide +kernel
theorem dX0_told_59 : decode cX0_told 59 = .ok (.getfield 24, 3) := by decide +kernel
theorem dX0_told_62 : decode cX0_told 62 = .ok (.ireturn, 1) := by decide +kernel
theorem dX0_told_63 : decode cX0_told 63 = .ok (.aload_n 0, 1) := by decide +kernel
theorem dX0_told_64 : decode cX0_told 64 = .ok (.getfield 27, 3) := by decide +kernel
theorem dX0_told_67 : decode cX0_told 67 = .ok (.ireturn, 1) := by decide +kernel
theorem dX0_told_68 : decode cX0_told 68 = .ok (.aload_n 0, 1) := by decide +kernel
theorem dX0_told_69 : decode cX0_told 69 = .ok (.getfield 9, 3) := by decide +kernel
theorem dX0_told_72 : decode cX0_told 72 = .ok (.ireturn, 1) := by decide +kernel
theorem dX0_told_73 : decode cX0_told 73 = .ok (.aload_n 0, 1) := by decide +kernel
theorem dX0_told_74 : decode cX0_told 74 = .ok (.getfield 30, 3) := by decide +kernel
theorem dX0_told_77 : decode cX0_told 77 = .ok (.ireturn, 1) := by decide +kernel
theorem dX0_told_78 : decode cX0_told 78 = .ok (.aload_n 0, 1) := by decide +kernel
theorem dX0_told_79 : decode cX0_told 79 = .ok (.getfield 15, 3) := by decide +kernel
theorem dX0_told_82 : decode cX0_told 82 = .ok (.ireturn, 1) := by decide +kernel
theorem dX0_told_83 : decode cX0_told 83 = .ok (.aload_n 0, 1) := by decide +kernel
theorem dX0_told_84 : decode cX0_told 84 = .ok (.getfield 33, 3) := by decide +kernel
theorem dX0_told_87 : decode cX0_told 87 = .ok (.ireturn, 1) := by decide +kernel
theorem dX0_told_88 : decode cX0_told 88 = .ok (.aload_n 0, 1) := by decide +kernel
theorem dX0_told_89 : decode cX0_told 89 = .ok (.getfield 36, 3) := by decide +kernel
theorem dX0_told_92 : decode cX0_told 92 = .ok (.ireturn, 1) := by decide +kernel
theorem dX0_goneAfter_0 : decode cX0_goneAfter 0 = .ok (.aload_n 0, 1) := by decide +kernel
theorem dX0_goneAfter_1 : decode cX0_goneAfter 1 = .ok (.getfield 21, 3) := by decide +kernel
theorem dX0_goneAfter_4 : decode cX0_goneAfter 4 = .ok (.ifCond .ne 7, 3) := by decide +kernel
theorem dX0_goneAfter_7 : decode cX0_goneAfter 7 = .ok (.iconst 0, 1) := by decide +kernel
theorem dX0_goneAfter_8 : decode cX0_goneAfter 8 = .ok (.goto 9, 3) := by decide +kernel
theorem dX0_goneAfter_11 : decode cX0_goneAfter 11 = .ok (.iload_n 1, 1) := by decide +kernel
theorem dX0_goneAfter_12 : decode cX0_goneAfter 12 = .ok (.aload_n 0, 1) := by decide +kernel
theorem dX0_goneAfter_13 : decode cX0_goneAfter 13 = .ok (.getfield 21, 3) := by decide +kernel
theorem dX0_goneAfter_16 : decode cX0_goneAfter 16 = .ok (.idiv, 1) := by decide +kernel
theorem dX0_goneAfter_17 : decode cX0_goneAfter 17 = .ok (.ireturn, 1) := by decide +kernel
theorem dX0_lostBy_0 : decode cX0_lostBy 0 = .ok (.iload_n 1, 1) := by decide +kernel
theorem dX0_lostBy_1 : decode cX0_lostBy 1 = .ok (.aload_n 0, 1) := by decide +kernel
theorem dX0_lostBy_2 : decode cX0_lostBy 2 = .ok (.getfield 33, 3) := by decide +kernel
theorem dX0_lostBy_5 : decode cX0_lostBy 5 = .ok (.if_icmp .ge 7, 3) := by decide +kernel
theorem dX0_lostBy_8 : decode cX0_lostBy 8 = .ok (.iconst 0, 1) := by decide +kernel
theorem dX0_lostBy_9 : decode cX0_lostBy 9 = .ok (.goto 20, 3) := by decide +kernel
theorem dX0_lostBy_12 : decode cX0_lostBy 12 = .ok (.aload_n 0, 1) := by decide +kernel
theorem dX0_lostBy_13 : decode cX0_lostBy 13 = .ok (.getfield 15, 3) := by decide +kernel
theorem dX0_lostBy_16 : decode cX0_lostBy 16 = .ok (.aload_n 0, 1) := by decide +kernel
theorem dX0_lostBy_17 : decode cX0_lostBy 17 = .ok (.iload_n 1, 1) := by decide +kernel
theorem dX0_lostBy_18 : decode cX0_lostBy 18 = .ok (.aload_n 0, 1) := by decide +kernel
theorem dX0_lostBy_19 : decode cX0_lostBy 19 = .ok (.getfield 33, 3) := by decide +kernel
theorem dX0_lostBy_22 : decode cX0_lostBy 22 = .ok (.isub, 1) := by decide +kernel
theorem dX0_lostBy_23 : decode cX0_lostBy 23 = .ok (.invokevirtual 39, 3) := by decide +kernel
theorem dX0_lostBy_26 : decode cX0_lostBy 26 = .ok (.invokestatic 43, 3) := by decide +kernel
theorem dX0_lostBy_29 : decode cX0_lostBy 29 = .ok (.ireturn, 1) := by decide +kernel
theorem dX0_leftOn_0 : decode cX0_leftOn 0 = .ok (.iload_n 1, 1) := by decide +kernel
theorem dX0_leftOn_1 : decode cX0_leftOn 1 = .ok (.aload_n 0, 1) := by decide +kernel
theorem dX0_leftOn_2 : decode cX0_leftOn 2 = .ok (.getfield 33, 3) := by decide +kernel
theorem dX0_leftOn_5 : decode cX0_leftOn 5 = .ok (.if_icmp .ge 7, 3) := by decide +kernel
theorem dX0_leftOn_8 : decode cX0_leftOn 8 = .ok (.iconst 0, 1) := by decide +kernel
theorem dX0_leftOn_9 : decode cX0_leftOn 9 = .ok (.goto 13, 3) := by decide +kernel
theorem dX0_leftOn_12 : decode cX0_leftOn 12 = .ok (.aload_n 0, 1) := by decide +kernel
theorem dX0_leftOn_13 : decode cX0_leftOn 13 = .ok (.getfield 15, 3) := by decide +kernel
theorem dX0_leftOn_16 : decode cX0_leftOn 16 = .ok (.aload_n 0, 1) := by decide +kernel
theorem dX0_leftOn_17 : decode cX0_leftOn 17 = .ok (.iload_n 1, 1) := by decide +kernel
theorem dX0_leftOn_18 : decode cX0_leftOn 18 = .ok (.invokevirtual 49, 3) := by decide +kernel
theorem dX0_leftOn_21 : decode cX0_leftOn 21 = .ok (.isub, 1) := by decide +kernel
theorem dX0_leftOn_22 : decode cX0_leftOn 22 = .ok (.ireturn, 1) := by decide +kernel
theorem dX0_fromHead_0 : decode cX0_fromHead 0 = .ok (.aload_n 0, 1) := by decide +kernel
theorem dX0_fromHead_1 : decode cX0_fromHead 1 = .ok (.getfield 24, 3) := by decide +kernel
theorem dX0_fromHead_4 : decode cX0_fromHead 4 = .ok (.ifCond .ne 5, 3) := by decide +kernel
theorem dX0_fromHead_7 : decode cX0_fromHead 7 = .ok (.iload_n 1, 1) := by decide +kernel
theorem dX0_fromHead_8 : decode cX0_fromHead 8 = .ok (.ireturn, 1) := by decide +kernel
theorem dX0_fromHead_9 : decode cX0_fromHead 9 = .ok (.aload_n 0, 1) := by decide +kernel
theorem dX0_fromHead_10 : decode cX0_fromHead 10 = .ok (.getfield 24, 3) := by decide +kernel
theorem dX0_fromHead_13 : decode cX0_fromHead 13 = .ok (.iconst 1, 1) := by decide +kernel
theorem dX0_fromHead_14 : decode cX0_fromHead 14 = .ok (.if_icmp .ne 7, 3) := by decide +kernel
theorem dX0_fromHead_17 : decode cX0_fromHead 17 = .ok (.iconst 0, 1) := by decide +kernel
theorem dX0_fromHead_18 : decode cX0_fromHead 18 = .ok (.goto 8, 3) := by decide +kernel
theorem dX0_fromHead_21 : decode cX0_fromHead 21 = .ok (.iload_n 1, 1) := by decide +kernel
theorem dX0_fromHead_22 : decode cX0_fromHead 22 = .ok (.iconst 1, 1) := by decide +kernel
theorem dX0_fromHead_23 : decode cX0_fromHead 23 = .ok (.iadd, 1) := by decide +kernel
theorem dX0_fromHead_24 : decode cX0_fromHead 24 = .ok (.iconst 2, 1) := by decide +kernel
theorem dX0_fromHead_25 : decode cX0_fromHead 25 = .ok (.idiv, 1) := by decide +kernel
theorem dX0_fromHead_26 : decode cX0_fromHead 26 = .ok (.ireturn, 1) := by decide +kernel
theorem dX0_keptAfter_0 : decode cX0_keptAfter 0 = .ok (.iconst 0, 1) := by decide +kernel
theorem dX0_keptAfter_1 : decode cX0_keptAfter 1 = .ok (.aload_n 0, 1) := by decide +kernel
theorem dX0_keptAfter_2 : decode cX0_keptAfter 2 = .ok (.getfield 18, 3) := by decide +kernel
theorem dX0_keptAfter_5 : decode cX0_keptAfter 5 = .ok (.aload_n 0, 1) := by decide +kernel
theorem dX0_keptAfter_6 : decode cX0_keptAfter 6 = .ok (.iload_n 1, 1) := by decide +kernel
theorem dX0_keptAfter_7 : decode cX0_keptAfter 7 = .ok (.invokevirtual 39, 3) := by decide +kernel
theorem dX0_keptAfter_10 : decode cX0_keptAfter 10 = .ok (.isub, 1) := by decide +kernel
theorem dX0_keptAfter_11 : decode cX0_keptAfter 11 = .ok (.invokestatic 52, 3) := by decide +kernel
theorem dX0_keptAfter_14 : decode cX0_keptAfter 14 = .ok (.ireturn, 1) := by decide +kernel
theorem dX0_firstDayWith_0 : decode cX0_firstDayWith 0 = .ok (.aload_n 0, 1) := by decide +kernel
theorem dX0_firstDayWith_1 : decode cX0_firstDayWith 1 = .ok (.invokevirtual 55, 3) := by decide +kernel
theorem dX0_firstDayWith_4 : decode cX0_firstDayWith 4 = .ok (.ifCond .ne 26, 3) := by decide +kernel
theorem dX0_firstDayWith_7 : decode cX0_firstDayWith 7 = .ok (.iload_n 1, 1) := by decide +kernel
theorem dX0_firstDayWith_8 : decode cX0_firstDayWith 8 = .ok (.aload_n 0, 1) := by decide +kernel
theorem dX0_firstDayWith_9 : decode cX0_firstDayWith 9 = .ok (.getfield 15, 3) := by decide +kernel
theorem dX0_firstDayWith_12 : decode cX0_firstDayWith 12 = .ok (.if_icmp .gt 18, 3) := by decide +kernel
theorem dX0_firstDayWith_15 : decode cX0_firstDayWith 15 = .ok (.aload_n 0, 1) := by decide +kernel
theorem dX0_firstDayWith_16 : decode cX0_firstDayWith 16 = .ok (.getfield 21, 3) := by decide +kernel
theorem dX0_firstDayWith_19 : decode cX0_firstDayWith 19 = .ok (.ifCond .ne 13, 3) := by decide +kernel
theorem dX0_firstDayWith_22 : decode cX0_firstDayWith 22 = .ok (.iload_n 1, 1) := by decide +kernel
theorem dX0_firstDayWith_23 : decode cX0_firstDayWith 23 = .ok (.aload_n 0, 1) := by decide +kernel
theorem dX0_firstDayWith_24 : decode cX0_firstDayWith 24 = .ok (.getfield 15, 3) := by decide +kernel
theorem dX0_firstDayWith_27 : decode cX0_firstDayWith 27 = .ok (.if_icmp .ge 5, 3) := by decide +kernel
theorem dX0_firstDayWith_30 : decode cX0_firstDayWith 30 = .ok (.iconst (-1), 1) := by decide +kernel
theorem dX0_firstDayWith_31 : decode cX0_firstDayWith 31 = .ok (.ireturn, 1) := by decide +kernel
theorem dX0_firstDayWith_32 : decode cX0_firstDayWith 32 = .ok (.aload_n 0, 1) := by decide +kernel
theorem dX0_firstDayWith_33 : decode cX0_firstDayWith 33 = .ok (.getfield 33, 3) := by decide +kernel
theorem dX0_firstDayWith_36 : decode cX0_firstDayWith 36 = .ok (.aload_n 0, 1) := by decide +kernel
theorem dX0_firstDayWith_37 : decode cX0_firstDayWith 37 = .ok (.getfield 15, 3) := by decide +kernel
theorem dX0_firstDayWith_40 : decode cX0_firstDayWith 40 = .ok (.iload_n 1, 1) := by decide +kernel
theorem dX0_firstDayWith_41 : decode cX0_firstDayWith 41 = .ok (.isub, 1) := by decide +kernel
theorem dX0_firstDayWith_42 : decode cX0_firstDayWith 42 = .ok (.aload_n 0, 1) := by decide +kernel
theorem dX0_firstDayWith_43 : decode cX0_firstDayWith 43 = .ok (.getfield 21, 3) := by decide +kernel
theorem dX0_firstDayWith_46 : decode cX0_firstDayWith 46 = .ok (.imul, 1) := by decide +kernel
theorem dX0_firstDayWith_47 : decode cX0_firstDayWith 47 = .ok (.iadd, 1) := by decide +kernel
theorem dX0_firstDayWith_48 : decode cX0_firstDayWith 48 = .ok (.ireturn, 1) := by decide +kernel
theorem dX0_lastDayWith_0 : decode cX0_lastDayWith 0 = .ok (.aload_n 0, 1) := by decide +kernel
theorem dX0_lastDayWith_1 : decode cX0_lastDayWith 1 = .ok (.iload_n 1, 1) := by decide +kernel
theorem dX0_lastDayWith_2 : decode cX0_lastDayWith 2 = .ok (.invokevirtual 59, 3) := by decide +kernel
theorem dX0_lastDayWith_5 : decode cX0_lastDayWith 5 = .ok (.istore_n 2, 1) := by decide +kernel
theorem dX0_lastDayWith_6 : decode cX0_lastDayWith 6 = .ok (.iload_n 2, 1) := by decide +kernel
theorem dX0_lastDayWith_7 : decode cX0_lastDayWith 7 = .ok (.iconst (-1), 1) := by decide +kernel
theorem dX0_lastDayWith_8 : decode cX0_lastDayWith 8 = .ok (.if_icmp .eq 14, 3) := by decide +kernel
theorem dX0_lastDayWith_11 : decode cX0_lastDayWith 11 = .ok (.aload_n 0, 1) := by decide +kernel
theorem dX0_lastDayWith_12 : decode cX0_lastDayWith 12 = .ok (.getfield 21, 3) := by decide +kernel
theorem dX0_lastDayWith_15 : decode cX0_lastDayWith 15 = .ok (.ifCond .eq 7, 3) := by decide +kernel
theorem dX0_lastDayWith_18 : decode cX0_lastDayWith 18 = .ok (.iload_n 1, 1) := by decide +kernel
theorem dX0_lastDayWith_19 : decode cX0_lastDayWith 19 = .ok (.ifCond .ne 7, 3) := by decide +kernel
theorem dX0_lastDayWith_22 : decode cX0_lastDayWith 22 = .ok (.iconst (-1), 1) := by decide +kernel
theorem dX0_lastDayWith_23 : decode cX0_lastDayWith 23 = .ok (.goto 11, 3) := by decide +kernel
theorem dX0_lastDayWith_26 : decode cX0_lastDayWith 26 = .ok (.iload_n 2, 1) := by decide +kernel
theorem dX0_lastDayWith_27 : decode cX0_lastDayWith 27 = .ok (.aload_n 0, 1) := by decide +kernel
theorem dX0_lastDayWith_28 : decode cX0_lastDayWith 28 = .ok (.getfield 21, 3) := by decide +kernel
theorem dX0_lastDayWith_31 : decode cX0_lastDayWith 31 = .ok (.iadd, 1) := by decide +kernel
theorem dX0_lastDayWith_32 : decode cX0_lastDayWith 32 = .ok (.iconst 1, 1) := by decide +kernel
theorem dX0_lastDayWith_33 : decode cX0_lastDayWith 33 = .ok (.isub, 1) := by decide +kernel
theorem dX0_lastDayWith_34 : decode cX0_lastDayWith 34 = .ok (.ireturn, 1) := by decide +kernel
theorem dX1_init_0 : decode cX1_init 0 = .ok (.aload_n 0, 1) := by decide +kernel
theorem dX1_init_1 : decode cX1_init 1 = .ok (.invokespecial 3, 3) := by decide +kernel
theorem dX1_init_4 : decode cX1_init 4 = .ok (.aload_n 0, 1) := by decide +kernel
theorem dX1_init_5 : decode cX1_init 5 = .ok (.bipush 12, 2) := by decide +kernel
theorem dX1_init_7 : decode cX1_init 7 = .ok (.newarray .int, 2) := by decide +kernel
theorem dX1_init_9 : decode cX1_init 9 = .ok (.putfield 9, 3) := by decide +kernel
theorem dX1_init_12 : decode cX1_init 12 = .ok (.aload_n 0, 1) := by decide +kernel
theorem dX1_init_13 : decode cX1_init 13 = .ok (.bipush 12, 2) := by decide +kernel
theorem dX1_init_15 : decode cX1_init 15 = .ok (.newarray .int, 2) := by decide +kernel
theorem dX1_init_17 : decode cX1_init 17 = .ok (.putfield 15, 3) := by decide +kernel
theorem dX1_init_20 : decode cX1_init 20 = .ok (.aload_n 0, 1) := by decide +kernel
theorem dX1_init_21 : decode cX1_init 21 = .ok (.bipush 12, 2) := by decide +kernel
theorem dX1_init_23 : decode cX1_init 23 = .ok (.newarray .int, 2) := by decide +kernel
theorem dX1_init_25 : decode cX1_init 25 = .ok (.putfield 18, 3) := by decide +kernel
theorem dX1_init_28 : decode cX1_init 28 = .ok (.return_, 1) := by decide +kernel
theorem dX1_add_0 : decode cX1_add 0 = .ok (.aload_n 0, 1) := by decide +kernel
theorem dX1_add_1 : decode cX1_add 1 = .ok (.getfield 21, 3) := by decide +kernel
theorem dX1_add_4 : decode cX1_add 4 = .ok (.bipush 12, 2) := by decide +kernel
theorem dX1_add_6 : decode cX1_add 6 = .ok (.if_icmp .ge 43, 3) := by decide +kernel
theorem dX1_add_9 : decode cX1_add 9 = .ok (.aload_n 0, 1) := by decide +kernel
theorem dX1_add_10 : decode cX1_add 10 = .ok (.getfield 9, 3) := by decide +kernel
theorem dX1_add_13 : decode cX1_add 13 = .ok (.aload_n 0, 1) := by decide +kernel
theorem dX1_add_14 : decode cX1_add 14 = .ok (.getfield 21, 3) := by decide +kernel
theorem dX1_add_17 : decode cX1_add 17 = .ok (.iload_n 1, 1) := by decide +kernel
theorem dX1_add_18 : decode cX1_add 18 = .ok (.iastore, 1) := by decide +kernel
theorem dX1_add_19 : decode cX1_add 19 = .ok (.aload_n 0, 1) := by decide +kernel
theorem dX1_add_20 : decode cX1_add 20 = .ok (.getfield 15, 3) := by decide +kernel
theorem dX1_add_23 : decode cX1_add 23 = .ok (.aload_n 0, 1) := by decide +kernel
theorem dX1_add_24 : decode cX1_add 24 = .ok (.getfield 21, 3) := by decide +kernel
theorem dX1_add_27 : decode cX1_add 27 = .ok (.iload_n 2, 1) := by decide +kernel
theorem dX1_add_28 : decode cX1_add 28 = .ok (.iastore, 1) := by decide +kernel
theorem dX1_add_29 : decode cX1_add 29 = .ok (.aload_n 0, 1) := by decide +kernel
theorem dX1_add_30 : decode cX1_add 30 = .ok (.getfield 18, 3) := by decide +kernel
theorem dX1_add_33 : decode cX1_add 33 = .ok (.aload_n 0, 1) := by decide +kernel
theorem dX1_add_34 : decode cX1_add 34 = .ok (.getfield 21, 3) := by decide +kernel
theorem dX1_add_37 : decode cX1_add 37 = .ok (.iload_n 3, 1) := by decide +kernel
theorem dX1_add_38 : decode cX1_add 38 = .ok (.iastore, 1) := by decide +kernel
theorem dX1_add_39 : decode cX1_add 39 = .ok (.aload_n 0, 1) := by decide +kernel
theorem dX1_add_40 : decode cX1_add 40 = .ok (.dup, 1) := by decide +kernel
theorem dX1_add_41 : decode cX1_add 41 = .ok (.getfield 21, 3) := by decide +kernel
theorem dX1_add_44 : decode cX1_add 44 = .ok (.iconst 1, 1) := by decide +kernel
theorem dX1_add_45 : decode cX1_add 45 = .ok (.iadd, 1) := by decide +kernel
theorem dX1_add_46 : decode cX1_add 46 = .ok (.putfield 21, 3) := by decide +kernel
theorem dX1_add_49 : decode cX1_add 49 = .ok (.return_, 1) := by decide +kernel
theorem dX1_mix_0 : decode cX1_mix 0 = .ok (.iconst 0, 1) := by decide +kernel
theorem dX1_mix_1 : decode cX1_mix 1 = .ok (.istore_n 3, 1) := by decide +kernel
theorem dX1_mix_2 : decode cX1_mix 2 = .ok (.iload_n 3, 1) := by decide +kernel
theorem dX1_mix_3 : decode cX1_mix 3 = .ok (.aload_n 0, 1) := by decide +kernel
theorem dX1_mix_4 : decode cX1_mix 4 = .ok (.getfield 21, 3) := by decide +kernel
theorem dX1_mix_7 : decode cX1_mix 7 = .ok (.if_icmp .ge 47, 3) := by decide +kernel
theorem dX1_mix_10 : decode cX1_mix 10 = .ok (.aload_n 0, 1) := by decide +kernel
theorem dX1_mix_11 : decode cX1_mix 11 = .ok (.getfield 9, 3) := by decide +kernel
theorem dX1_mix_14 : decode cX1_mix 14 = .ok (.iload_n 3, 1) := by decide +kernel
theorem dX1_mix_15 : decode cX1_mix 15 = .ok (.iaload, 1) := by decide +kernel
theorem dX1_mix_16 : decode cX1_mix 16 = .ok (.iload_n 1, 1) := by decide +kernel
theorem dX1_mix_17 : decode cX1_mix 17 = .ok (.invokestatic 25, 3) := by decide +kernel
theorem dX1_mix_20 : decode cX1_mix 20 = .ok (.ifCond .eq 28, 3) := by decide +kernel
theorem dX1_mix_23 : decode cX1_mix 23 = .ok (.aload_n 0, 1) := by decide +kernel
theorem dX1_mix_24 : decode cX1_mix 24 = .ok (.getfield 15, 3) := by decide +kernel
theorem dX1_mix_27 : decode cX1_mix 27 = .ok (.iload_n 3, 1) := by decide +kernel
theorem dX1_mix_28 : decode cX1_mix 28 = .ok (.iaload, 1) := by decide +kernel
theorem dX1_mix_29 : decode cX1_mix 29 = .ok (.iload_n 2, 1) := by decide +kernel
theorem dX1_mix_30 : decode cX1_mix 30 = .ok (.invokestatic 25, 3) := by decide +kernel
theorem dX1_mix_33 : decode cX1_mix 33 = .ok (.ifCond .eq 15, 3) := by decide +kernel
theorem dX1_mix_36 : decode cX1_mix 36 = .ok (.aload_n 0, 1) := by decide +kernel
theorem dX1_mix_37 : decode cX1_mix 37 = .ok (.getfield 18, 3) := by decide +kernel
theorem dX1_mix_40 : decode cX1_mix 40 = .ok (.iload_n 3, 1) := by decide +kernel
theorem dX1_mix_41 : decode cX1_mix 41 = .ok (.iaload, 1) := by decide +kernel
theorem dX1_mix_42 : decode cX1_mix 42 = .ok (.iload_n 1, 1) := by decide +kernel
theorem dX1_mix_43 : decode cX1_mix 43 = .ok (.iload_n 2, 1) := by decide +kernel
theorem dX1_mix_44 : decode cX1_mix 44 = .ok (.invokestatic 29, 3) := by decide +kernel
theorem dX1_mix_47 : decode cX1_mix 47 = .ok (.ireturn, 1) := by decide +kernel
theorem dX1_mix_48 : decode cX1_mix 48 = .ok (.iinc 3 1, 3) := by decide +kernel
theorem dX1_mix_51 : decode cX1_mix 51 = .ok (.goto (-49), 3) := by decide +kernel
theorem dX1_mix_54 : decode cX1_mix 54 = .ok (.iload_n 1, 1) := by decide +kernel
theorem dX1_mix_55 : decode cX1_mix 55 = .ok (.iload_n 2, 1) := by decide +kernel
theorem dX1_mix_56 : decode cX1_mix 56 = .ok (.if_icmp .eq 7, 3) := by decide +kernel
theorem dX1_mix_59 : decode cX1_mix 59 = .ok (.iload_n 2, 1) := by decide +kernel
theorem dX1_mix_60 : decode cX1_mix 60 = .ok (.ifCond .ne 5, 3) := by decide +kernel
theorem dX1_mix_63 : decode cX1_mix 63 = .ok (.iload_n 1, 1) := by decide +kernel
theorem dX1_mix_64 : decode cX1_mix 64 = .ok (.ireturn, 1) := by decide +kernel
theorem dX1_mix_65 : decode cX1_mix 65 = .ok (.iload_n 1, 1) := by decide +kernel
theorem dX1_mix_66 : decode cX1_mix 66 = .ok (.ifCond .ne 7, 3) := by decide +kernel
theorem dX1_mix_69 : decode cX1_mix 69 = .ok (.iload_n 2, 1) := by decide +kernel
theorem dX1_mix_70 : decode cX1_mix 70 = .ok (.goto 4, 3) := by decide +kernel
theorem dX1_mix_73 : decode cX1_mix 73 = .ok (.iconst 0, 1) := by decide +kernel
theorem dX1_mix_74 : decode cX1_mix 74 = .ok (.ireturn, 1) := by decide +kernel
theorem dX1_suits_0 : decode cX1_suits 0 = .ok (.iload_n 0, 1) := by decide +kernel
theorem dX1_suits_1 : decode cX1_suits 1 = .ok (.bipush 27, 2) := by decide +kernel
theorem dX1_suits_3 : decode cX1_suits 3 = .ok (.if_icmp .eq 8, 3) := by decide +kernel
theorem dX1_suits_6 : decode cX1_suits 6 = .ok (.iload_n 0, 1) := by decide +kernel
theorem dX1_suits_7 : decode cX1_suits 7 = .ok (.iload_n 1, 1) := by decide +kernel
theorem dX1_suits_8 : decode cX1_suits 8 = .ok (.if_icmp .ne 7, 3) := by decide +kernel
theorem dX1_suits_11 : decode cX1_suits 11 = .ok (.iconst 1, 1) := by decide +kernel
theorem dX1_suits_12 : decode cX1_suits 12 = .ok (.goto 4, 3) := by decide +kernel
theorem dX1_suits_15 : decode cX1_suits 15 = .ok (.iconst 0, 1) := by decide +kernel
theorem dX1_suits_16 : decode cX1_suits 16 = .ok (.ireturn, 1) := by decide +kernel
theorem dX1_given_0 : decode cX1_given 0 = .ok (.iload_n 0, 1) := by decide +kernel
theorem dX1_given_1 : decode cX1_given 1 = .ok (.bipush 27, 2) := by decide +kernel
theorem dX1_given_3 : decode cX1_given 3 = .ok (.if_icmp .ne 5, 3) := by decide +kernel
theorem dX1_given_6 : decode cX1_given 6 = .ok (.iload_n 1, 1) := by decide +kernel
theorem dX1_given_7 : decode cX1_given 7 = .ok (.ireturn, 1) := by decide +kernel
theorem dX1_given_8 : decode cX1_given 8 = .ok (.iload_n 0, 1) := by decide +kernel
theorem dX1_given_9 : decode cX1_given 9 = .ok (.bipush 28, 2) := by decide +kernel
theorem dX1_given_11 : decode cX1_given 11 = .ok (.if_icmp .ne 7, 3) := by decide +kernel
theorem dX1_given_14 : decode cX1_given 14 = .ok (.iload_n 2, 1) := by decide +kernel
theorem dX1_given_15 : decode cX1_given 15 = .ok (.goto 4, 3) := by decide +kernel
theorem dX1_given_18 : decode cX1_given 18 = .ok (.iload_n 0, 1) := by decide +kernel
theorem dX1_given_19 : decode cX1_given 19 = .ok (.ireturn, 1) := by decide +kernel
theorem dX1_partners_0 : decode cX1_partners 0 = .ok (.iconst 0, 1) := by decide +kernel
theorem dX1_partners_1 : decode cX1_partners 1 = .ok (.istore_n 3, 1) := by decide +kernel
theorem dX1_partners_2 : decode cX1_partners 2 = .ok (.iconst 0, 1) := by decide +kernel
theorem dX1_partners_3 : decode cX1_partners 3 = .ok (.istore 4, 2) := by decide +kernel
theorem dX1_partners_5 : decode cX1_partners 5 = .ok (.iload 4, 2) := by decide +kernel
theorem dX1_partners_7 : decode cX1_partners 7 = .ok (.bipush 26, 2) := by decide +kernel
theorem dX1_partners_9 : decode cX1_partners 9 = .ok (.if_icmp .gt 27, 3) := by decide +kernel
theorem dX1_partners_12 : decode cX1_partners 12 = .ok (.aload_n 0, 1) := by decide +kernel
theorem dX1_partners_13 : decode cX1_partners 13 = .ok (.iload_n 1, 1) := by decide +kernel
theorem dX1_partners_14 : decode cX1_partners 14 = .ok (.iload 4, 2) := by decide +kernel
theorem dX1_partners_16 : decode cX1_partners 16 = .ok (.invokevirtual 33, 3) := by decide +kernel
theorem dX1_partners_19 : decode cX1_partners 19 = .ok (.iload_n 2, 1) := by decide +kernel
theorem dX1_partners_20 : decode cX1_partners 20 = .ok (.if_icmp .ne 10, 3) := by decide +kernel
theorem dX1_partners_23 : decode cX1_partners 23 = .ok (.iload_n 3, 1) := by decide +kernel
theorem dX1_partners_24 : decode cX1_partners 24 = .ok (.iconst 1, 1) := by decide +kernel
theorem dX1_partners_25 : decode cX1_partners 25 = .ok (.iload 4, 2) := by decide +kernel
theorem dX1_partners_27 : decode cX1_partners 27 = .ok (.ishl, 1) := by decide +kernel
theorem dX1_partners_28 : decode cX1_partners 28 = .ok (.ior, 1) := by decide +kernel
theorem dX1_partners_29 : decode cX1_partners 29 = .ok (.istore_n 3, 1) := by decide +kernel
theorem dX1_partners_30 : decode cX1_partners 30 = .ok (.iinc 4 1, 3) := by decide +kernel
theorem dX1_partners_33 : decode cX1_partners 33 = .ok (.goto (-28), 3) := by decide +kernel
theorem dX1_partners_36 : decode cX1_partners 36 = .ok (.iload_n 3, 1) := by decide +kernel
theorem dX1_partners_37 : decode cX1_partners 37 = .ok (.ireturn, 1) := by decide +kernel
theorem dX2_init_0 : decode cX2_init 0 = .ok (.aload_n 0, 1) := by decide +kernel
theorem dX2_init_1 : decode cX2_init 1 = .ok (.invokespecial 3, 3) := by decide +kernel
theorem dX2_init_4 : decode cX2_init 4 = .ok (.aload_n 0, 1) := by decide +kernel
theorem dX2_init_5 : decode cX2_init 5 = .ok (.aload_n 1, 1) := by decide +kernel
theorem dX2_init_6 : decode cX2_init 6 = .ok (.putfield 9, 3) := by decide +kernel
theorem dX2_init_9 : decode cX2_init 9 = .ok (.return_, 1) := by decide +kernel
theorem dX2_readLaw_0 : decode cX2_readLaw 0 = .ok (.new 15, 3) := by decide +kernel
theorem dX2_readLaw_3 : decode cX2_readLaw 3 = .ok (.dup, 1) := by decide +kernel
theorem dX2_readLaw_4 : decode cX2_readLaw 4 = .ok (.invokespecial 17, 3) := by decide +kernel
theorem dX2_readLaw_7 : decode cX2_readLaw 7 = .ok (.astore_n 2, 1) := by decide +kernel
theorem dX2_readLaw_8 : decode cX2_readLaw 8 = .ok (.aload_n 0, 1) := by decide +kernel
theorem dX2_readLaw_9 : decode cX2_readLaw 9 = .ok (.getfield 9, 3) := by decide +kernel
theorem dX2_readLaw_12 : decode cX2_readLaw 12 = .ok (.iload_n 1, 1) := by decide +kernel
theorem dX2_readLaw_13 : decode cX2_readLaw 13 = .ok (.invokevirtual 18, 3) := by decide +kernel
theorem dX2_readLaw_16 : decode cX2_readLaw 16 = .ok (.iconst 0, 1) := by decide +kernel
theorem dX2_readLaw_17 : decode cX2_readLaw 17 = .ok (.istore_n 3, 1) := by decide +kernel
theorem dX2_readLaw_18 : decode cX2_readLaw 18 = .ok (.iload_n 3, 1) := by decide +kernel
theorem dX2_readLaw_19 : decode cX2_readLaw 19 = .ok (.iload_n 1, 1) := by decide +kernel
theorem dX2_readLaw_20 : decode cX2_readLaw 20 = .ok (.if_icmp .gt 34, 3) := by decide +kernel
theorem dX2_readLaw_23 : decode cX2_readLaw 23 = .ok (.aload_n 0, 1) := by decide +kernel
theorem dX2_readLaw_24 : decode cX2_readLaw 24 = .ok (.getfield 9, 3) := by decide +kernel
theorem dX2_readLaw_27 : decode cX2_readLaw 27 = .ok (.invokevirtual 24, 3) := by decide +kernel
theorem dX2_readLaw_30 : decode cX2_readLaw 30 = .ok (.ifCond .ne 24, 3) := by decide +kernel
theorem dX2_readLaw_33 : decode cX2_readLaw 33 = .ok (.aload_n 0, 1) := by decide +kernel
theorem dX2_readLaw_34 : decode cX2_readLaw 34 = .ok (.getfield 9, 3) := by decide +kernel
theorem dX2_readLaw_37 : decode cX2_readLaw 37 = .ok (.invokevirtual 28, 3) := by decide +kernel
theorem dX2_readLaw_40 : decode cX2_readLaw 40 = .ok (.ifCond .ne 14, 3) := by decide +kernel
theorem dX2_readLaw_43 : decode cX2_readLaw 43 = .ok (.aload_n 0, 1) := by decide +kernel
theorem dX2_readLaw_44 : decode cX2_readLaw 44 = .ok (.aload_n 2, 1) := by decide +kernel
theorem dX2_readLaw_45 : decode cX2_readLaw 45 = .ok (.invokevirtual 31, 3) := by decide +kernel
theorem dX2_readLaw_48 : decode cX2_readLaw 48 = .ok (.iinc 3 1, 3) := by decide +kernel
theorem dX2_readLaw_51 : decode cX2_readLaw 51 = .ok (.goto (-33), 3) := by decide +kernel
theorem dX2_readLaw_54 : decode cX2_readLaw 54 = .ok (.aload_n 2, 1) := by decide +kernel
theorem dX2_readLaw_55 : decode cX2_readLaw 55 = .ok (.areturn, 1) := by decide +kernel
theorem dX2_readRule_0 : decode cX2_readRule 0 = .ok (.aload_n 1, 1) := by decide +kernel
theorem dX2_readRule_1 : decode cX2_readRule 1 = .ok (.getfield 35, 3) := by decide +kernel
theorem dX2_readRule_4 : decode cX2_readRule 4 = .ok (.bipush 12, 2) := by decide +kernel
theorem dX2_readRule_6 : decode cX2_readRule 6 = .ok (.if_icmp .lt 24, 3) := by decide +kernel
theorem dX2_readRule_9 : decode cX2_readRule 9 = .ok (.aload_n 0, 1) := by decide +kernel
theorem dX2_readRule_10 : decode cX2_readRule 10 = .ok (.getfield 9, 3) := by decide +kernel
theorem dX2_readRule_13 : decode cX2_readRule 13 = .ok (.ldc 39, 2) := by decide +kernel
theorem dX2_readRule_15 : decode cX2_readRule 15 = .ok (.invokevirtual 41, 3) := by decide +kernel
theorem dX2_readRule_18 : decode cX2_readRule 18 = .ok (.ifCond .eq 12, 3) := by decide +kernel
theorem dX2_readRule_21 : decode cX2_readRule 21 = .ok (.aload_n 0, 1) := by decide +kernel
theorem dX2_readRule_22 : decode cX2_readRule 22 = .ok (.getfield 9, 3) := by decide +kernel
theorem dX2_readRule_25 : decode cX2_readRule 25 = .ok (.bipush 6, 2) := by decide +kernel
theorem dX2_readRule_27 : decode cX2_readRule 27 = .ok (.invokevirtual 45, 3) := by decide +kernel
theorem dX2_readRule_30 : decode cX2_readRule 30 = .ok (.aload_n 0, 1) := by decide +kernel
theorem dX2_readRule_31 : decode cX2_readRule 31 = .ok (.getfield 9, 3) := by decide +kernel
theorem dX2_readRule_34 : decode cX2_readRule 34 = .ok (.ldc 39, 2) := by decide +kernel
theorem dX2_readRule_36 : decode cX2_readRule 36 = .ok (.invokevirtual 48, 3) := by decide +kernel
theorem dX2_readRule_39 : decode cX2_readRule 39 = .ok (.aload_n 0, 1) := by decide +kernel
theorem dX2_readRule_40 : decode cX2_readRule 40 = .ok (.invokevirtual 52, 3) := by decide +kernel
theorem dX2_readRule_43 : decode cX2_readRule 43 = .ok (.istore_n 2, 1) := by decide +kernel
theorem dX2_readRule_44 : decode cX2_readRule 44 = .ok (.aload_n 0, 1) := by decide +kernel
theorem dX2_readRule_45 : decode cX2_readRule 45 = .ok (.getfield 9, 3) := by decide +kernel
theorem dX2_readRule_48 : decode cX2_readRule 48 = .ok (.ldc 56, 2) := by decide +kernel
theorem dX2_readRule_50 : decode cX2_readRule 50 = .ok (.invokevirtual 48, 3) := by decide +kernel
theorem dX2_readRule_53 : decode cX2_readRule 53 = .ok (.aload_n 0, 1) := by decide +kernel
theorem dX2_readRule_54 : decode cX2_readRule 54 = .ok (.invokevirtual 52, 3) := by decide +kernel
theorem dX2_readRule_57 : decode cX2_readRule 57 = .ok (.istore_n 3, 1) := by decide +kernel
theorem dX2_readRule_58 : decode cX2_readRule 58 = .ok (.aload_n 0, 1) := by decide +kernel
theorem dX2_readRule_59 : decode cX2_readRule 59 = .ok (.getfield 9, 3) := by decide +kernel
theorem dX2_readRule_62 : decode cX2_readRule 62 = .ok (.ldc 58, 2) := by decide +kernel
theorem dX2_readRule_64 : decode cX2_readRule 64 = .ok (.invokevirtual 48, 3) := by decide +kernel
theorem dX2_readRule_67 : decode cX2_readRule 67 = .ok (.aload_n 0, 1) := by decide +kernel
theorem dX2_readRule_68 : decode cX2_readRule 68 = .ok (.invokevirtual 60, 3) := by decide +kernel
theorem dX2_readRule_71 : decode cX2_readRule 71 = .ok (.istore 4, 2) := by decide +kernel
theorem dX2_readRule_73 : decode cX2_readRule 73 = .ok (.aload_n 0, 1) := by decide +kernel
theorem dX2_readRule_74 : decode cX2_readRule 74 = .ok (.getfield 9, 3) := by decide +kernel
theorem dX2_readRule_77 : decode cX2_readRule 77 = .ok (.invokevirtual 63, 3) := by decide +kernel
theorem dX2_readRule_80 : decode cX2_readRule 80 = .ok (.aload_n 1, 1) := by decide +kernel
theorem dX2_readRule_81 : decode cX2_readRule 81 = .ok (.iload_n 2, 1) := by decide +kernel
theorem dX2_readRule_82 : decode cX2_readRule 82 = .ok (.iload_n 3, 1) := by decide +kernel
theorem dX2_readRule_83 : decode cX2_readRule 83 = .ok (.iload 4, 2) := by decide +kernel
theorem dX2_readRule_85 : decode cX2_readRule 85 = .ok (.invokevirtual 66, 3) := by decide +kernel
theorem dX2_readRule_88 : decode cX2_readRule 88 = .ok (.return_, 1) := by decide +kernel
theorem dX2_takeKind_0 : decode cX2_takeKind 0 = .ok (.aload_n 0, 1) := by decide +kernel
theorem dX2_takeKind_1 : decode cX2_takeKind 1 = .ok (.getfield 9, 3) := by decide +kernel
theorem dX2_takeKind_4 : decode cX2_takeKind 4 = .ok (.ldc 70, 2) := by decide +kernel
theorem dX2_takeKind_6 : decode cX2_takeKind 6 = .ok (.invokevirtual 72, 3) := by decide +kernel
theorem dX2_takeKind_9 : decode cX2_takeKind 9 = .ok (.ifCond .eq 8, 3) := by decide +kernel
theorem dX2_takeKind_12 : decode cX2_takeKind 12 = .ok (.bipush 27, 2) := by decide +kernel
theorem dX2_takeKind_14 : decode cX2_takeKind 14 = .ok (.goto 7, 3) := by decide +kernel
theorem dX2_takeKind_17 : decode cX2_takeKind 17 = .ok (.aload_n 0, 1) := by decide +kernel
theorem dX2_takeKind_18 : decode cX2_takeKind 18 = .ok (.invokevirtual 75, 3) := by decide +kernel
theorem dX2_takeKind_21 : decode cX2_takeKind 21 = .ok (.ireturn, 1) := by decide +kernel
theorem dX2_takeGift_0 : decode cX2_takeGift 0 = .ok (.aload_n 0, 1) := by decide +kernel
theorem dX2_takeGift_1 : decode cX2_takeGift 1 = .ok (.getfield 9, 3) := by decide +kernel
theorem dX2_takeGift_4 : decode cX2_takeGift 4 = .ok (.ldc 78, 2) := by decide +kernel
theorem dX2_takeGift_6 : decode cX2_takeGift 6 = .ok (.invokevirtual 72, 3) := by decide +kernel
theorem dX2_takeGift_9 : decode cX2_takeGift 9 = .ok (.ifCond .eq 6, 3) := by decide +kernel
theorem dX2_takeGift_12 : decode cX2_takeGift 12 = .ok (.bipush 27, 2) := by decide +kernel
theorem dX2_takeGift_14 : decode cX2_takeGift 14 = .ok (.ireturn, 1) := by decide +kernel
theorem dX2_takeGift_15 : decode cX2_takeGift 15 = .ok (.aload_n 0, 1) := by decide +kernel
theorem dX2_takeGift_16 : decode cX2_takeGift 16 = .ok (.getfield 9, 3) := by decide +kernel
theorem dX2_takeGift_19 : decode cX2_takeGift 19 = .ok (.ldc 80, 2) := by decide +kernel
theorem dX2_takeGift_21 : decode cX2_takeGift 21 = .ok (.invokevirtual 72, 3) := by decide +kernel
theorem dX2_takeGift_24 : decode cX2_takeGift 24 = .ok (.ifCond .eq 8, 3) := by decide +kernel
theorem dX2_takeGift_27 : decode cX2_takeGift 27 = .ok (.bipush 28, 2) := by decide +kernel
theorem dX2_takeGift_29 : decode cX2_takeGift 29 = .ok (.goto 7, 3) := by decide +kernel
theorem dX2_takeGift_32 : decode cX2_takeGift 32 = .ok (.aload_n 0, 1) := by decide +kernel
theorem dX2_takeGift_33 : decode cX2_takeGift 33 = .ok (.invokevirtual 75, 3) := by decide +kernel
theorem dX2_takeGift_36 : decode cX2_takeGift 36 = .ok (.ireturn, 1) := by decide +kernel
theorem dX2_takeLetterOrRest_0 : decode cX2_takeLetterOrRest 0 = .ok (.aload_n 0, 1) := by decide +kernel
theorem dX2_takeLetterOrRest_1 : decode cX2_takeLetterOrRest 1 = .ok (.getfield 9, 3) := by decide +kernel
theorem dX2_takeLetterOrRest_4 : decode cX2_takeLetterOrRest 4 = .ok (.ldc 82, 2) := by decide +kernel
theorem dX2_takeLetterOrRest_6 : decode cX2_takeLetterOrRest 6 = .ok (.invokevirtual 72, 3) := by decide +kernel
theorem dX2_takeLetterOrRest_9 : decode cX2_takeLetterOrRest 9 = .ok (.ifCond .eq 5, 3) := by decide +kernel
theorem dX2_takeLetterOrRest_12 : decode cX2_takeLetterOrRest 12 = .ok (.iconst 0, 1) := by decide +kernel
theorem dX2_takeLetterOrRest_13 : decode cX2_takeLetterOrRest 13 = .ok (.ireturn, 1) := by decide +kernel
theorem dX2_takeLetterOrRest_14 : decode cX2_takeLetterOrRest 14 = .ok (.aload_n 0, 1) := by decide +kernel
theorem dX2_takeLetterOrRest_15 : decode cX2_takeLetterOrRest 15 = .ok (.getfield 9, 3) := by decide +kernel
theorem dX2_takeLetterOrRest_18 : decode cX2_takeLetterOrRest 18 = .ok (.iconst 1, 1) := by decide +kernel
theorem dX2_takeLetterOrRest_19 : decode cX2_takeLetterOrRest 19 = .ok (.invokevirtual 84, 3) := by decide +kernel
theorem dX2_takeLetterOrRest_22 : decode cX2_takeLetterOrRest 22 = .ok (.ifCond .ne 11, 3) := by decide +kernel
theorem dX2_takeLetterOrRest_25 : decode cX2_takeLetterOrRest 25 = .ok (.aload_n 0, 1) := by decide +kernel
theorem dX2_takeLetterOrRest_26 : decode cX2_takeLetterOrRest 26 = .ok (.getfield 9, 3) := by decide +kernel
theorem dX2_takeLetterOrRest_29 : decode cX2_takeLetterOrRest 29 = .ok (.iconst 2, 1) := by decide +kernel
theorem dX2_takeLetterOrRest_30 : decode cX2_takeLetterOrRest 30 = .ok (.invokevirtual 45, 3) := by decide +kernel
theorem dX2_takeLetterOrRest_33 : decode cX2_takeLetterOrRest 33 = .ok (.aload_n 0, 1) := by decide +kernel
theorem dX2_takeLetterOrRest_34 : decode cX2_takeLetterOrRest 34 = .ok (.getfield 9, 3) := by decide +kernel
theorem dX2_takeLetterOrRest_37 : decode cX2_takeLetterOrRest 37 = .ok (.invokevirtual 24, 3) := by decide +kernel
theorem dX2_takeLetterOrRest_40 : decode cX2_takeLetterOrRest 40 = .ok (.ifCond .eq 5, 3) := by decide +kernel
theorem dX2_takeLetterOrRest_43 : decode cX2_takeLetterOrRest 43 = .ok (.iconst 0, 1) := by decide +kernel
theorem dX2_takeLetterOrRest_44 : decode cX2_takeLetterOrRest 44 = .ok (.ireturn, 1) := by decide +kernel
theorem dX2_takeLetterOrRest_45 : decode cX2_takeLetterOrRest 45 = .ok (.aload_n 0, 1) := by decide +kernel
theorem dX2_takeLetterOrRest_46 : decode cX2_takeLetterOrRest 46 = .ok (.getfield 9, 3) := by decide +kernel
theorem dX2_takeLetterOrRest_49 : decode cX2_takeLetterOrRest 49 = .ok (.iconst 0, 1) := by decide +kernel
theorem dX2_takeLetterOrRest_50 : decode cX2_takeLetterOrRest 50 = .ok (.invokevirtual 88, 3) := by decide +kernel
theorem dX2_takeLetterOrRest_53 : decode cX2_takeLetterOrRest 53 = .ok (.istore_n 1, 1) := by decide +kernel
theorem dX2_takeLetterOrRest_54 : decode cX2_takeLetterOrRest 54 = .ok (.aload_n 0, 1) := by decide +kernel
theorem dX2_takeLetterOrRest_55 : decode cX2_takeLetterOrRest 55 = .ok (.getfield 9, 3) := by decide +kernel
theorem dX2_takeLetterOrRest_58 : decode cX2_takeLetterOrRest 58 = .ok (.invokevirtual 92, 3) := by decide +kernel
theorem dX2_takeLetterOrRest_61 : decode cX2_takeLetterOrRest 61 = .ok (.iload_n 1, 1) := by decide +kernel
theorem dX2_takeLetterOrRest_62 : decode cX2_takeLetterOrRest 62 = .ok (.ireturn, 1) := by decide +kernel
theorem dX3_init_0 : decode cX3_init 0 = .ok (.aload_n 0, 1) := by decide +kernel
theorem dX3_init_1 : decode cX3_init 1 = .ok (.invokespecial 1, 3) := by decide +kernel
theorem dX3_init_4 : decode cX3_init 4 = .ok (.aload_n 0, 1) := by decide +kernel
theorem dX3_init_5 : decode cX3_init 5 = .ok (.aload_n 1, 1) := by decide +kernel
theorem dX3_init_6 : decode cX3_init 6 = .ok (.putfield 7, 3) := by decide +kernel
theorem dX3_init_9 : decode cX3_init 9 = .ok (.aload_n 0, 1) := by decide +kernel
theorem dX3_init_10 : decode cX3_init 10 = .ok (.aload_n 2, 1) := by decide +kernel
theorem dX3_init_11 : decode cX3_init 11 = .ok (.putfield 13, 3) := by decide +kernel
theorem dX3_init_14 : decode cX3_init 14 = .ok (.return_, 1) := by decide +kernel
theorem dX4_init_0 : decode cX4_init 0 = .ok (.aload_n 0, 1) := by decide +kernel
theorem dX4_init_1 : decode cX4_init 1 = .ok (.invokespecial 3, 3) := by decide +kernel
theorem dX4_init_4 : decode cX4_init 4 = .ok (.aload_n 0, 1) := by decide +kernel
theorem dX4_init_5 : decode cX4_init 5 = .ok (.bipush 6, 2) := by decide +kernel
theorem dX4_init_7 : decode cX4_init 7 = .ok (.anewarray 9, 3) := by decide +kernel
theorem dX4_init_10 : decode cX4_init 10 = .ok (.putfield 11, 3) := by decide +kernel
theorem dX4_init_13 : decode cX4_init 13 = .ok (.aload_n 0, 1) := by decide +kernel
theorem dX4_init_14 : decode cX4_init 14 = .ok (.bipush 36, 2) := by decide +kernel
theorem dX4_init_16 : decode cX4_init 16 = .ok (.newarray .int, 2) := by decide +kernel
theorem dX4_init_18 : decode cX4_init 18 = .ok (.putfield 17, 3) := by decide +kernel
theorem dX4_init_21 : decode cX4_init 21 = .ok (.aload_n 0, 1) := by decide +kernel
theorem dX4_init_22 : decode cX4_init 22 = .ok (.sipush 384, 3) := by decide +kernel
theorem dX4_init_25 : decode cX4_init 25 = .ok (.newarray .int, 2) := by decide +kernel
theorem dX4_init_27 : decode cX4_init 27 = .ok (.putfield 21, 3) := by decide +kernel
theorem dX4_init_30 : decode cX4_init 30 = .ok (.aload_n 0, 1) := by decide +kernel
theorem dX4_init_31 : decode cX4_init 31 = .ok (.sipush 384, 3) := by decide +kernel
theorem dX4_init_34 : decode cX4_init 34 = .ok (.newarray .boolean, 2) := by decide +kernel
theorem dX4_init_36 : decode cX4_init 36 = .ok (.putfield 24, 3) := by decide +kernel
theorem dX4_init_39 : decode cX4_init 39 = .ok (.aload_n 0, 1) := by decide +kernel
theorem dX4_init_40 : decode cX4_init 40 = .ok (.sipush 384, 3) := by decide +kernel
theorem dX4_init_43 : decode cX4_init 43 = .ok (.newarray .int, 2) := by decide +kernel
theorem dX4_init_45 : decode cX4_init 45 = .ok (.putfield 28, 3) := by decide +kernel
theorem dX4_init_48 : decode cX4_init 48 = .ok (.aload_n 0, 1) := by decide +kernel
theorem dX4_init_49 : decode cX4_init 49 = .ok (.sipush 384, 3) := by decide +kernel
theorem dX4_init_52 : decode cX4_init 52 = .ok (.newarray .int, 2) := by decide +kernel
theorem dX4_init_54 : decode cX4_init 54 = .ok (.putfield 31, 3) := by decide +kernel
theorem dX4_init_57 : decode cX4_init 57 = .ok (.aload_n 0, 1) := by decide +kernel
theorem dX4_init_58 : decode cX4_init 58 = .ok (.new 9, 3) := by decide +kernel
theorem dX4_init_61 : decode cX4_init 61 = .ok (.dup, 1) := by decide +kernel
theorem dX4_init_62 : decode cX4_init 62 = .ok (.bipush 72, 2) := by decide +kernel
theorem dX4_init_64 : decode cX4_init 64 = .ok (.newarray .int, 2) := by decide +kernel
theorem dX4_init_66 : decode cX4_init 66 = .ok (.invokespecial 34, 3) := by decide +kernel
theorem dX4_init_69 : decode cX4_init 69 = .ok (.putfield 37, 3) := by decide +kernel
theorem dX4_init_72 : decode cX4_init 72 = .ok (.iconst 0, 1) := by decide +kernel
theorem dX4_init_73 : decode cX4_init 73 = .ok (.istore_n 1, 1) := by decide +kernel
theorem dX4_init_74 : decode cX4_init 74 = .ok (.iload_n 1, 1) := by decide +kernel
theorem dX4_init_75 : decode cX4_init 75 = .ok (.bipush 6, 2) := by decide +kernel
theorem dX4_init_77 : decode cX4_init 77 = .ok (.if_icmp .ge 19, 3) := by decide +kernel
theorem dX4_init_80 : decode cX4_init 80 = .ok (.aload_n 0, 1) := by decide +kernel
theorem dX4_init_81 : decode cX4_init 81 = .ok (.getfield 11, 3) := by decide +kernel
theorem dX4_init_84 : decode cX4_init 84 = .ok (.iload_n 1, 1) := by decide +kernel
theorem dX4_init_85 : decode cX4_init 85 = .ok (.aload_n 0, 1) := by decide +kernel
theorem dX4_init_86 : decode cX4_init 86 = .ok (.getfield 37, 3) := by decide +kernel
theorem dX4_init_89 : decode cX4_init 89 = .ok (.aastore, 1) := by decide +kernel
theorem dX4_init_90 : decode cX4_init 90 = .ok (.iinc 1 1, 3) := by decide +kernel
theorem dX4_init_93 : decode cX4_init 93 = .ok (.goto (-19), 3) := by decide +kernel
theorem dX4_init_96 : decode cX4_init 96 = .ok (.return_, 1) := by decide +kernel
theorem dX4_clear_0 : decode cX4_clear 0 = .ok (.aload_n 0, 1) := by decide +kernel
theorem dX4_clear_1 : decode cX4_clear 1 = .ok (.iconst 0, 1) := by decide +kernel
theorem dX4_clear_2 : decode cX4_clear 2 = .ok (.putfield 41, 3) := by decide +kernel
theorem dX4_clear_5 : decode cX4_clear 5 = .ok (.return_, 1) := by decide +kernel
theorem dX4_add_0 : decode cX4_add 0 = .ok (.iconst 0, 1) := by decide +kernel
theorem dX4_add_1 : decode cX4_add 1 = .ok (.istore_n 2, 1) := by decide +kernel
theorem dX4_add_2 : decode cX4_add 2 = .ok (.iload_n 2, 1) := by decide +kernel
theorem dX4_add_3 : decode cX4_add 3 = .ok (.aload_n 0, 1) := by decide +kernel
theorem dX4_add_4 : decode cX4_add 4 = .ok (.getfield 41, 3) := by decide +kernel
theorem dX4_add_7 : decode cX4_add 7 = .ok (.if_icmp .ge 23, 3) := by decide +kernel
theorem dX4_add_10 : decode cX4_add 10 = .ok (.aload_n 1, 1) := by decide +kernel
theorem dX4_add_11 : decode cX4_add 11 = .ok (.aload_n 0, 1) := by decide +kernel
theorem dX4_add_12 : decode cX4_add 12 = .ok (.getfield 11, 3) := by decide +kernel
theorem dX4_add_15 : decode cX4_add 15 = .ok (.iload_n 2, 1) := by decide +kernel
theorem dX4_add_16 : decode cX4_add 16 = .ok (.aaload, 1) := by decide +kernel
theorem dX4_add_17 : decode cX4_add 17 = .ok (.invokevirtual 45, 3) := by decide +kernel
theorem dX4_add_20 : decode cX4_add 20 = .ok (.ifCond .eq 4, 3) := by decide +kernel
theorem dX4_add_23 : decode cX4_add 23 = .ok (.return_, 1) := by decide +kernel
theorem dX4_add_24 : decode cX4_add 24 = .ok (.iinc 2 1, 3) := by decide +kernel
theorem dX4_add_27 : decode cX4_add 27 = .ok (.goto (-25), 3) := by decide +kernel
theorem dX4_add_30 : decode cX4_add 30 = .ok (.iconst 0, 1) := by decide +kernel
theorem dX4_add_31 : decode cX4_add 31 = .ok (.istore_n 2, 1) := by decide +kernel
theorem dX4_add_32 : decode cX4_add 32 = .ok (.iconst 0, 1) := by decide +kernel
theorem dX4_add_33 : decode cX4_add 33 = .ok (.istore_n 3, 1) := by decide +kernel
theorem dX4_add_34 : decode cX4_add 34 = .ok (.iload_n 3, 1) := by decide +kernel
theorem dX4_add_35 : decode cX4_add 35 = .ok (.aload_n 0, 1) := by decide +kernel
theorem dX4_add_36 : decode cX4_add 36 = .ok (.getfield 41, 3) := by decide +kernel
theorem dX4_add_39 : decode cX4_add 39 = .ok (.if_icmp .ge 37, 3) := by decide +kernel
theorem dX4_add_42 : decode cX4_add 42 = .ok (.aload_n 0, 1) := by decide +kernel
theorem dX4_add_43 : decode cX4_add 43 = .ok (.getfield 11, 3) := by decide +kernel
theorem dX4_add_46 : decode cX4_add 46 = .ok (.iload_n 3, 1) := by decide +kernel
theorem dX4_add_47 : decode cX4_add 47 = .ok (.aaload, 1) := by decide +kernel
theorem dX4_add_48 : decode cX4_add 48 = .ok (.aload_n 1, 1) := by decide +kernel
theorem dX4_add_49 : decode cX4_add 49 = .ok (.invokevirtual 45, 3) := by decide +kernel
theorem dX4_add_52 : decode cX4_add 52 = .ok (.ifCond .ne 18, 3) := by decide +kernel
theorem dX4_add_55 : decode cX4_add 55 = .ok (.aload_n 0, 1) := by decide +kernel
theorem dX4_add_56 : decode cX4_add 56 = .ok (.getfield 11, 3) := by decide +kernel
theorem dX4_add_59 : decode cX4_add 59 = .ok (.iload_n 2, 1) := by decide +kernel
theorem dX4_add_60 : decode cX4_add 60 = .ok (.aload_n 0, 1) := by decide +kernel
theorem dX4_add_61 : decode cX4_add 61 = .ok (.getfield 11, 3) := by decide +kernel
theorem dX4_add_64 : decode cX4_add 64 = .ok (.iload_n 3, 1) := by decide +kernel
theorem dX4_add_65 : decode cX4_add 65 = .ok (.aaload, 1) := by decide +kernel
theorem dX4_add_66 : decode cX4_add 66 = .ok (.aastore, 1) := by decide +kernel
theorem dX4_add_67 : decode cX4_add 67 = .ok (.iinc 2 1, 3) := by decide +kernel
theorem dX4_add_70 : decode cX4_add 70 = .ok (.iinc 3 1, 3) := by decide +kernel
theorem dX4_add_73 : decode cX4_add 73 = .ok (.goto (-39), 3) := by decide +kernel
theorem dX4_add_76 : decode cX4_add 76 = .ok (.iload_n 2, 1) := by decide +kernel
theorem dX4_add_77 : decode cX4_add 77 = .ok (.bipush 6, 2) := by decide +kernel
theorem dX4_add_79 : decode cX4_add 79 = .ok (.if_icmp .ge 20, 3) := by decide +kernel
theorem dX4_add_82 : decode cX4_add 82 = .ok (.aload_n 1, 1) := by decide +kernel
theorem dX4_add_83 : decode cX4_add 83 = .ok (.getfield 49, 3) := by decide +kernel
theorem dX4_add_86 : decode cX4_add 86 = .ok (.ifCond .le 13, 3) := by decide +kernel
theorem dX4_add_89 : decode cX4_add 89 = .ok (.aload_n 0, 1) := by decide +kernel
theorem dX4_add_90 : decode cX4_add 90 = .ok (.getfield 11, 3) := by decide +kernel
theorem dX4_add_93 : decode cX4_add 93 = .ok (.iload_n 2, 1) := by decide +kernel
theorem dX4_add_94 : decode cX4_add 94 = .ok (.aload_n 1, 1) := by decide +kernel
theorem dX4_add_95 : decode cX4_add 95 = .ok (.aastore, 1) := by decide +kernel
theorem dX4_add_96 : decode cX4_add 96 = .ok (.iinc 2 1, 3) := by decide +kernel
theorem dX4_add_99 : decode cX4_add 99 = .ok (.aload_n 0, 1) := by decide +kernel
theorem dX4_add_100 : decode cX4_add 100 = .ok (.iload_n 2, 1) := by decide +kernel
theorem dX4_add_101 : decode cX4_add 101 = .ok (.putfield 41, 3) := by decide +kernel
theorem dX4_add_104 : decode cX4_add 104 = .ok (.return_, 1) := by decide +kernel
theorem dX4_mergeAll_0 : decode cX4_mergeAll 0 = .ok (.aload_n 0, 1) := by decide +kernel
theorem dX4_mergeAll_1 : decode cX4_mergeAll 1 = .ok (.invokevirtual 52, 3) := by decide +kernel
theorem dX4_mergeAll_4 : decode cX4_mergeAll 4 = .ok (.aload_n 0, 1) := by decide +kernel
theorem dX4_mergeAll_5 : decode cX4_mergeAll 5 = .ok (.invokevirtual 55, 3) := by decide +kernel
theorem dX4_mergeAll_8 : decode cX4_mergeAll 8 = .ok (.aload_n 0, 1) := by decide +kernel
theorem dX4_mergeAll_9 : decode cX4_mergeAll 9 = .ok (.invokevirtual 58, 3) := by decide +kernel
theorem dX4_mergeAll_12 : decode cX4_mergeAll 12 = .ok (.istore_n 1, 1) := by decide +kernel
theorem dX4_mergeAll_13 : decode cX4_mergeAll 13 = .ok (.aload_n 0, 1) := by decide +kernel
theorem dX4_mergeAll_14 : decode cX4_mergeAll 14 = .ok (.getfield 37, 3) := by decide +kernel
theorem dX4_mergeAll_17 : decode cX4_mergeAll 17 = .ok (.invokevirtual 62, 3) := by decide +kernel
theorem dX4_mergeAll_20 : decode cX4_mergeAll 20 = .ok (.iload_n 1, 1) := by decide +kernel
theorem dX4_mergeAll_21 : decode cX4_mergeAll 21 = .ok (.istore_n 2, 1) := by decide +kernel
theorem dX4_mergeAll_22 : decode cX4_mergeAll 22 = .ok (.iload_n 2, 1) := by decide +kernel
theorem dX4_mergeAll_23 : decode cX4_mergeAll 23 = .ok (.ifCond .le 29, 3) := by decide +kernel
theorem dX4_mergeAll_26 : decode cX4_mergeAll 26 = .ok (.aload_n 0, 1) := by decide +kernel
theorem dX4_mergeAll_27 : decode cX4_mergeAll 27 = .ok (.iload_n 2, 1) := by decide +kernel
theorem dX4_mergeAll_28 : decode cX4_mergeAll 28 = .ok (.invokevirtual 65, 3) := by decide +kernel
theorem dX4_mergeAll_31 : decode cX4_mergeAll 31 = .ok (.istore_n 3, 1) := by decide +kernel
theorem dX4_mergeAll_32 : decode cX4_mergeAll 32 = .ok (.aload_n 0, 1) := by decide +kernel
theorem dX4_mergeAll_33 : decode cX4_mergeAll 33 = .ok (.getfield 37, 3) := by decide +kernel
theorem dX4_mergeAll_36 : decode cX4_mergeAll 36 = .ok (.iload_n 3, 1) := by decide +kernel
theorem dX4_mergeAll_37 : decode cX4_mergeAll 37 = .ok (.invokevirtual 69, 3) := by decide +kernel
theorem dX4_mergeAll_40 : decode cX4_mergeAll 40 = .ok (.aload_n 0, 1) := by decide +kernel
theorem dX4_mergeAll_41 : decode cX4_mergeAll 41 = .ok (.iload_n 3, 1) := by decide +kernel
theorem dX4_mergeAll_42 : decode cX4_mergeAll 42 = .ok (.iload_n 2, 1) := by decide +kernel
theorem dX4_mergeAll_43 : decode cX4_mergeAll 43 = .ok (.invokevirtual 73, 3) := by decide +kernel
theorem dX4_mergeAll_46 : decode cX4_mergeAll 46 = .ok (.iinc 2 (-1), 3) := by decide +kernel
theorem dX4_mergeAll_49 : decode cX4_mergeAll 49 = .ok (.goto (-27), 3) := by decide +kernel
theorem dX4_mergeAll_52 : decode cX4_mergeAll 52 = .ok (.return_, 1) := by decide +kernel
theorem dX4_measureOverlaps_0 : decode cX4_measureOverlaps 0 = .ok (.iconst 0, 1) := by decide +kernel
theorem dX4_measureOverlaps_1 : decode cX4_measureOverlaps 1 = .ok (.istore_n 1, 1) := by decide +kernel
theorem dX4_measureOverlaps_2 : decode cX4_measureOverlaps 2 = .ok (.iload_n 1, 1) := by decide +kernel
theorem dX4_measureOverlaps_3 : decode cX4_measureOverlaps 3 = .ok (.aload_n 0, 1) := by decide +kernel
theorem dX4_measureOverlaps_4 : decode cX4_measureOverlaps 4 = .ok (.getfield 41, 3) := by decide +kernel
theorem dX4_measureOverlaps_7 : decode cX4_measureOverlaps 7 = .ok (.if_icmp .ge 60, 3) := by decide +kernel
theorem dX4_measureOverlaps_10 : decode cX4_measureOverlaps 10 = .ok (.iconst 0, 1) := by decide +kernel
theorem dX4_measureOverlaps_11 : decode cX4_measureOverlaps 11 = .ok (.istore_n 2, 1) := by decide +kernel
theorem dX4_measureOverlaps_12 : decode cX4_measureOverlaps 12 = .ok (.iload_n 2, 1) := by decide +kernel
theorem dX4_measureOverlaps_13 : decode cX4_measureOverlaps 13 = .ok (.aload_n 0, 1) := by decide +kernel
theorem dX4_measureOverlaps_14 : decode cX4_measureOverlaps 14 = .ok (.getfield 41, 3) := by decide +kernel
theorem dX4_measureOverlaps_17 : decode cX4_measureOverlaps 17 = .ok (.if_icmp .ge 44, 3) := by decide +kernel
theorem dX4_measureOverlaps_20 : decode cX4_measureOverlaps 20 = .ok (.aload_n 0, 1) := by decide +kernel
theorem dX4_measureOverlaps_21 : decode cX4_measureOverlaps 21 = .ok (.getfield 17, 3) := by decide +kernel
theorem dX4_measureOverlaps_24 : decode cX4_measureOverlaps 24 = .ok (.iload_n 1, 1) := by decide +kernel
theorem dX4_measureOverlaps_25 : decode cX4_measureOverlaps 25 = .ok (.bipush 6, 2) := by decide +kernel
theorem dX4_measureOverlaps_27 : decode cX4_measureOverlaps 27 = .ok (.imul, 1) := by decide +kernel
theorem dX4_measureOverlaps_28 : decode cX4_measureOverlaps 28 = .ok (.iload_n 2, 1) := by decide +kernel
theorem dX4_measureOverlaps_29 : decode cX4_measureOverlaps 29 = .ok (.iadd, 1) := by decide +kernel
theorem dX4_measureOverlaps_30 : decode cX4_measureOverlaps 30 = .ok (.iload_n 1, 1) := by decide +kernel
theorem dX4_measureOverlaps_31 : decode cX4_measureOverlaps 31 = .ok (.iload_n 2, 1) := by decide +kernel
theorem dX4_measureOverlaps_32 : decode cX4_measureOverlaps 32 = .ok (.if_icmp .ne 7, 3) := by decide +kernel
theorem dX4_measureOverlaps_35 : decode cX4_measureOverlaps 35 = .ok (.iconst 0, 1) := by decide +kernel
theorem dX4_measureOverlaps_36 : decode cX4_measureOverlaps 36 = .ok (.goto 18, 3) := by decide +kernel
theorem dX4_measureOverlaps_39 : decode cX4_measureOverlaps 39 = .ok (.aload_n 0, 1) := by decide +kernel
theorem dX4_measureOverlaps_40 : decode cX4_measureOverlaps 40 = .ok (.getfield 11, 3) := by decide +kernel
theorem dX4_measureOverlaps_43 : decode cX4_measureOverlaps 43 = .ok (.iload_n 1, 1) := by decide +kernel
theorem dX4_measureOverlaps_44 : decode cX4_measureOverlaps 44 = .ok (.aaload, 1) := by decide +kernel
theorem dX4_measureOverlaps_45 : decode cX4_measureOverlaps 45 = .ok (.aload_n 0, 1) := by decide +kernel
theorem dX4_measureOverlaps_46 : decode cX4_measureOverlaps 46 = .ok (.getfield 11, 3) := by decide +kernel
theorem dX4_measureOverlaps_49 : decode cX4_measureOverlaps 49 = .ok (.iload_n 2, 1) := by decide +kernel
theorem dX4_measureOverlaps_50 : decode cX4_measureOverlaps 50 = .ok (.aaload, 1) := by decide +kernel
theorem dX4_measureOverlaps_51 : decode cX4_measureOverlaps 51 = .ok (.invokevirtual 77, 3) := by decide +kernel
theorem dX4_measureOverlaps_54 : decode cX4_measureOverlaps 54 = .ok (.iastore, 1) := by decide +kernel
theorem dX4_measureOverlaps_55 : decode cX4_measureOverlaps 55 = .ok (.iinc 2 1, 3) := by decide +kernel
theorem dX4_measureOverlaps_58 : decode cX4_measureOverlaps 58 = .ok (.goto (-46), 3) := by decide +kernel
theorem dX4_measureOverlaps_61 : decode cX4_measureOverlaps 61 = .ok (.iinc 1 1, 3) := by decide +kernel
theorem dX4_measureOverlaps_64 : decode cX4_measureOverlaps 64 = .ok (.goto (-62), 3) := by decide +kernel
theorem dX4_measureOverlaps_67 : decode cX4_measureOverlaps 67 = .ok (.return_, 1) := by decide +kernel
theorem dX4_measureRests_0 : decode cX4_measureRests 0 = .ok (.iconst 1, 1) := by decide +kernel
theorem dX4_measureRests_1 : decode cX4_measureRests 1 = .ok (.aload_n 0, 1) := by decide +kernel
theorem dX4_measureRests_2 : decode cX4_measureRests 2 = .ok (.getfield 41, 3) := by decide +kernel
theorem dX4_measureRests_5 : decode cX4_measureRests 5 = .ok (.ishl, 1) := by decide +kernel
theorem dX4_measureRests_6 : decode cX4_measureRests 6 = .ok (.iconst 1, 1) := by decide +kernel
theorem dX4_measureRests_7 : decode cX4_measureRests 7 = .ok (.isub, 1) := by decide +kernel
theorem dX4_measureRests_8 : decode cX4_measureRests 8 = .ok (.istore_n 1, 1) := by decide +kernel
theorem dX4_measureRests_9 : decode cX4_measureRests 9 = .ok (.iload_n 1, 1) := by decide +kernel
theorem dX4_measureRests_10 : decode cX4_measureRests 10 = .ok (.istore_n 2, 1) := by decide +kernel
theorem dX4_measureRests_11 : decode cX4_measureRests 11 = .ok (.iload_n 2, 1) := by decide +kernel
theorem dX4_measureRests_12 : decode cX4_measureRests 12 = .ok (.ifCond .le 101, 3) := by decide +kernel
theorem dX4_measureRests_15 : decode cX4_measureRests 15 = .ok (.iconst 0, 1) := by decide +kernel
theorem dX4_measureRests_16 : decode cX4_measureRests 16 = .ok (.istore_n 3, 1) := by decide +kernel
theorem dX4_measureRests_17 : decode cX4_measureRests 17 = .ok (.iload_n 3, 1) := by decide +kernel
theorem dX4_measureRests_18 : decode cX4_measureRests 18 = .ok (.aload_n 0, 1) := by decide +kernel
theorem dX4_measureRests_19 : decode cX4_measureRests 19 = .ok (.getfield 41, 3) := by decide +kernel
theorem dX4_measureRests_22 : decode cX4_measureRests 22 = .ok (.if_icmp .ge 85, 3) := by decide +kernel
theorem dX4_measureRests_25 : decode cX4_measureRests 25 = .ok (.iload_n 2, 1) := by decide +kernel
theorem dX4_measureRests_26 : decode cX4_measureRests 26 = .ok (.iload_n 1, 1) := by decide +kernel
theorem dX4_measureRests_27 : decode cX4_measureRests 27 = .ok (.if_icmp .ne 7, 3) := by decide +kernel
theorem dX4_measureRests_30 : decode cX4_measureRests 30 = .ok (.iconst 0, 1) := by decide +kernel
theorem dX4_measureRests_31 : decode cX4_measureRests 31 = .ok (.goto 5, 3) := by decide +kernel
theorem dX4_measureRests_34 : decode cX4_measureRests 34 = .ok (.ldc 81, 2) := by decide +kernel
theorem dX4_measureRests_36 : decode cX4_measureRests 36 = .ok (.istore 4, 2) := by decide +kernel
theorem dX4_measureRests_38 : decode cX4_measureRests 38 = .ok (.iconst 0, 1) := by decide +kernel
theorem dX4_measureRests_39 : decode cX4_measureRests 39 = .ok (.istore 5, 2) := by decide +kernel
theorem dX4_measureRests_41 : decode cX4_measureRests 41 = .ok (.iload 5, 2) := by decide +kernel
theorem dX4_measureRests_43 : decode cX4_measureRests 43 = .ok (.aload_n 0, 1) := by decide +kernel
theorem dX4_measureRests_44 : decode cX4_measureRests 44 = .ok (.getfield 41, 3) := by decide +kernel
theorem dX4_measureRests_47 : decode cX4_measureRests 47 = .ok (.if_icmp .ge 41, 3) := by decide +kernel
theorem dX4_measureRests_50 : decode cX4_measureRests 50 = .ok (.iload_n 2, 1) := by decide +kernel
theorem dX4_measureRests_51 : decode cX4_measureRests 51 = .ok (.iload_n 3, 1) := by decide +kernel
theorem dX4_measureRests_52 : decode cX4_measureRests 52 = .ok (.invokestatic 82, 3) := by decide +kernel
theorem dX4_measureRests_55 : decode cX4_measureRests 55 = .ok (.ifCond .eq 27, 3) := by decide +kernel
theorem dX4_measureRests_58 : decode cX4_measureRests 58 = .ok (.iload_n 2, 1) := by decide +kernel
theorem dX4_measureRests_59 : decode cX4_measureRests 59 = .ok (.iload 5, 2) := by decide +kernel
theorem dX4_measureRests_61 : decode cX4_measureRests 61 = .ok (.invokestatic 82, 3) := by decide +kernel
theorem dX4_measureRests_64 : decode cX4_measureRests 64 = .ok (.ifCond .ne 18, 3) := by decide +kernel
theorem dX4_measureRests_67 : decode cX4_measureRests 67 = .ok (.iload 4, 2) := by decide +kernel
theorem dX4_measureRests_69 : decode cX4_measureRests 69 = .ok (.aload_n 0, 1) := by decide +kernel
theorem dX4_measureRests_70 : decode cX4_measureRests 70 = .ok (.iload_n 2, 1) := by decide +kernel
theorem dX4_measureRests_71 : decode cX4_measureRests 71 = .ok (.iload_n 3, 1) := by decide +kernel
theorem dX4_measureRests_72 : decode cX4_measureRests 72 = .ok (.iload 5, 2) := by decide +kernel
theorem dX4_measureRests_74 : decode cX4_measureRests 74 = .ok (.invokevirtual 86, 3) := by decide +kernel
theorem dX4_measureRests_77 : decode cX4_measureRests 77 = .ok (.invokestatic 90, 3) := by decide +kernel
theorem dX4_measureRests_80 : decode cX4_measureRests 80 = .ok (.istore 4, 2) := by decide +kernel
theorem dX4_measureRests_82 : decode cX4_measureRests 82 = .ok (.iinc 5 1, 3) := by decide +kernel
theorem dX4_measureRests_85 : decode cX4_measureRests 85 = .ok (.goto (-44), 3) := by decide +kernel
theorem dX4_measureRests_88 : decode cX4_measureRests 88 = .ok (.aload_n 0, 1) := by decide +kernel
theorem dX4_measureRests_89 : decode cX4_measureRests 89 = .ok (.getfield 21, 3) := by decide +kernel
theorem dX4_measureRests_92 : decode cX4_measureRests 92 = .ok (.iload_n 2, 1) := by decide +kernel
theorem dX4_measureRests_93 : decode cX4_measureRests 93 = .ok (.bipush 6, 2) := by decide +kernel
theorem dX4_measureRests_95 : decode cX4_measureRests 95 = .ok (.imul, 1) := by decide +kernel
theorem dX4_measureRests_96 : decode cX4_measureRests 96 = .ok (.iload_n 3, 1) := by decide +kernel
theorem dX4_measureRests_97 : decode cX4_measureRests 97 = .ok (.iadd, 1) := by decide +kernel
theorem dX4_measureRests_98 : decode cX4_measureRests 98 = .ok (.iload 4, 2) := by decide +kernel
theorem dX4_measureRests_100 : decode cX4_measureRests 100 = .ok (.iastore, 1) := by decide +kernel
theorem dX4_measureRests_101 : decode cX4_measureRests 101 = .ok (.iinc 3 1, 3) := by decide +kernel
theorem dX4_measureRests_104 : decode cX4_measureRests 104 = .ok (.goto (-87), 3) := by decide +kernel
theorem dX4_measureRests_107 : decode cX4_measureRests 107 = .ok (.iinc 2 (-1), 3) := by decide +kernel
theorem dX4_measureRests_110 : decode cX4_measureRests 110 = .ok (.goto (-99), 3) := by decide +kernel
theorem dX4_measureRests_113 : decode cX4_measureRests 113 = .ok (.return_, 1) := by decide +kernel
theorem dX4_restWith_0 : decode cX4_restWith 0 = .ok (.aload_n 0, 1) := by decide +kernel
theorem dX4_restWith_1 : decode cX4_restWith 1 = .ok (.getfield 11, 3) := by decide +kernel
theorem dX4_restWith_4 : decode cX4_restWith 4 = .ok (.iload_n 3, 1) := by decide +kernel
theorem dX4_restWith_5 : decode cX4_restWith 5 = .ok (.aaload, 1) := by decide +kernel
theorem dX4_restWith_6 : decode cX4_restWith 6 = .ok (.getfield 49, 3) := by decide +kernel
theorem dX4_restWith_9 : decode cX4_restWith 9 = .ok (.aload_n 0, 1) := by decide +kernel
theorem dX4_restWith_10 : decode cX4_restWith 10 = .ok (.getfield 17, 3) := by decide +kernel
theorem dX4_restWith_13 : decode cX4_restWith 13 = .ok (.iload_n 2, 1) := by decide +kernel
theorem dX4_restWith_14 : decode cX4_restWith 14 = .ok (.bipush 6, 2) := by decide +kernel
theorem dX4_restWith_16 : decode cX4_restWith 16 = .ok (.imul, 1) := by decide +kernel
theorem dX4_restWith_17 : decode cX4_restWith 17 = .ok (.iload_n 3, 1) := by decide +kernel
theorem dX4_restWith_18 : decode cX4_restWith 18 = .ok (.iadd, 1) := by decide +kernel
theorem dX4_restWith_19 : decode cX4_restWith 19 = .ok (.iaload, 1) := by decide +kernel
theorem dX4_restWith_20 : decode cX4_restWith 20 = .ok (.isub, 1) := by decide +kernel
theorem dX4_restWith_21 : decode cX4_restWith 21 = .ok (.aload_n 0, 1) := by decide +kernel
theorem dX4_restWith_22 : decode cX4_restWith 22 = .ok (.getfield 21, 3) := by decide +kernel
theorem dX4_restWith_25 : decode cX4_restWith 25 = .ok (.iload_n 1, 1) := by decide +kernel
theorem dX4_restWith_26 : decode cX4_restWith 26 = .ok (.iload_n 3, 1) := by decide +kernel
theorem dX4_restWith_27 : decode cX4_restWith 27 = .ok (.invokestatic 96, 3) := by decide +kernel
theorem dX4_restWith_30 : decode cX4_restWith 30 = .ok (.iaload, 1) := by decide +kernel
theorem dX4_restWith_31 : decode cX4_restWith 31 = .ok (.iadd, 1) := by decide +kernel
theorem dX4_restWith_32 : decode cX4_restWith 32 = .ok (.ireturn, 1) := by decide +kernel
theorem dX4_stateWith_0 : decode cX4_stateWith 0 = .ok (.iload_n 0, 1) := by decide +kernel
theorem dX4_stateWith_1 : decode cX4_stateWith 1 = .ok (.iconst 1, 1) := by decide +kernel
theorem dX4_stateWith_2 : decode cX4_stateWith 2 = .ok (.iload_n 1, 1) := by decide +kernel
theorem dX4_stateWith_3 : decode cX4_stateWith 3 = .ok (.ishl, 1) := by decide +kernel
theorem dX4_stateWith_4 : decode cX4_stateWith 4 = .ok (.ior, 1) := by decide +kernel
theorem dX4_stateWith_5 : decode cX4_stateWith 5 = .ok (.bipush 6, 2) := by decide +kernel
theorem dX4_stateWith_7 : decode cX4_stateWith 7 = .ok (.imul, 1) := by decide +kernel
theorem dX4_stateWith_8 : decode cX4_stateWith 8 = .ok (.iload_n 1, 1) := by decide +kernel
theorem dX4_stateWith_9 : decode cX4_stateWith 9 = .ok (.iadd, 1) := by decide +kernel
theorem dX4_stateWith_10 : decode cX4_stateWith 10 = .ok (.ireturn, 1) := by decide +kernel
theorem dX4_openFirsts_0 : decode cX4_openFirsts 0 = .ok (.aload_n 0, 1) := by decide +kernel
theorem dX4_openFirsts_1 : decode cX4_openFirsts 1 = .ok (.getfield 41, 3) := by decide +kernel
theorem dX4_openFirsts_4 : decode cX4_openFirsts 4 = .ok (.ifCond .ne 7, 3) := by decide +kernel
theorem dX4_openFirsts_7 : decode cX4_openFirsts 7 = .ok (.iconst 0, 1) := by decide +kernel
theorem dX4_openFirsts_8 : decode cX4_openFirsts 8 = .ok (.goto 5, 3) := by decide +kernel
theorem dX4_openFirsts_11 : decode cX4_openFirsts 11 = .ok (.ldc 81, 2) := by decide +kernel
theorem dX4_openFirsts_13 : decode cX4_openFirsts 13 = .ok (.istore_n 1, 1) := by decide +kernel
theorem dX4_openFirsts_14 : decode cX4_openFirsts 14 = .ok (.iconst 0, 1) := by decide +kernel
theorem dX4_openFirsts_15 : decode cX4_openFirsts 15 = .ok (.istore_n 2, 1) := by decide +kernel
theorem dX4_openFirsts_16 : decode cX4_openFirsts 16 = .ok (.iload_n 2, 1) := by decide +kernel
theorem dX4_openFirsts_17 : decode cX4_openFirsts 17 = .ok (.aload_n 0, 1) := by decide +kernel
theorem dX4_openFirsts_18 : decode cX4_openFirsts 18 = .ok (.getfield 41, 3) := by decide +kernel
theorem dX4_openFirsts_21 : decode cX4_openFirsts 21 = .ok (.if_icmp .ge 34, 3) := by decide +kernel
theorem dX4_openFirsts_24 : decode cX4_openFirsts 24 = .ok (.iload_n 1, 1) := by decide +kernel
theorem dX4_openFirsts_25 : decode cX4_openFirsts 25 = .ok (.aload_n 0, 1) := by decide +kernel
theorem dX4_openFirsts_26 : decode cX4_openFirsts 26 = .ok (.getfield 11, 3) := by decide +kernel
theorem dX4_openFirsts_29 : decode cX4_openFirsts 29 = .ok (.iload_n 2, 1) := by decide +kernel
theorem dX4_openFirsts_30 : decode cX4_openFirsts 30 = .ok (.aaload, 1) := by decide +kernel
theorem dX4_openFirsts_31 : decode cX4_openFirsts 31 = .ok (.getfield 49, 3) := by decide +kernel
theorem dX4_openFirsts_34 : decode cX4_openFirsts 34 = .ok (.aload_n 0, 1) := by decide +kernel
theorem dX4_openFirsts_35 : decode cX4_openFirsts 35 = .ok (.getfield 21, 3) := by decide +kernel
theorem dX4_openFirsts_38 : decode cX4_openFirsts 38 = .ok (.iconst 0, 1) := by decide +kernel
theorem dX4_openFirsts_39 : decode cX4_openFirsts 39 = .ok (.iload_n 2, 1) := by decide +kernel
theorem dX4_openFirsts_40 : decode cX4_openFirsts 40 = .ok (.invokestatic 96, 3) := by decide +kernel
theorem dX4_openFirsts_43 : decode cX4_openFirsts 43 = .ok (.iaload, 1) := by decide +kernel
theorem dX4_openFirsts_44 : decode cX4_openFirsts 44 = .ok (.iadd, 1) := by decide +kernel
theorem dX4_openFirsts_45 : decode cX4_openFirsts 45 = .ok (.invokestatic 90, 3) := by decide +kernel
theorem dX4_openFirsts_48 : decode cX4_openFirsts 48 = .ok (.istore_n 1, 1) := by decide +kernel
theorem dX4_openFirsts_49 : decode cX4_openFirsts 49 = .ok (.iinc 2 1, 3) := by decide +kernel
theorem dX4_openFirsts_52 : decode cX4_openFirsts 52 = .ok (.goto (-36), 3) := by decide +kernel
theorem dX4_openFirsts_55 : decode cX4_openFirsts 55 = .ok (.aload_n 0, 1) := by decide +kernel
theorem dX4_openFirsts_56 : decode cX4_openFirsts 56 = .ok (.iconst 0, 1) := by decide +kernel
theorem dX4_openFirsts_57 : decode cX4_openFirsts 57 = .ok (.putfield 99, 3) := by decide +kernel
theorem dX4_openFirsts_60 : decode cX4_openFirsts 60 = .ok (.iconst 0, 1) := by decide +kernel
theorem dX4_openFirsts_61 : decode cX4_openFirsts 61 = .ok (.istore_n 2, 1) := by decide +kernel
theorem dX4_openFirsts_62 : decode cX4_openFirsts 62 = .ok (.iload_n 2, 1) := by decide +kernel
theorem dX4_openFirsts_63 : decode cX4_openFirsts 63 = .ok (.aload_n 0, 1) := by decide +kernel
theorem dX4_openFirsts_64 : decode cX4_openFirsts 64 = .ok (.getfield 41, 3) := by decide +kernel
theorem dX4_openFirsts_67 : decode cX4_openFirsts 67 = .ok (.if_icmp .ge 42, 3) := by decide +kernel
theorem dX4_openFirsts_70 : decode cX4_openFirsts 70 = .ok (.aload_n 0, 1) := by decide +kernel
theorem dX4_openFirsts_71 : decode cX4_openFirsts 71 = .ok (.getfield 11, 3) := by decide +kernel
theorem dX4_openFirsts_74 : decode cX4_openFirsts 74 = .ok (.iload_n 2, 1) := by decide +kernel
theorem dX4_openFirsts_75 : decode cX4_openFirsts 75 = .ok (.aaload, 1) := by decide +kernel
theorem dX4_openFirsts_76 : decode cX4_openFirsts 76 = .ok (.getfield 49, 3) := by decide +kernel
theorem dX4_openFirsts_79 : decode cX4_openFirsts 79 = .ok (.aload_n 0, 1) := by decide +kernel
theorem dX4_openFirsts_80 : decode cX4_openFirsts 80 = .ok (.getfield 21, 3) := by decide +kernel
theorem dX4_openFirsts_83 : decode cX4_openFirsts 83 = .ok (.iconst 0, 1) := by decide +kernel
theorem dX4_openFirsts_84 : decode cX4_openFirsts 84 = .ok (.iload_n 2, 1) := by decide +kernel
theorem dX4_openFirsts_85 : decode cX4_openFirsts 85 = .ok (.invokestatic 96, 3) := by decide +kernel
theorem dX4_openFirsts_88 : decode cX4_openFirsts 88 = .ok (.iaload, 1) := by decide +kernel
theorem dX4_openFirsts_89 : decode cX4_openFirsts 89 = .ok (.iadd, 1) := by decide +kernel
theorem dX4_openFirsts_90 : decode cX4_openFirsts 90 = .ok (.iload_n 1, 1) := by decide +kernel
theorem dX4_openFirsts_91 : decode cX4_openFirsts 91 = .ok (.if_icmp .ne 12, 3) := by decide +kernel
theorem dX4_openFirsts_94 : decode cX4_openFirsts 94 = .ok (.aload_n 0, 1) := by decide +kernel
theorem dX4_openFirsts_95 : decode cX4_openFirsts 95 = .ok (.iconst 0, 1) := by decide +kernel
theorem dX4_openFirsts_96 : decode cX4_openFirsts 96 = .ok (.iload_n 2, 1) := by decide +kernel
theorem dX4_openFirsts_97 : decode cX4_openFirsts 97 = .ok (.invokestatic 96, 3) := by decide +kernel
theorem dX4_openFirsts_100 : decode cX4_openFirsts 100 = .ok (.invokevirtual 102, 3) := by decide +kernel
theorem dX4_openFirsts_103 : decode cX4_openFirsts 103 = .ok (.iinc 2 1, 3) := by decide +kernel
theorem dX4_openFirsts_106 : decode cX4_openFirsts 106 = .ok (.goto (-44), 3) := by decide +kernel
theorem dX4_openFirsts_109 : decode cX4_openFirsts 109 = .ok (.iload_n 1, 1) := by decide +kernel
theorem dX4_openFirsts_110 : decode cX4_openFirsts 110 = .ok (.ireturn, 1) := by decide +kernel
theorem dX4_addOpen_0 : decode cX4_addOpen 0 = .ok (.aload_n 0, 1) := by decide +kernel
theorem dX4_addOpen_1 : decode cX4_addOpen 1 = .ok (.getfield 24, 3) := by decide +kernel
theorem dX4_addOpen_4 : decode cX4_addOpen 4 = .ok (.iload_n 1, 1) := by decide +kernel
theorem dX4_addOpen_5 : decode cX4_addOpen 5 = .ok (.baload, 1) := by decide +kernel
theorem dX4_addOpen_6 : decode cX4_addOpen 6 = .ok (.ifCond .ne 40, 3) := by decide +kernel
theorem dX4_addOpen_9 : decode cX4_addOpen 9 = .ok (.aload_n 0, 1) := by decide +kernel
theorem dX4_addOpen_10 : decode cX4_addOpen 10 = .ok (.getfield 99, 3) := by decide +kernel
theorem dX4_addOpen_13 : decode cX4_addOpen 13 = .ok (.sipush 384, 3) := by decide +kernel
theorem dX4_addOpen_16 : decode cX4_addOpen 16 = .ok (.if_icmp .ge 30, 3) := by decide +kernel
theorem dX4_addOpen_19 : decode cX4_addOpen 19 = .ok (.aload_n 0, 1) := by decide +kernel
theorem dX4_addOpen_20 : decode cX4_addOpen 20 = .ok (.getfield 24, 3) := by decide +kernel
theorem dX4_addOpen_23 : decode cX4_addOpen 23 = .ok (.iload_n 1, 1) := by decide +kernel
theorem dX4_addOpen_24 : decode cX4_addOpen 24 = .ok (.iconst 1, 1) := by decide +kernel
theorem dX4_addOpen_25 : decode cX4_addOpen 25 = .ok (.bastore, 1) := by decide +kernel
theorem dX4_addOpen_26 : decode cX4_addOpen 26 = .ok (.aload_n 0, 1) := by decide +kernel
theorem dX4_addOpen_27 : decode cX4_addOpen 27 = .ok (.getfield 28, 3) := by decide +kernel
theorem dX4_addOpen_30 : decode cX4_addOpen 30 = .ok (.aload_n 0, 1) := by decide +kernel
theorem dX4_addOpen_31 : decode cX4_addOpen 31 = .ok (.getfield 99, 3) := by decide +kernel
theorem dX4_addOpen_34 : decode cX4_addOpen 34 = .ok (.iload_n 1, 1) := by decide +kernel
theorem dX4_addOpen_35 : decode cX4_addOpen 35 = .ok (.iastore, 1) := by decide +kernel
theorem dX4_addOpen_36 : decode cX4_addOpen 36 = .ok (.aload_n 0, 1) := by decide +kernel
theorem dX4_addOpen_37 : decode cX4_addOpen 37 = .ok (.dup, 1) := by decide +kernel
theorem dX4_addOpen_38 : decode cX4_addOpen 38 = .ok (.getfield 99, 3) := by decide +kernel
theorem dX4_addOpen_41 : decode cX4_addOpen 41 = .ok (.iconst 1, 1) := by decide +kernel
theorem dX4_addOpen_42 : decode cX4_addOpen 42 = .ok (.iadd, 1) := by decide +kernel
theorem dX4_addOpen_43 : decode cX4_addOpen 43 = .ok (.putfield 99, 3) := by decide +kernel
theorem dX4_addOpen_46 : decode cX4_addOpen 46 = .ok (.return_, 1) := by decide +kernel
theorem dX4_placeIn_0 : decode cX4_placeIn 0 = .ok (.aload_n 0, 1) := by decide +kernel
theorem dX4_placeIn_1 : decode cX4_placeIn 1 = .ok (.getfield 11, 3) := by decide +kernel
theorem dX4_placeIn_4 : decode cX4_placeIn 4 = .ok (.iload_n 1, 1) := by decide +kernel
theorem dX4_placeIn_5 : decode cX4_placeIn 5 = .ok (.bipush 6, 2) := by decide +kernel
theorem dX4_placeIn_7 : decode cX4_placeIn 7 = .ok (.irem, 1) := by decide +kernel
theorem dX4_placeIn_8 : decode cX4_placeIn 8 = .ok (.aaload, 1) := by decide +kernel
theorem dX4_placeIn_9 : decode cX4_placeIn 9 = .ok (.getfield 49, 3) := by decide +kernel
theorem dX4_placeIn_12 : decode cX4_placeIn 12 = .ok (.aload_n 0, 1) := by decide +kernel
theorem dX4_placeIn_13 : decode cX4_placeIn 13 = .ok (.getfield 21, 3) := by decide +kernel
theorem dX4_placeIn_16 : decode cX4_placeIn 16 = .ok (.iload_n 1, 1) := by decide +kernel
theorem dX4_placeIn_17 : decode cX4_placeIn 17 = .ok (.iaload, 1) := by decide +kernel
theorem dX4_placeIn_18 : decode cX4_placeIn 18 = .ok (.iadd, 1) := by decide +kernel
theorem dX4_placeIn_19 : decode cX4_placeIn 19 = .ok (.iload_n 2, 1) := by decide +kernel
theorem dX4_placeIn_20 : decode cX4_placeIn 20 = .ok (.isub, 1) := by decide +kernel
theorem dX4_placeIn_21 : decode cX4_placeIn 21 = .ok (.ireturn, 1) := by decide +kernel
theorem dX4_letterOf_0 : decode cX4_letterOf 0 = .ok (.aload_n 0, 1) := by decide +kernel
theorem dX4_letterOf_1 : decode cX4_letterOf 1 = .ok (.getfield 11, 3) := by decide +kernel
theorem dX4_letterOf_4 : decode cX4_letterOf 4 = .ok (.iload_n 1, 1) := by decide +kernel
theorem dX4_letterOf_5 : decode cX4_letterOf 5 = .ok (.bipush 6, 2) := by decide +kernel
theorem dX4_letterOf_7 : decode cX4_letterOf 7 = .ok (.irem, 1) := by decide +kernel
theorem dX4_letterOf_8 : decode cX4_letterOf 8 = .ok (.aaload, 1) := by decide +kernel
theorem dX4_letterOf_9 : decode cX4_letterOf 9 = .ok (.aload_n 0, 1) := by decide +kernel
theorem dX4_letterOf_10 : decode cX4_letterOf 10 = .ok (.iload_n 1, 1) := by decide +kernel
theorem dX4_letterOf_11 : decode cX4_letterOf 11 = .ok (.iload_n 2, 1) := by decide +kernel
theorem dX4_letterOf_12 : decode cX4_letterOf 12 = .ok (.invokevirtual 105, 3) := by decide +kernel
theorem dX4_letterOf_15 : decode cX4_letterOf 15 = .ok (.invokevirtual 108, 3) := by decide +kernel
theorem dX4_letterOf_18 : decode cX4_letterOf 18 = .ok (.ireturn, 1) := by decide +kernel
theorem dX4_leastLetter_0 : decode cX4_leastLetter 0 = .ok (.bipush 26, 2) := by decide +kernel
theorem dX4_leastLetter_2 : decode cX4_leastLetter 2 = .ok (.istore_n 2, 1) := by decide +kernel
theorem dX4_leastLetter_3 : decode cX4_leastLetter 3 = .ok (.iconst 0, 1) := by decide +kernel
theorem dX4_leastLetter_4 : decode cX4_leastLetter 4 = .ok (.istore_n 3, 1) := by decide +kernel
theorem dX4_leastLetter_5 : decode cX4_leastLetter 5 = .ok (.iload_n 3, 1) := by decide +kernel
theorem dX4_leastLetter_6 : decode cX4_leastLetter 6 = .ok (.aload_n 0, 1) := by decide +kernel
theorem dX4_leastLetter_7 : decode cX4_leastLetter 7 = .ok (.getfield 99, 3) := by decide +kernel
theorem dX4_leastLetter_10 : decode cX4_leastLetter 10 = .ok (.if_icmp .ge 25, 3) := by decide +kernel
theorem dX4_leastLetter_13 : decode cX4_leastLetter 13 = .ok (.iload_n 2, 1) := by decide +kernel
theorem dX4_leastLetter_14 : decode cX4_leastLetter 14 = .ok (.aload_n 0, 1) := by decide +kernel
theorem dX4_leastLetter_15 : decode cX4_leastLetter 15 = .ok (.aload_n 0, 1) := by decide +kernel
theorem dX4_leastLetter_16 : decode cX4_leastLetter 16 = .ok (.getfield 28, 3) := by decide +kernel
theorem dX4_leastLetter_19 : decode cX4_leastLetter 19 = .ok (.iload_n 3, 1) := by decide +kernel
theorem dX4_leastLetter_20 : decode cX4_leastLetter 20 = .ok (.iaload, 1) := by decide +kernel
theorem dX4_leastLetter_21 : decode cX4_leastLetter 21 = .ok (.iload_n 1, 1) := by decide +kernel
theorem dX4_leastLetter_22 : decode cX4_leastLetter 22 = .ok (.invokevirtual 111, 3) := by decide +kernel
theorem dX4_leastLetter_25 : decode cX4_leastLetter 25 = .ok (.invokestatic 90, 3) := by decide +kernel
theorem dX4_leastLetter_28 : decode cX4_leastLetter 28 = .ok (.istore_n 2, 1) := by decide +kernel
theorem dX4_leastLetter_29 : decode cX4_leastLetter 29 = .ok (.iinc 3 1, 3) := by decide +kernel
theorem dX4_leastLetter_32 : decode cX4_leastLetter 32 = .ok (.goto (-27), 3) := by decide +kernel
theorem dX4_leastLetter_35 : decode cX4_leastLetter 35 = .ok (.iload_n 2, 1) := by decide +kernel
theorem dX4_leastLetter_36 : decode cX4_leastLetter 36 = .ok (.ireturn, 1) := by decide +kernel
theorem dX4_follow_0 : decode cX4_follow 0 = .ok (.aload_n 0, 1) := by decide +kernel
theorem dX4_follow_1 : decode cX4_follow 1 = .ok (.getfield 28, 3) := by decide +kernel
theorem dX4_follow_4 : decode cX4_follow 4 = .ok (.astore_n 3, 1) := by decide +kernel
theorem dX4_follow_5 : decode cX4_follow 5 = .ok (.aload_n 0, 1) := by decide +kernel
theorem dX4_follow_6 : decode cX4_follow 6 = .ok (.getfield 99, 3) := by decide +kernel
theorem dX4_follow_9 : decode cX4_follow 9 = .ok (.istore 4, 2) := by decide +kernel
theorem dX4_follow_11 : decode cX4_follow 11 = .ok (.aload_n 0, 1) := by decide +kernel
theorem dX4_follow_12 : decode cX4_follow 12 = .ok (.aload_n 0, 1) := by decide +kernel
theorem dX4_follow_13 : decode cX4_follow 13 = .ok (.getfield 31, 3) := by decide +kernel
theorem dX4_follow_16 : decode cX4_follow 16 = .ok (.putfield 28, 3) := by decide +kernel
theorem dX4_follow_19 : decode cX4_follow 19 = .ok (.aload_n 0, 1) := by decide +kernel
theorem dX4_follow_20 : decode cX4_follow 20 = .ok (.aload_n 3, 1) := by decide +kernel
theorem dX4_follow_21 : decode cX4_follow 21 = .ok (.putfield 31, 3) := by decide +kernel
theorem dX4_follow_24 : decode cX4_follow 24 = .ok (.aload_n 0, 1) := by decide +kernel
theorem dX4_follow_25 : decode cX4_follow 25 = .ok (.iconst 0, 1) := by decide +kernel
theorem dX4_follow_26 : decode cX4_follow 26 = .ok (.putfield 99, 3) := by decide +kernel
theorem dX4_follow_29 : decode cX4_follow 29 = .ok (.iconst 0, 1) := by decide +kernel
theorem dX4_follow_30 : decode cX4_follow 30 = .ok (.istore 5, 2) := by decide +kernel
theorem dX4_follow_32 : decode cX4_follow 32 = .ok (.iload 5, 2) := by decide +kernel
theorem dX4_follow_34 : decode cX4_follow 34 = .ok (.iload 4, 2) := by decide +kernel
theorem dX4_follow_36 : decode cX4_follow 36 = .ok (.if_icmp .ge 19, 3) := by decide +kernel
theorem dX4_follow_39 : decode cX4_follow 39 = .ok (.aload_n 0, 1) := by decide +kernel
theorem dX4_follow_40 : decode cX4_follow 40 = .ok (.getfield 24, 3) := by decide +kernel
theorem dX4_follow_43 : decode cX4_follow 43 = .ok (.aload_n 3, 1) := by decide +kernel
theorem dX4_follow_44 : decode cX4_follow 44 = .ok (.iload 5, 2) := by decide +kernel
theorem dX4_follow_46 : decode cX4_follow 46 = .ok (.iaload, 1) := by decide +kernel
theorem dX4_follow_47 : decode cX4_follow 47 = .ok (.iconst 0, 1) := by decide +kernel
theorem dX4_follow_48 : decode cX4_follow 48 = .ok (.bastore, 1) := by decide +kernel
theorem dX4_follow_49 : decode cX4_follow 49 = .ok (.iinc 5 1, 3) := by decide +kernel
theorem dX4_follow_52 : decode cX4_follow 52 = .ok (.goto (-20), 3) := by decide +kernel
theorem dX4_follow_55 : decode cX4_follow 55 = .ok (.iconst 0, 1) := by decide +kernel
theorem dX4_follow_56 : decode cX4_follow 56 = .ok (.istore 5, 2) := by decide +kernel
theorem dX4_follow_58 : decode cX4_follow 58 = .ok (.iload 5, 2) := by decide +kernel
theorem dX4_follow_60 : decode cX4_follow 60 = .ok (.iload 4, 2) := by decide +kernel
theorem dX4_follow_62 : decode cX4_follow 62 = .ok (.if_icmp .ge 66, 3) := by decide +kernel
theorem dX4_follow_65 : decode cX4_follow 65 = .ok (.aload_n 3, 1) := by decide +kernel
theorem dX4_follow_66 : decode cX4_follow 66 = .ok (.iload 5, 2) := by decide +kernel
theorem dX4_follow_68 : decode cX4_follow 68 = .ok (.iaload, 1) := by decide +kernel
theorem dX4_follow_69 : decode cX4_follow 69 = .ok (.istore 6, 2) := by decide +kernel
theorem dX4_follow_71 : decode cX4_follow 71 = .ok (.aload_n 0, 1) := by decide +kernel
theorem dX4_follow_72 : decode cX4_follow 72 = .ok (.iload 6, 2) := by decide +kernel
theorem dX4_follow_74 : decode cX4_follow 74 = .ok (.iload_n 2, 1) := by decide +kernel
theorem dX4_follow_75 : decode cX4_follow 75 = .ok (.invokevirtual 111, 3) := by decide +kernel
theorem dX4_follow_78 : decode cX4_follow 78 = .ok (.iload_n 1, 1) := by decide +kernel
theorem dX4_follow_79 : decode cX4_follow 79 = .ok (.if_icmp .ne 43, 3) := by decide +kernel
theorem dX4_follow_82 : decode cX4_follow 82 = .ok (.aload_n 0, 1) := by decide +kernel
theorem dX4_follow_83 : decode cX4_follow 83 = .ok (.iload 6, 2) := by decide +kernel
theorem dX4_follow_85 : decode cX4_follow 85 = .ok (.iload_n 2, 1) := by decide +kernel
theorem dX4_follow_86 : decode cX4_follow 86 = .ok (.invokevirtual 105, 3) := by decide +kernel
theorem dX4_follow_89 : decode cX4_follow 89 = .ok (.iconst 1, 1) := by decide +kernel
theorem dX4_follow_90 : decode cX4_follow 90 = .ok (.iadd, 1) := by decide +kernel
theorem dX4_follow_91 : decode cX4_follow 91 = .ok (.aload_n 0, 1) := by decide +kernel
theorem dX4_follow_92 : decode cX4_follow 92 = .ok (.getfield 11, 3) := by decide +kernel
theorem dX4_follow_95 : decode cX4_follow 95 = .ok (.iload 6, 2) := by decide +kernel
theorem dX4_follow_97 : decode cX4_follow 97 = .ok (.bipush 6, 2) := by decide +kernel
theorem dX4_follow_99 : decode cX4_follow 99 = .ok (.irem, 1) := by decide +kernel
theorem dX4_follow_100 : decode cX4_follow 100 = .ok (.aaload, 1) := by decide +kernel
theorem dX4_follow_101 : decode cX4_follow 101 = .ok (.getfield 49, 3) := by decide +kernel
theorem dX4_follow_104 : decode cX4_follow 104 = .ok (.if_icmp .ge 12, 3) := by decide +kernel
theorem dX4_follow_107 : decode cX4_follow 107 = .ok (.aload_n 0, 1) := by decide +kernel
theorem dX4_follow_108 : decode cX4_follow 108 = .ok (.iload 6, 2) := by decide +kernel
theorem dX4_follow_110 : decode cX4_follow 110 = .ok (.invokevirtual 102, 3) := by decide +kernel
theorem dX4_follow_113 : decode cX4_follow 113 = .ok (.goto 9, 3) := by decide +kernel
theorem dX4_follow_116 : decode cX4_follow 116 = .ok (.aload_n 0, 1) := by decide +kernel
theorem dX4_follow_117 : decode cX4_follow 117 = .ok (.iload 6, 2) := by decide +kernel
theorem dX4_follow_119 : decode cX4_follow 119 = .ok (.invokevirtual 114, 3) := by decide +kernel
theorem dX4_follow_122 : decode cX4_follow 122 = .ok (.iinc 5 1, 3) := by decide +kernel
theorem dX4_follow_125 : decode cX4_follow 125 = .ok (.goto (-67), 3) := by decide +kernel
theorem dX4_follow_128 : decode cX4_follow 128 = .ok (.return_, 1) := by decide +kernel
theorem dX4_addNexts_0 : decode cX4_addNexts 0 = .ok (.iload_n 1, 1) := by decide +kernel
theorem dX4_addNexts_1 : decode cX4_addNexts 1 = .ok (.bipush 6, 2) := by decide +kernel
theorem dX4_addNexts_3 : decode cX4_addNexts 3 = .ok (.idiv, 1) := by decide +kernel
theorem dX4_addNexts_4 : decode cX4_addNexts 4 = .ok (.istore_n 2, 1) := by decide +kernel
theorem dX4_addNexts_5 : decode cX4_addNexts 5 = .ok (.iconst 0, 1) := by decide +kernel
theorem dX4_addNexts_6 : decode cX4_addNexts 6 = .ok (.istore_n 3, 1) := by decide +kernel
theorem dX4_addNexts_7 : decode cX4_addNexts 7 = .ok (.iload_n 3, 1) := by decide +kernel
theorem dX4_addNexts_8 : decode cX4_addNexts 8 = .ok (.aload_n 0, 1) := by decide +kernel
theorem dX4_addNexts_9 : decode cX4_addNexts 9 = .ok (.getfield 41, 3) := by decide +kernel
theorem dX4_addNexts_12 : decode cX4_addNexts 12 = .ok (.if_icmp .ge 45, 3) := by decide +kernel
theorem dX4_addNexts_15 : decode cX4_addNexts 15 = .ok (.iload_n 2, 1) := by decide +kernel
theorem dX4_addNexts_16 : decode cX4_addNexts 16 = .ok (.iload_n 3, 1) := by decide +kernel
theorem dX4_addNexts_17 : decode cX4_addNexts 17 = .ok (.invokestatic 82, 3) := by decide +kernel
theorem dX4_addNexts_20 : decode cX4_addNexts 20 = .ok (.ifCond .ne 31, 3) := by decide +kernel
theorem dX4_addNexts_23 : decode cX4_addNexts 23 = .ok (.aload_n 0, 1) := by decide +kernel
theorem dX4_addNexts_24 : decode cX4_addNexts 24 = .ok (.iload_n 2, 1) := by decide +kernel
theorem dX4_addNexts_25 : decode cX4_addNexts 25 = .ok (.iload_n 1, 1) := by decide +kernel
theorem dX4_addNexts_26 : decode cX4_addNexts 26 = .ok (.bipush 6, 2) := by decide +kernel
theorem dX4_addNexts_28 : decode cX4_addNexts 28 = .ok (.irem, 1) := by decide +kernel
theorem dX4_addNexts_29 : decode cX4_addNexts 29 = .ok (.iload_n 3, 1) := by decide +kernel
theorem dX4_addNexts_30 : decode cX4_addNexts 30 = .ok (.invokevirtual 86, 3) := by decide +kernel
theorem dX4_addNexts_33 : decode cX4_addNexts 33 = .ok (.aload_n 0, 1) := by decide +kernel
theorem dX4_addNexts_34 : decode cX4_addNexts 34 = .ok (.getfield 21, 3) := by decide +kernel
theorem dX4_addNexts_37 : decode cX4_addNexts 37 = .ok (.iload_n 1, 1) := by decide +kernel
theorem dX4_addNexts_38 : decode cX4_addNexts 38 = .ok (.iaload, 1) := by decide +kernel
theorem dX4_addNexts_39 : decode cX4_addNexts 39 = .ok (.if_icmp .ne 12, 3) := by decide +kernel
theorem dX4_addNexts_42 : decode cX4_addNexts 42 = .ok (.aload_n 0, 1) := by decide +kernel
theorem dX4_addNexts_43 : decode cX4_addNexts 43 = .ok (.iload_n 2, 1) := by decide +kernel
theorem dX4_addNexts_44 : decode cX4_addNexts 44 = .ok (.iload_n 3, 1) := by decide +kernel
theorem dX4_addNexts_45 : decode cX4_addNexts 45 = .ok (.invokestatic 96, 3) := by decide +kernel
theorem dX4_addNexts_48 : decode cX4_addNexts 48 = .ok (.invokevirtual 102, 3) := by decide +kernel
theorem dX4_addNexts_51 : decode cX4_addNexts 51 = .ok (.iinc 3 1, 3) := by decide +kernel
theorem dX4_addNexts_54 : decode cX4_addNexts 54 = .ok (.goto (-47), 3) := by decide +kernel
theorem dX4_addNexts_57 : decode cX4_addNexts 57 = .ok (.return_, 1) := by decide +kernel
theorem dX5_init_0 : decode cX5_init 0 = .ok (.aload_n 0, 1) := by decide +kernel
theorem dX5_init_1 : decode cX5_init 1 = .ok (.invokespecial 3, 3) := by decide +kernel
theorem dX5_init_4 : decode cX5_init 4 = .ok (.aload_n 0, 1) := by decide +kernel
theorem dX5_init_5 : decode cX5_init 5 = .ok (.bipush 8, 2) := by decide +kernel
theorem dX5_init_7 : decode cX5_init 7 = .ok (.newarray .int, 2) := by decide +kernel
theorem dX5_init_9 : decode cX5_init 9 = .ok (.putfield 9, 3) := by decide +kernel
theorem dX5_init_12 : decode cX5_init 12 = .ok (.aload_n 0, 1) := by decide +kernel
theorem dX5_init_13 : decode cX5_init 13 = .ok (.sipush 2048, 3) := by decide +kernel
theorem dX5_init_16 : decode cX5_init 16 = .ok (.newarray .int, 2) := by decide +kernel
theorem dX5_init_18 : decode cX5_init 18 = .ok (.putfield 15, 3) := by decide +kernel
theorem dX5_init_21 : decode cX5_init 21 = .ok (.aload_n 0, 1) := by decide +kernel
theorem dX5_init_22 : decode cX5_init 22 = .ok (.sipush 256, 3) := by decide +kernel
theorem dX5_init_25 : decode cX5_init 25 = .ok (.newarray .int, 2) := by decide +kernel
theorem dX5_init_27 : decode cX5_init 27 = .ok (.putfield 18, 3) := by decide +kernel
theorem dX5_init_30 : decode cX5_init 30 = .ok (.aload_n 0, 1) := by decide +kernel
theorem dX5_init_31 : decode cX5_init 31 = .ok (.new 21, 3) := by decide +kernel
theorem dX5_init_34 : decode cX5_init 34 = .ok (.dup, 1) := by decide +kernel
theorem dX5_init_35 : decode cX5_init 35 = .ok (.bipush 8, 2) := by decide +kernel
theorem dX5_init_37 : decode cX5_init 37 = .ok (.newarray .int, 2) := by decide +kernel
theorem dX5_init_39 : decode cX5_init 39 = .ok (.invokespecial 23, 3) := by decide +kernel
theorem dX5_init_42 : decode cX5_init 42 = .ok (.putfield 26, 3) := by decide +kernel
theorem dX5_init_45 : decode cX5_init 45 = .ok (.aload_n 0, 1) := by decide +kernel
theorem dX5_init_46 : decode cX5_init 46 = .ok (.new 21, 3) := by decide +kernel
theorem dX5_init_49 : decode cX5_init 49 = .ok (.dup, 1) := by decide +kernel
theorem dX5_init_50 : decode cX5_init 50 = .ok (.bipush 8, 2) := by decide +kernel
theorem dX5_init_52 : decode cX5_init 52 = .ok (.newarray .int, 2) := by decide +kernel
theorem dX5_init_54 : decode cX5_init 54 = .ok (.invokespecial 23, 3) := by decide +kernel
theorem dX5_init_57 : decode cX5_init 57 = .ok (.putfield 30, 3) := by decide +kernel
theorem dX5_init_60 : decode cX5_init 60 = .ok (.return_, 1) := by decide +kernel
theorem dX5_link_0 : decode cX5_link 0 = .ok (.iload_n 1, 1) := by decide +kernel
theorem dX5_link_1 : decode cX5_link 1 = .ok (.ifCond .lt 16, 3) := by decide +kernel
theorem dX5_link_4 : decode cX5_link 4 = .ok (.iload_n 1, 1) := by decide +kernel
theorem dX5_link_5 : decode cX5_link 5 = .ok (.bipush 8, 2) := by decide +kernel
theorem dX5_link_7 : decode cX5_link 7 = .ok (.if_icmp .ge 10, 3) := by decide +kernel
theorem dX5_link_10 : decode cX5_link 10 = .ok (.aload_n 0, 1) := by decide +kernel
theorem dX5_link_11 : decode cX5_link 11 = .ok (.getfield 9, 3) := by decide +kernel
theorem dX5_link_14 : decode cX5_link 14 = .ok (.iload_n 1, 1) := by decide +kernel
theorem dX5_link_15 : decode cX5_link 15 = .ok (.iload_n 2, 1) := by decide +kernel
theorem dX5_link_16 : decode cX5_link 16 = .ok (.iastore, 1) := by decide +kernel
theorem dX5_link_17 : decode cX5_link 17 = .ok (.return_, 1) := by decide +kernel
theorem dX5_findChain_0 : decode cX5_findChain 0 = .ok (.iload_n 1, 1) := by decide +kernel
theorem dX5_findChain_1 : decode cX5_findChain 1 = .ok (.bipush 8, 2) := by decide +kernel
theorem dX5_findChain_3 : decode cX5_findChain 3 = .ok (.invokestatic 33, 3) := by decide +kernel
theorem dX5_findChain_6 : decode cX5_findChain 6 = .ok (.istore_n 2, 1) := by decide +kernel
theorem dX5_findChain_7 : decode cX5_findChain 7 = .ok (.iconst 1, 1) := by decide +kernel
theorem dX5_findChain_8 : decode cX5_findChain 8 = .ok (.iload_n 2, 1) := by decide +kernel
theorem dX5_findChain_9 : decode cX5_findChain 9 = .ok (.ishl, 1) := by decide +kernel
theorem dX5_findChain_10 : decode cX5_findChain 10 = .ok (.iconst 1, 1) := by decide +kernel
theorem dX5_findChain_11 : decode cX5_findChain 11 = .ok (.isub, 1) := by decide +kernel
theorem dX5_findChain_12 : decode cX5_findChain 12 = .ok (.istore_n 3, 1) := by decide +kernel
theorem dX5_findChain_13 : decode cX5_findChain 13 = .ok (.iload_n 3, 1) := by decide +kernel
theorem dX5_findChain_14 : decode cX5_findChain 14 = .ok (.ifCond .le 78, 3) := by decide +kernel
theorem dX5_findChain_17 : decode cX5_findChain 17 = .ok (.iconst 0, 1) := by decide +kernel
theorem dX5_findChain_18 : decode cX5_findChain 18 = .ok (.istore 4, 2) := by decide +kernel
theorem dX5_findChain_20 : decode cX5_findChain 20 = .ok (.iload 4, 2) := by decide +kernel
theorem dX5_findChain_22 : decode cX5_findChain 22 = .ok (.iload_n 2, 1) := by decide +kernel
theorem dX5_findChain_23 : decode cX5_findChain 23 = .ok (.if_icmp .ge 63, 3) := by decide +kernel
theorem dX5_findChain_26 : decode cX5_findChain 26 = .ok (.iload_n 3, 1) := by decide +kernel
theorem dX5_findChain_27 : decode cX5_findChain 27 = .ok (.iload 4, 2) := by decide +kernel
theorem dX5_findChain_29 : decode cX5_findChain 29 = .ok (.invokestatic 39, 3) := by decide +kernel
theorem dX5_findChain_32 : decode cX5_findChain 32 = .ok (.ifCond .eq 48, 3) := by decide +kernel
theorem dX5_findChain_35 : decode cX5_findChain 35 = .ok (.aload_n 0, 1) := by decide +kernel
theorem dX5_findChain_36 : decode cX5_findChain 36 = .ok (.iload_n 3, 1) := by decide +kernel
theorem dX5_findChain_37 : decode cX5_findChain 37 = .ok (.aload_n 0, 1) := by decide +kernel
theorem dX5_findChain_38 : decode cX5_findChain 38 = .ok (.getfield 9, 3) := by decide +kernel
theorem dX5_findChain_41 : decode cX5_findChain 41 = .ok (.iload 4, 2) := by decide +kernel
theorem dX5_findChain_43 : decode cX5_findChain 43 = .ok (.iaload, 1) := by decide +kernel
theorem dX5_findChain_44 : decode cX5_findChain 44 = .ok (.invokevirtual 43, 3) := by decide +kernel
theorem dX5_findChain_47 : decode cX5_findChain 47 = .ok (.istore 5, 2) := by decide +kernel
theorem dX5_findChain_49 : decode cX5_findChain 49 = .ok (.aload_n 0, 1) := by decide +kernel
theorem dX5_findChain_50 : decode cX5_findChain 50 = .ok (.getfield 15, 3) := by decide +kernel
theorem dX5_findChain_53 : decode cX5_findChain 53 = .ok (.iload_n 3, 1) := by decide +kernel
theorem dX5_findChain_54 : decode cX5_findChain 54 = .ok (.bipush 8, 2) := by decide +kernel
theorem dX5_findChain_56 : decode cX5_findChain 56 = .ok (.imul, 1) := by decide +kernel
theorem dX5_findChain_57 : decode cX5_findChain 57 = .ok (.iload 4, 2) := by decide +kernel
theorem dX5_findChain_59 : decode cX5_findChain 59 = .ok (.iadd, 1) := by decide +kernel
theorem dX5_findChain_60 : decode cX5_findChain 60 = .ok (.iconst 1, 1) := by decide +kernel
theorem dX5_findChain_61 : decode cX5_findChain 61 = .ok (.iload 5, 2) := by decide +kernel
theorem dX5_findChain_63 : decode cX5_findChain 63 = .ok (.iconst (-1), 1) := by decide +kernel
theorem dX5_findChain_64 : decode cX5_findChain 64 = .ok (.if_icmp .ne 7, 3) := by decide +kernel
theorem dX5_findChain_67 : decode cX5_findChain 67 = .ok (.iconst 0, 1) := by decide +kernel
theorem dX5_findChain_68 : decode cX5_findChain 68 = .ok (.goto 10, 3) := by decide +kernel
theorem dX5_findChain_71 : decode cX5_findChain 71 = .ok (.aload_n 0, 1) := by decide +kernel
theorem dX5_findChain_72 : decode cX5_findChain 72 = .ok (.iload_n 3, 1) := by decide +kernel
theorem dX5_findChain_73 : decode cX5_findChain 73 = .ok (.iload 5, 2) := by decide +kernel
theorem dX5_findChain_75 : decode cX5_findChain 75 = .ok (.invokevirtual 46, 3) := by decide +kernel
theorem dX5_findChain_78 : decode cX5_findChain 78 = .ok (.iadd, 1) := by decide +kernel
theorem dX5_findChain_79 : decode cX5_findChain 79 = .ok (.iastore, 1) := by decide +kernel
theorem dX5_findChain_80 : decode cX5_findChain 80 = .ok (.iinc 4 1, 3) := by decide +kernel
theorem dX5_findChain_83 : decode cX5_findChain 83 = .ok (.goto (-63), 3) := by decide +kernel
theorem dX5_findChain_86 : decode cX5_findChain 86 = .ok (.iinc 3 (-1), 3) := by decide +kernel
theorem dX5_findChain_89 : decode cX5_findChain 89 = .ok (.goto (-76), 3) := by decide +kernel
theorem dX5_findChain_92 : decode cX5_findChain 92 = .ok (.aload_n 0, 1) := by decide +kernel
theorem dX5_findChain_93 : decode cX5_findChain 93 = .ok (.getfield 26, 3) := by decide +kernel
theorem dX5_findChain_96 : decode cX5_findChain 96 = .ok (.invokevirtual 49, 3) := by decide +kernel
theorem dX5_findChain_99 : decode cX5_findChain 99 = .ok (.iconst 0, 1) := by decide +kernel
theorem dX5_findChain_100 : decode cX5_findChain 100 = .ok (.istore_n 3, 1) := by decide +kernel
theorem dX5_findChain_101 : decode cX5_findChain 101 = .ok (.aload_n 0, 1) := by decide +kernel
theorem dX5_findChain_102 : decode cX5_findChain 102 = .ok (.iload_n 3, 1) := by decide +kernel
theorem dX5_findChain_103 : decode cX5_findChain 103 = .ok (.iconst 1, 1) := by decide +kernel
theorem dX5_findChain_104 : decode cX5_findChain 104 = .ok (.iload_n 2, 1) := by decide +kernel
theorem dX5_findChain_105 : decode cX5_findChain 105 = .ok (.ishl, 1) := by decide +kernel
theorem dX5_findChain_106 : decode cX5_findChain 106 = .ok (.iconst 1, 1) := by decide +kernel
theorem dX5_findChain_107 : decode cX5_findChain 107 = .ok (.isub, 1) := by decide +kernel
theorem dX5_findChain_108 : decode cX5_findChain 108 = .ok (.invokevirtual 43, 3) := by decide +kernel
theorem dX5_findChain_111 : decode cX5_findChain 111 = .ok (.istore 4, 2) := by decide +kernel
theorem dX5_findChain_113 : decode cX5_findChain 113 = .ok (.iconst 0, 1) := by decide +kernel
theorem dX5_findChain_114 : decode cX5_findChain 114 = .ok (.istore 5, 2) := by decide +kernel
theorem dX5_findChain_116 : decode cX5_findChain 116 = .ok (.iload 5, 2) := by decide +kernel
theorem dX5_findChain_118 : decode cX5_findChain 118 = .ok (.iload_n 2, 1) := by decide +kernel
theorem dX5_findChain_119 : decode cX5_findChain 119 = .ok (.if_icmp .ge 45, 3) := by decide +kernel
theorem dX5_findChain_122 : decode cX5_findChain 122 = .ok (.iload 4, 2) := by decide +kernel
theorem dX5_findChain_124 : decode cX5_findChain 124 = .ok (.iconst (-1), 1) := by decide +kernel
theorem dX5_findChain_125 : decode cX5_findChain 125 = .ok (.if_icmp .eq 39, 3) := by decide +kernel
theorem dX5_findChain_128 : decode cX5_findChain 128 = .ok (.aload_n 0, 1) := by decide +kernel
theorem dX5_findChain_129 : decode cX5_findChain 129 = .ok (.getfield 26, 3) := by decide +kernel
theorem dX5_findChain_132 : decode cX5_findChain 132 = .ok (.iload 4, 2) := by decide +kernel
theorem dX5_findChain_134 : decode cX5_findChain 134 = .ok (.invokevirtual 52, 3) := by decide +kernel
theorem dX5_findChain_137 : decode cX5_findChain 137 = .ok (.iload_n 3, 1) := by decide +kernel
theorem dX5_findChain_138 : decode cX5_findChain 138 = .ok (.iconst 1, 1) := by decide +kernel
theorem dX5_findChain_139 : decode cX5_findChain 139 = .ok (.iload 4, 2) := by decide +kernel
theorem dX5_findChain_141 : decode cX5_findChain 141 = .ok (.ishl, 1) := by decide +kernel
theorem dX5_findChain_142 : decode cX5_findChain 142 = .ok (.ior, 1) := by decide +kernel
theorem dX5_findChain_143 : decode cX5_findChain 143 = .ok (.istore_n 3, 1) := by decide +kernel
theorem dX5_findChain_144 : decode cX5_findChain 144 = .ok (.aload_n 0, 1) := by decide +kernel
theorem dX5_findChain_145 : decode cX5_findChain 145 = .ok (.iload_n 3, 1) := by decide +kernel
theorem dX5_findChain_146 : decode cX5_findChain 146 = .ok (.aload_n 0, 1) := by decide +kernel
theorem dX5_findChain_147 : decode cX5_findChain 147 = .ok (.getfield 9, 3) := by decide +kernel
theorem dX5_findChain_150 : decode cX5_findChain 150 = .ok (.iload 4, 2) := by decide +kernel
theorem dX5_findChain_152 : decode cX5_findChain 152 = .ok (.iaload, 1) := by decide +kernel
theorem dX5_findChain_153 : decode cX5_findChain 153 = .ok (.invokevirtual 43, 3) := by decide +kernel
theorem dX5_findChain_156 : decode cX5_findChain 156 = .ok (.istore 4, 2) := by decide +kernel
theorem dX5_findChain_158 : decode cX5_findChain 158 = .ok (.iinc 5 1, 3) := by decide +kernel
theorem dX5_findChain_161 : decode cX5_findChain 161 = .ok (.goto (-45), 3) := by decide +kernel
theorem dX5_findChain_164 : decode cX5_findChain 164 = .ok (.return_, 1) := by decide +kernel
theorem dX5_bestLink_0 : decode cX5_bestLink 0 = .ok (.iload_n 2, 1) := by decide +kernel
theorem dX5_bestLink_1 : decode cX5_bestLink 1 = .ok (.iload_n 1, 1) := by decide +kernel
theorem dX5_bestLink_2 : decode cX5_bestLink 2 = .ok (.iconst (-1), 1) := by decide +kernel
theorem dX5_bestLink_3 : decode cX5_bestLink 3 = .ok (.ixor, 1) := by decide +kernel
theorem dX5_bestLink_4 : decode cX5_bestLink 4 = .ok (.iand, 1) := by decide +kernel
theorem dX5_bestLink_5 : decode cX5_bestLink 5 = .ok (.istore_n 3, 1) := by decide +kernel
theorem dX5_bestLink_6 : decode cX5_bestLink 6 = .ok (.iconst (-1), 1) := by decide +kernel
theorem dX5_bestLink_7 : decode cX5_bestLink 7 = .ok (.istore 4, 2) := by decide +kernel
theorem dX5_bestLink_9 : decode cX5_bestLink 9 = .ok (.iconst 0, 1) := by decide +kernel
theorem dX5_bestLink_10 : decode cX5_bestLink 10 = .ok (.istore 5, 2) := by decide +kernel
theorem dX5_bestLink_12 : decode cX5_bestLink 12 = .ok (.iconst 0, 1) := by decide +kernel
theorem dX5_bestLink_13 : decode cX5_bestLink 13 = .ok (.istore 6, 2) := by decide +kernel
theorem dX5_bestLink_15 : decode cX5_bestLink 15 = .ok (.iload_n 3, 1) := by decide +kernel
theorem dX5_bestLink_16 : decode cX5_bestLink 16 = .ok (.ifCond .eq 50, 3) := by decide +kernel
theorem dX5_bestLink_19 : decode cX5_bestLink 19 = .ok (.iload 6, 2) := by decide +kernel
theorem dX5_bestLink_21 : decode cX5_bestLink 21 = .ok (.bipush 8, 2) := by decide +kernel
theorem dX5_bestLink_23 : decode cX5_bestLink 23 = .ok (.if_icmp .ge 43, 3) := by decide +kernel
theorem dX5_bestLink_26 : decode cX5_bestLink 26 = .ok (.iload_n 3, 1) := by decide +kernel
theorem dX5_bestLink_27 : decode cX5_bestLink 27 = .ok (.iload 6, 2) := by decide +kernel
theorem dX5_bestLink_29 : decode cX5_bestLink 29 = .ok (.invokestatic 39, 3) := by decide +kernel
theorem dX5_bestLink_32 : decode cX5_bestLink 32 = .ok (.ifCond .eq 28, 3) := by decide +kernel
theorem dX5_bestLink_35 : decode cX5_bestLink 35 = .ok (.aload_n 0, 1) := by decide +kernel
theorem dX5_bestLink_36 : decode cX5_bestLink 36 = .ok (.iload_n 1, 1) := by decide +kernel
theorem dX5_bestLink_37 : decode cX5_bestLink 37 = .ok (.iload 6, 2) := by decide +kernel
theorem dX5_bestLink_39 : decode cX5_bestLink 39 = .ok (.invokevirtual 46, 3) := by decide +kernel
theorem dX5_bestLink_42 : decode cX5_bestLink 42 = .ok (.iload 5, 2) := by decide +kernel
theorem dX5_bestLink_44 : decode cX5_bestLink 44 = .ok (.if_icmp .le 16, 3) := by decide +kernel
theorem dX5_bestLink_47 : decode cX5_bestLink 47 = .ok (.aload_n 0, 1) := by decide +kernel
theorem dX5_bestLink_48 : decode cX5_bestLink 48 = .ok (.iload_n 1, 1) := by decide +kernel
theorem dX5_bestLink_49 : decode cX5_bestLink 49 = .ok (.iload 6, 2) := by decide +kernel
theorem dX5_bestLink_51 : decode cX5_bestLink 51 = .ok (.invokevirtual 46, 3) := by decide +kernel
theorem dX5_bestLink_54 : decode cX5_bestLink 54 = .ok (.istore 5, 2) := by decide +kernel
theorem dX5_bestLink_56 : decode cX5_bestLink 56 = .ok (.iload 6, 2) := by decide +kernel
theorem dX5_bestLink_58 : decode cX5_bestLink 58 = .ok (.istore 4, 2) := by decide +kernel
theorem dX5_bestLink_60 : decode cX5_bestLink 60 = .ok (.iinc 6 1, 3) := by decide +kernel
theorem dX5_bestLink_63 : decode cX5_bestLink 63 = .ok (.goto (-48), 3) := by decide +kernel
theorem dX5_bestLink_66 : decode cX5_bestLink 66 = .ok (.iload 4, 2) := by decide +kernel
theorem dX5_bestLink_68 : decode cX5_bestLink 68 = .ok (.ireturn, 1) := by decide +kernel
theorem dX5_lengthWith_0 : decode cX5_lengthWith 0 = .ok (.aload_n 0, 1) := by decide +kernel
theorem dX5_lengthWith_1 : decode cX5_lengthWith 1 = .ok (.getfield 15, 3) := by decide +kernel
theorem dX5_lengthWith_4 : decode cX5_lengthWith 4 = .ok (.iload_n 1, 1) := by decide +kernel
theorem dX5_lengthWith_5 : decode cX5_lengthWith 5 = .ok (.iconst 1, 1) := by decide +kernel
theorem dX5_lengthWith_6 : decode cX5_lengthWith 6 = .ok (.iload_n 2, 1) := by decide +kernel
theorem dX5_lengthWith_7 : decode cX5_lengthWith 7 = .ok (.ishl, 1) := by decide +kernel
theorem dX5_lengthWith_8 : decode cX5_lengthWith 8 = .ok (.ior, 1) := by decide +kernel
theorem dX5_lengthWith_9 : decode cX5_lengthWith 9 = .ok (.bipush 8, 2) := by decide +kernel
theorem dX5_lengthWith_11 : decode cX5_lengthWith 11 = .ok (.imul, 1) := by decide +kernel
theorem dX5_lengthWith_12 : decode cX5_lengthWith 12 = .ok (.iload_n 2, 1) := by decide +kernel
theorem dX5_lengthWith_13 : decode cX5_lengthWith 13 = .ok (.iadd, 1) := by decide +kernel
theorem dX5_lengthWith_14 : decode cX5_lengthWith 14 = .ok (.iaload, 1) := by decide +kernel
theorem dX5_lengthWith_15 : decode cX5_lengthWith 15 = .ok (.ireturn, 1) := by decide +kernel
theorem dX5_findShelf_0 : decode cX5_findShelf 0 = .ok (.aload_n 1, 1) := by decide +kernel
theorem dX5_findShelf_1 : decode cX5_findShelf 1 = .ok (.invokevirtual 56, 3) := by decide +kernel
theorem dX5_findShelf_4 : decode cX5_findShelf 4 = .ok (.istore_n 3, 1) := by decide +kernel
theorem dX5_findShelf_5 : decode cX5_findShelf 5 = .ok (.iload_n 3, 1) := by decide +kernel
theorem dX5_findShelf_6 : decode cX5_findShelf 6 = .ok (.istore 4, 2) := by decide +kernel
theorem dX5_findShelf_8 : decode cX5_findShelf 8 = .ok (.iload 4, 2) := by decide +kernel
theorem dX5_findShelf_10 : decode cX5_findShelf 10 = .ok (.ifCond .lt 56, 3) := by decide +kernel
theorem dX5_findShelf_13 : decode cX5_findShelf 13 = .ok (.iload 4, 2) := by decide +kernel
theorem dX5_findShelf_15 : decode cX5_findShelf 15 = .ok (.iload_n 3, 1) := by decide +kernel
theorem dX5_findShelf_16 : decode cX5_findShelf 16 = .ok (.iconst (-1), 1) := by decide +kernel
theorem dX5_findShelf_17 : decode cX5_findShelf 17 = .ok (.ixor, 1) := by decide +kernel
theorem dX5_findShelf_18 : decode cX5_findShelf 18 = .ok (.iand, 1) := by decide +kernel
theorem dX5_findShelf_19 : decode cX5_findShelf 19 = .ok (.ifCond .ne 41, 3) := by decide +kernel
theorem dX5_findShelf_22 : decode cX5_findShelf 22 = .ok (.aload_n 0, 1) := by decide +kernel
theorem dX5_findShelf_23 : decode cX5_findShelf 23 = .ok (.aload_n 1, 1) := by decide +kernel
theorem dX5_findShelf_24 : decode cX5_findShelf 24 = .ok (.iload_n 2, 1) := by decide +kernel
theorem dX5_findShelf_25 : decode cX5_findShelf 25 = .ok (.iload 4, 2) := by decide +kernel
theorem dX5_findShelf_27 : decode cX5_findShelf 27 = .ok (.iload_n 3, 1) := by decide +kernel
theorem dX5_findShelf_28 : decode cX5_findShelf 28 = .ok (.invokevirtual 62, 3) := by decide +kernel
theorem dX5_findShelf_31 : decode cX5_findShelf 31 = .ok (.istore 5, 2) := by decide +kernel
theorem dX5_findShelf_33 : decode cX5_findShelf 33 = .ok (.aload_n 0, 1) := by decide +kernel
theorem dX5_findShelf_34 : decode cX5_findShelf 34 = .ok (.getfield 18, 3) := by decide +kernel
theorem dX5_findShelf_37 : decode cX5_findShelf 37 = .ok (.iload 4, 2) := by decide +kernel
theorem dX5_findShelf_39 : decode cX5_findShelf 39 = .ok (.iload 5, 2) := by decide +kernel
theorem dX5_findShelf_41 : decode cX5_findShelf 41 = .ok (.iconst (-1), 1) := by decide +kernel
theorem dX5_findShelf_42 : decode cX5_findShelf 42 = .ok (.if_icmp .ne 7, 3) := by decide +kernel
theorem dX5_findShelf_45 : decode cX5_findShelf 45 = .ok (.iconst 0, 1) := by decide +kernel
theorem dX5_findShelf_46 : decode cX5_findShelf 46 = .ok (.goto 13, 3) := by decide +kernel
theorem dX5_findShelf_49 : decode cX5_findShelf 49 = .ok (.aload_n 0, 1) := by decide +kernel
theorem dX5_findShelf_50 : decode cX5_findShelf 50 = .ok (.aload_n 1, 1) := by decide +kernel
theorem dX5_findShelf_51 : decode cX5_findShelf 51 = .ok (.iload_n 2, 1) := by decide +kernel
theorem dX5_findShelf_52 : decode cX5_findShelf 52 = .ok (.iload 4, 2) := by decide +kernel
theorem dX5_findShelf_54 : decode cX5_findShelf 54 = .ok (.iload 5, 2) := by decide +kernel
theorem dX5_findShelf_56 : decode cX5_findShelf 56 = .ok (.invokevirtual 66, 3) := by decide +kernel
theorem dX5_findShelf_59 : decode cX5_findShelf 59 = .ok (.iastore, 1) := by decide +kernel
theorem dX5_findShelf_60 : decode cX5_findShelf 60 = .ok (.iinc 4 (-1), 3) := by decide +kernel
theorem dX5_findShelf_63 : decode cX5_findShelf 63 = .ok (.goto (-55), 3) := by decide +kernel
theorem dX5_findShelf_66 : decode cX5_findShelf 66 = .ok (.aload_n 0, 1) := by decide +kernel
theorem dX5_findShelf_67 : decode cX5_findShelf 67 = .ok (.getfield 30, 3) := by decide +kernel
theorem dX5_findShelf_70 : decode cX5_findShelf 70 = .ok (.invokevirtual 49, 3) := by decide +kernel
theorem dX5_findShelf_73 : decode cX5_findShelf 73 = .ok (.iconst 0, 1) := by decide +kernel
theorem dX5_findShelf_74 : decode cX5_findShelf 74 = .ok (.istore 4, 2) := by decide +kernel
theorem dX5_findShelf_76 : decode cX5_findShelf 76 = .ok (.iconst 0, 1) := by decide +kernel
theorem dX5_findShelf_77 : decode cX5_findShelf 77 = .ok (.istore 5, 2) := by decide +kernel
theorem dX5_findShelf_79 : decode cX5_findShelf 79 = .ok (.iload 5, 2) := by decide +kernel
theorem dX5_findShelf_81 : decode cX5_findShelf 81 = .ok (.bipush 8, 2) := by decide +kernel
theorem dX5_findShelf_83 : decode cX5_findShelf 83 = .ok (.if_icmp .ge 50, 3) := by decide +kernel
theorem dX5_findShelf_86 : decode cX5_findShelf 86 = .ok (.iload 4, 2) := by decide +kernel
theorem dX5_findShelf_88 : decode cX5_findShelf 88 = .ok (.iload_n 3, 1) := by decide +kernel
theorem dX5_findShelf_89 : decode cX5_findShelf 89 = .ok (.if_icmp .eq 44, 3) := by decide +kernel
theorem dX5_findShelf_92 : decode cX5_findShelf 92 = .ok (.aload_n 0, 1) := by decide +kernel
theorem dX5_findShelf_93 : decode cX5_findShelf 93 = .ok (.aload_n 1, 1) := by decide +kernel
theorem dX5_findShelf_94 : decode cX5_findShelf 94 = .ok (.iload_n 2, 1) := by decide +kernel
theorem dX5_findShelf_95 : decode cX5_findShelf 95 = .ok (.iload 4, 2) := by decide +kernel
theorem dX5_findShelf_97 : decode cX5_findShelf 97 = .ok (.iload_n 3, 1) := by decide +kernel
theorem dX5_findShelf_98 : decode cX5_findShelf 98 = .ok (.invokevirtual 62, 3) := by decide +kernel
theorem dX5_findShelf_101 : decode cX5_findShelf 101 = .ok (.istore 6, 2) := by decide +kernel
theorem dX5_findShelf_103 : decode cX5_findShelf 103 = .ok (.iload 6, 2) := by decide +kernel
theorem dX5_findShelf_105 : decode cX5_findShelf 105 = .ok (.iconst (-1), 1) := by decide +kernel
theorem dX5_findShelf_106 : decode cX5_findShelf 106 = .ok (.if_icmp .eq 21, 3) := by decide +kernel
theorem dX5_findShelf_109 : decode cX5_findShelf 109 = .ok (.aload_n 0, 1) := by decide +kernel
theorem dX5_findShelf_110 : decode cX5_findShelf 110 = .ok (.getfield 30, 3) := by decide +kernel
theorem dX5_findShelf_113 : decode cX5_findShelf 113 = .ok (.iload 6, 2) := by decide +kernel
theorem dX5_findShelf_115 : decode cX5_findShelf 115 = .ok (.invokevirtual 52, 3) := by decide +kernel
theorem dX5_findShelf_118 : decode cX5_findShelf 118 = .ok (.iload 4, 2) := by decide +kernel
theorem dX5_findShelf_120 : decode cX5_findShelf 120 = .ok (.iconst 1, 1) := by decide +kernel
theorem dX5_findShelf_121 : decode cX5_findShelf 121 = .ok (.iload 6, 2) := by decide +kernel
theorem dX5_findShelf_123 : decode cX5_findShelf 123 = .ok (.ishl, 1) := by decide +kernel
theorem dX5_findShelf_124 : decode cX5_findShelf 124 = .ok (.ior, 1) := by decide +kernel
theorem dX5_findShelf_125 : decode cX5_findShelf 125 = .ok (.istore 4, 2) := by decide +kernel
theorem dX5_findShelf_127 : decode cX5_findShelf 127 = .ok (.iinc 5 1, 3) := by decide +kernel
theorem dX5_findShelf_130 : decode cX5_findShelf 130 = .ok (.goto (-51), 3) := by decide +kernel
theorem dX5_findShelf_133 : decode cX5_findShelf 133 = .ok (.aload_n 0, 1) := by decide +kernel
theorem dX5_findShelf_134 : decode cX5_findShelf 134 = .ok (.getfield 18, 3) := by decide +kernel
theorem dX5_findShelf_137 : decode cX5_findShelf 137 = .ok (.iconst 0, 1) := by decide +kernel
theorem dX5_findShelf_138 : decode cX5_findShelf 138 = .ok (.iaload, 1) := by decide +kernel
theorem dX5_findShelf_139 : decode cX5_findShelf 139 = .ok (.ireturn, 1) := by decide +kernel
theorem dX5_bestOpening_0 : decode cX5_bestOpening 0 = .ok (.iconst (-1), 1) := by decide +kernel
theorem dX5_bestOpening_1 : decode cX5_bestOpening 1 = .ok (.istore 5, 2) := by decide +kernel
theorem dX5_bestOpening_3 : decode cX5_bestOpening 3 = .ok (.iconst (-1), 1) := by decide +kernel
theorem dX5_bestOpening_4 : decode cX5_bestOpening 4 = .ok (.istore 6, 2) := by decide +kernel
theorem dX5_bestOpening_6 : decode cX5_bestOpening 6 = .ok (.iconst 0, 1) := by decide +kernel
theorem dX5_bestOpening_7 : decode cX5_bestOpening 7 = .ok (.istore 7, 2) := by decide +kernel
theorem dX5_bestOpening_9 : decode cX5_bestOpening 9 = .ok (.iload 7, 2) := by decide +kernel
theorem dX5_bestOpening_11 : decode cX5_bestOpening 11 = .ok (.aload_n 1, 1) := by decide +kernel
theorem dX5_bestOpening_12 : decode cX5_bestOpening 12 = .ok (.getfield 69, 3) := by decide +kernel
theorem dX5_bestOpening_15 : decode cX5_bestOpening 15 = .ok (.if_icmp .ge 49, 3) := by decide +kernel
theorem dX5_bestOpening_18 : decode cX5_bestOpening 18 = .ok (.iload 4, 2) := by decide +kernel
theorem dX5_bestOpening_20 : decode cX5_bestOpening 20 = .ok (.iload_n 3, 1) := by decide +kernel
theorem dX5_bestOpening_21 : decode cX5_bestOpening 21 = .ok (.iconst (-1), 1) := by decide +kernel
theorem dX5_bestOpening_22 : decode cX5_bestOpening 22 = .ok (.ixor, 1) := by decide +kernel
theorem dX5_bestOpening_23 : decode cX5_bestOpening 23 = .ok (.iand, 1) := by decide +kernel
theorem dX5_bestOpening_24 : decode cX5_bestOpening 24 = .ok (.iload 7, 2) := by decide +kernel
theorem dX5_bestOpening_26 : decode cX5_bestOpening 26 = .ok (.invokestatic 39, 3) := by decide +kernel
theorem dX5_bestOpening_29 : decode cX5_bestOpening 29 = .ok (.ifCond .eq 29, 3) := by decide +kernel
theorem dX5_bestOpening_32 : decode cX5_bestOpening 32 = .ok (.aload_n 0, 1) := by decide +kernel
theorem dX5_bestOpening_33 : decode cX5_bestOpening 33 = .ok (.aload_n 1, 1) := by decide +kernel
theorem dX5_bestOpening_34 : decode cX5_bestOpening 34 = .ok (.iload_n 2, 1) := by decide +kernel
theorem dX5_bestOpening_35 : decode cX5_bestOpening 35 = .ok (.iload_n 3, 1) := by decide +kernel
theorem dX5_bestOpening_36 : decode cX5_bestOpening 36 = .ok (.iload 7, 2) := by decide +kernel
theorem dX5_bestOpening_38 : decode cX5_bestOpening 38 = .ok (.invokevirtual 66, 3) := by decide +kernel
theorem dX5_bestOpening_41 : decode cX5_bestOpening 41 = .ok (.istore 8, 2) := by decide +kernel
theorem dX5_bestOpening_43 : decode cX5_bestOpening 43 = .ok (.iload 8, 2) := by decide +kernel
theorem dX5_bestOpening_45 : decode cX5_bestOpening 45 = .ok (.iload 6, 2) := by decide +kernel
theorem dX5_bestOpening_47 : decode cX5_bestOpening 47 = .ok (.if_icmp .le 11, 3) := by decide +kernel
theorem dX5_bestOpening_50 : decode cX5_bestOpening 50 = .ok (.iload 8, 2) := by decide +kernel
theorem dX5_bestOpening_52 : decode cX5_bestOpening 52 = .ok (.istore 6, 2) := by decide +kernel
theorem dX5_bestOpening_54 : decode cX5_bestOpening 54 = .ok (.iload 7, 2) := by decide +kernel
theorem dX5_bestOpening_56 : decode cX5_bestOpening 56 = .ok (.istore 5, 2) := by decide +kernel
theorem dX5_bestOpening_58 : decode cX5_bestOpening 58 = .ok (.iinc 7 1, 3) := by decide +kernel
theorem dX5_bestOpening_61 : decode cX5_bestOpening 61 = .ok (.goto (-52), 3) := by decide +kernel
theorem dX5_bestOpening_64 : decode cX5_bestOpening 64 = .ok (.iload 5, 2) := by decide +kernel
theorem dX5_bestOpening_66 : decode cX5_bestOpening 66 = .ok (.ireturn, 1) := by decide +kernel
theorem dX5_gainWith_0 : decode cX5_gainWith 0 = .ok (.aload_n 1, 1) := by decide +kernel
theorem dX5_gainWith_1 : decode cX5_gainWith 1 = .ok (.getfield 73, 3) := by decide +kernel
theorem dX5_gainWith_4 : decode cX5_gainWith 4 = .ok (.iload 4, 2) := by decide +kernel
theorem dX5_gainWith_6 : decode cX5_gainWith 6 = .ok (.aaload, 1) := by decide +kernel
theorem dX5_gainWith_7 : decode cX5_gainWith 7 = .ok (.iload_n 2, 1) := by decide +kernel
theorem dX5_gainWith_8 : decode cX5_gainWith 8 = .ok (.iload_n 3, 1) := by decide +kernel
theorem dX5_gainWith_9 : decode cX5_gainWith 9 = .ok (.invokestatic 77, 3) := by decide +kernel
theorem dX5_gainWith_12 : decode cX5_gainWith 12 = .ok (.iadd, 1) := by decide +kernel
theorem dX5_gainWith_13 : decode cX5_gainWith 13 = .ok (.invokevirtual 83, 3) := by decide +kernel
theorem dX5_gainWith_16 : decode cX5_gainWith 16 = .ok (.istore 5, 2) := by decide +kernel
theorem dX5_gainWith_18 : decode cX5_gainWith 18 = .ok (.aload_n 1, 1) := by decide +kernel
theorem dX5_gainWith_19 : decode cX5_gainWith 19 = .ok (.getfield 73, 3) := by decide +kernel
theorem dX5_gainWith_22 : decode cX5_gainWith 22 = .ok (.iload 4, 2) := by decide +kernel
theorem dX5_gainWith_24 : decode cX5_gainWith 24 = .ok (.aaload, 1) := by decide +kernel
theorem dX5_gainWith_25 : decode cX5_gainWith 25 = .ok (.getfield 88, 3) := by decide +kernel
theorem dX5_gainWith_28 : decode cX5_gainWith 28 = .ok (.iload 5, 2) := by decide +kernel
theorem dX5_gainWith_30 : decode cX5_gainWith 30 = .ok (.imul, 1) := by decide +kernel
theorem dX5_gainWith_31 : decode cX5_gainWith 31 = .ok (.aload_n 0, 1) := by decide +kernel
theorem dX5_gainWith_32 : decode cX5_gainWith 32 = .ok (.getfield 18, 3) := by decide +kernel
theorem dX5_gainWith_35 : decode cX5_gainWith 35 = .ok (.iload_n 3, 1) := by decide +kernel
theorem dX5_gainWith_36 : decode cX5_gainWith 36 = .ok (.iconst 1, 1) := by decide +kernel
theorem dX5_gainWith_37 : decode cX5_gainWith 37 = .ok (.iload 4, 2) := by decide +kernel
theorem dX5_gainWith_39 : decode cX5_gainWith 39 = .ok (.ishl, 1) := by decide +kernel
theorem dX5_gainWith_40 : decode cX5_gainWith 40 = .ok (.ior, 1) := by decide +kernel
theorem dX5_gainWith_41 : decode cX5_gainWith 41 = .ok (.iaload, 1) := by decide +kernel
theorem dX5_gainWith_42 : decode cX5_gainWith 42 = .ok (.iadd, 1) := by decide +kernel
theorem dX5_gainWith_43 : decode cX5_gainWith 43 = .ok (.ireturn, 1) := by decide +kernel
theorem dX6_init_0 : decode cX6_init 0 = .ok (.aload_n 0, 1) := by decide +kernel
theorem dX6_init_1 : decode cX6_init 1 = .ok (.invokespecial 3, 3) := by decide +kernel
theorem dX6_init_4 : decode cX6_init 4 = .ok (.aload_n 0, 1) := by decide +kernel
theorem dX6_init_5 : decode cX6_init 5 = .ok (.aload_n 1, 1) := by decide +kernel
theorem dX6_init_6 : decode cX6_init 6 = .ok (.putfield 9, 3) := by decide +kernel
theorem dX6_init_9 : decode cX6_init 9 = .ok (.return_, 1) := by decide +kernel
theorem dX6_show_0 : decode cX6_show 0 = .ok (.iload_n 2, 1) := by decide +kernel
theorem dX6_show_1 : decode cX6_show 1 = .ok (.ifCond .lt 19, 3) := by decide +kernel
theorem dX6_show_4 : decode cX6_show 4 = .ok (.iload_n 3, 1) := by decide +kernel
theorem dX6_show_5 : decode cX6_show 5 = .ok (.ifCond .lt 15, 3) := by decide +kernel
theorem dX6_show_8 : decode cX6_show 8 = .ok (.iload_n 2, 1) := by decide +kernel
theorem dX6_show_9 : decode cX6_show 9 = .ok (.aload_n 1, 1) := by decide +kernel
theorem dX6_show_10 : decode cX6_show 10 = .ok (.arraylength, 1) := by decide +kernel
theorem dX6_show_11 : decode cX6_show 11 = .ok (.iload_n 3, 1) := by decide +kernel
theorem dX6_show_12 : decode cX6_show 12 = .ok (.isub, 1) := by decide +kernel
theorem dX6_show_13 : decode cX6_show 13 = .ok (.if_icmp .gt 7, 3) := by decide +kernel
theorem dX6_show_16 : decode cX6_show 16 = .ok (.iconst 1, 1) := by decide +kernel
theorem dX6_show_17 : decode cX6_show 17 = .ok (.goto 4, 3) := by decide +kernel
theorem dX6_show_20 : decode cX6_show 20 = .ok (.iconst 0, 1) := by decide +kernel
theorem dX6_show_21 : decode cX6_show 21 = .ok (.istore 4, 2) := by decide +kernel
theorem dX6_show_23 : decode cX6_show 23 = .ok (.aload_n 0, 1) := by decide +kernel
theorem dX6_show_24 : decode cX6_show 24 = .ok (.aload_n 1, 1) := by decide +kernel
theorem dX6_show_25 : decode cX6_show 25 = .ok (.putfield 9, 3) := by decide +kernel
theorem dX6_show_28 : decode cX6_show 28 = .ok (.aload_n 0, 1) := by decide +kernel
theorem dX6_show_29 : decode cX6_show 29 = .ok (.iload 4, 2) := by decide +kernel
theorem dX6_show_31 : decode cX6_show 31 = .ok (.ifCond .eq 7, 3) := by decide +kernel
theorem dX6_show_34 : decode cX6_show 34 = .ok (.iload_n 2, 1) := by decide +kernel
theorem dX6_show_35 : decode cX6_show 35 = .ok (.goto 4, 3) := by decide +kernel
theorem dX6_show_38 : decode cX6_show 38 = .ok (.iconst 0, 1) := by decide +kernel
theorem dX6_show_39 : decode cX6_show 39 = .ok (.putfield 15, 3) := by decide +kernel
theorem dX6_show_42 : decode cX6_show 42 = .ok (.aload_n 0, 1) := by decide +kernel
theorem dX6_show_43 : decode cX6_show 43 = .ok (.iload 4, 2) := by decide +kernel
theorem dX6_show_45 : decode cX6_show 45 = .ok (.ifCond .eq 7, 3) := by decide +kernel
theorem dX6_show_48 : decode cX6_show 48 = .ok (.iload_n 3, 1) := by decide +kernel
theorem dX6_show_49 : decode cX6_show 49 = .ok (.goto 4, 3) := by decide +kernel
theorem dX6_show_52 : decode cX6_show 52 = .ok (.iconst 0, 1) := by decide +kernel
theorem dX6_show_53 : decode cX6_show 53 = .ok (.putfield 19, 3) := by decide +kernel
theorem dX6_show_56 : decode cX6_show 56 = .ok (.return_, 1) := by decide +kernel
theorem dX6_clear_0 : decode cX6_clear 0 = .ok (.aload_n 0, 1) := by decide +kernel
theorem dX6_clear_1 : decode cX6_clear 1 = .ok (.iconst 0, 1) := by decide +kernel
theorem dX6_clear_2 : decode cX6_clear 2 = .ok (.putfield 19, 3) := by decide +kernel
theorem dX6_clear_5 : decode cX6_clear 5 = .ok (.return_, 1) := by decide +kernel
theorem dX6_add_0 : decode cX6_add 0 = .ok (.aload_n 0, 1) := by decide +kernel
theorem dX6_add_1 : decode cX6_add 1 = .ok (.getfield 15, 3) := by decide +kernel
theorem dX6_add_4 : decode cX6_add 4 = .ok (.aload_n 0, 1) := by decide +kernel
theorem dX6_add_5 : decode cX6_add 5 = .ok (.getfield 19, 3) := by decide +kernel
theorem dX6_add_8 : decode cX6_add 8 = .ok (.iadd, 1) := by decide +kernel
theorem dX6_add_9 : decode cX6_add 9 = .ok (.aload_n 0, 1) := by decide +kernel
theorem dX6_add_10 : decode cX6_add 10 = .ok (.getfield 9, 3) := by decide +kernel
theorem dX6_add_13 : decode cX6_add 13 = .ok (.arraylength, 1) := by decide +kernel
theorem dX6_add_14 : decode cX6_add 14 = .ok (.if_icmp .ge 28, 3) := by decide +kernel
theorem dX6_add_17 : decode cX6_add 17 = .ok (.aload_n 0, 1) := by decide +kernel
theorem dX6_add_18 : decode cX6_add 18 = .ok (.getfield 9, 3) := by decide +kernel
theorem dX6_add_21 : decode cX6_add 21 = .ok (.aload_n 0, 1) := by decide +kernel
theorem dX6_add_22 : decode cX6_add 22 = .ok (.getfield 15, 3) := by decide +kernel
theorem dX6_add_25 : decode cX6_add 25 = .ok (.aload_n 0, 1) := by decide +kernel
theorem dX6_add_26 : decode cX6_add 26 = .ok (.getfield 19, 3) := by decide +kernel
theorem dX6_add_29 : decode cX6_add 29 = .ok (.iadd, 1) := by decide +kernel
theorem dX6_add_30 : decode cX6_add 30 = .ok (.iload_n 1, 1) := by decide +kernel
theorem dX6_add_31 : decode cX6_add 31 = .ok (.iastore, 1) := by decide +kernel
theorem dX6_add_32 : decode cX6_add 32 = .ok (.aload_n 0, 1) := by decide +kernel
theorem dX6_add_33 : decode cX6_add 33 = .ok (.dup, 1) := by decide +kernel
theorem dX6_add_34 : decode cX6_add 34 = .ok (.getfield 19, 3) := by decide +kernel
theorem dX6_add_37 : decode cX6_add 37 = .ok (.iconst 1, 1) := by decide +kernel
theorem dX6_add_38 : decode cX6_add 38 = .ok (.iadd, 1) := by decide +kernel
theorem dX6_add_39 : decode cX6_add 39 = .ok (.putfield 19, 3) := by decide +kernel
theorem dX6_add_42 : decode cX6_add 42 = .ok (.return_, 1) := by decide +kernel
theorem dX6_has_0 : decode cX6_has 0 = .ok (.iload_n 1, 1) := by decide +kernel
theorem dX6_has_1 : decode cX6_has 1 = .ok (.ifCond .lt 15, 3) := by decide +kernel
theorem dX6_has_4 : decode cX6_has 4 = .ok (.iload_n 1, 1) := by decide +kernel
theorem dX6_has_5 : decode cX6_has 5 = .ok (.aload_n 0, 1) := by decide +kernel
theorem dX6_has_6 : decode cX6_has 6 = .ok (.getfield 19, 3) := by decide +kernel
theorem dX6_has_9 : decode cX6_has 9 = .ok (.if_icmp .ge 7, 3) := by decide +kernel
theorem dX6_has_12 : decode cX6_has 12 = .ok (.iconst 1, 1) := by decide +kernel
theorem dX6_has_13 : decode cX6_has 13 = .ok (.goto 4, 3) := by decide +kernel
theorem dX6_has_16 : decode cX6_has 16 = .ok (.iconst 0, 1) := by decide +kernel
theorem dX6_has_17 : decode cX6_has 17 = .ok (.ireturn, 1) := by decide +kernel
theorem dX6_at_0 : decode cX6_at 0 = .ok (.aload_n 0, 1) := by decide +kernel
theorem dX6_at_1 : decode cX6_at 1 = .ok (.iload_n 1, 1) := by decide +kernel
theorem dX6_at_2 : decode cX6_at 2 = .ok (.invokevirtual 22, 3) := by decide +kernel
theorem dX6_at_5 : decode cX6_at 5 = .ok (.ifCond .eq 17, 3) := by decide +kernel
theorem dX6_at_8 : decode cX6_at 8 = .ok (.aload_n 0, 1) := by decide +kernel
theorem dX6_at_9 : decode cX6_at 9 = .ok (.getfield 9, 3) := by decide +kernel
theorem dX6_at_12 : decode cX6_at 12 = .ok (.aload_n 0, 1) := by decide +kernel
theorem dX6_at_13 : decode cX6_at 13 = .ok (.getfield 15, 3) := by decide +kernel
theorem dX6_at_16 : decode cX6_at 16 = .ok (.iload_n 1, 1) := by decide +kernel
theorem dX6_at_17 : decode cX6_at 17 = .ok (.iadd, 1) := by decide +kernel
theorem dX6_at_18 : decode cX6_at 18 = .ok (.iaload, 1) := by decide +kernel
theorem dX6_at_19 : decode cX6_at 19 = .ok (.goto 4, 3) := by decide +kernel
theorem dX6_at_22 : decode cX6_at 22 = .ok (.iconst 0, 1) := by decide +kernel
theorem dX6_at_23 : decode cX6_at 23 = .ok (.ireturn, 1) := by decide +kernel
theorem dX6_countLetters_0 : decode cX6_countLetters 0 = .ok (.iconst 0, 1) := by decide +kernel
theorem dX6_countLetters_1 : decode cX6_countLetters 1 = .ok (.istore_n 1, 1) := by decide +kernel
theorem dX6_countLetters_2 : decode cX6_countLetters 2 = .ok (.iconst 0, 1) := by decide +kernel
theorem dX6_countLetters_3 : decode cX6_countLetters 3 = .ok (.istore_n 2, 1) := by decide +kernel
theorem dX6_countLetters_4 : decode cX6_countLetters 4 = .ok (.iload_n 2, 1) := by decide +kernel
theorem dX6_countLetters_5 : decode cX6_countLetters 5 = .ok (.aload_n 0, 1) := by decide +kernel
theorem dX6_countLetters_6 : decode cX6_countLetters 6 = .ok (.getfield 19, 3) := by decide +kernel
theorem dX6_countLetters_9 : decode cX6_countLetters 9 = .ok (.if_icmp .ge 20, 3) := by decide +kernel
theorem dX6_countLetters_12 : decode cX6_countLetters 12 = .ok (.aload_n 0, 1) := by decide +kernel
theorem dX6_countLetters_13 : decode cX6_countLetters 13 = .ok (.iload_n 2, 1) := by decide +kernel
theorem dX6_countLetters_14 : decode cX6_countLetters 14 = .ok (.invokevirtual 26, 3) := by decide +kernel
theorem dX6_countLetters_17 : decode cX6_countLetters 17 = .ok (.ifCond .eq 6, 3) := by decide +kernel
theorem dX6_countLetters_20 : decode cX6_countLetters 20 = .ok (.iinc 1 1, 3) := by decide +kernel
theorem dX6_countLetters_23 : decode cX6_countLetters 23 = .ok (.iinc 2 1, 3) := by decide +kernel
theorem dX6_countLetters_26 : decode cX6_countLetters 26 = .ok (.goto (-22), 3) := by decide +kernel
theorem dX6_countLetters_29 : decode cX6_countLetters 29 = .ok (.iload_n 1, 1) := by decide +kernel
theorem dX6_countLetters_30 : decode cX6_countLetters 30 = .ok (.ireturn, 1) := by decide +kernel
theorem dX6_letterSet_0 : decode cX6_letterSet 0 = .ok (.iconst 0, 1) := by decide +kernel
theorem dX6_letterSet_1 : decode cX6_letterSet 1 = .ok (.istore_n 1, 1) := by decide +kernel
theorem dX6_letterSet_2 : decode cX6_letterSet 2 = .ok (.iconst 0, 1) := by decide +kernel
theorem dX6_letterSet_3 : decode cX6_letterSet 3 = .ok (.istore_n 2, 1) := by decide +kernel
theorem dX6_letterSet_4 : decode cX6_letterSet 4 = .ok (.iload_n 2, 1) := by decide +kernel
theorem dX6_letterSet_5 : decode cX6_letterSet 5 = .ok (.aload_n 0, 1) := by decide +kernel
theorem dX6_letterSet_6 : decode cX6_letterSet 6 = .ok (.getfield 19, 3) := by decide +kernel
theorem dX6_letterSet_9 : decode cX6_letterSet 9 = .ok (.if_icmp .ge 19, 3) := by decide +kernel
theorem dX6_letterSet_12 : decode cX6_letterSet 12 = .ok (.iload_n 1, 1) := by decide +kernel
theorem dX6_letterSet_13 : decode cX6_letterSet 13 = .ok (.iconst 1, 1) := by decide +kernel
theorem dX6_letterSet_14 : decode cX6_letterSet 14 = .ok (.aload_n 0, 1) := by decide +kernel
theorem dX6_letterSet_15 : decode cX6_letterSet 15 = .ok (.iload_n 2, 1) := by decide +kernel
theorem dX6_letterSet_16 : decode cX6_letterSet 16 = .ok (.invokevirtual 26, 3) := by decide +kernel
theorem dX6_letterSet_19 : decode cX6_letterSet 19 = .ok (.ishl, 1) := by decide +kernel
theorem dX6_letterSet_20 : decode cX6_letterSet 20 = .ok (.ior, 1) := by decide +kernel
theorem dX6_letterSet_21 : decode cX6_letterSet 21 = .ok (.istore_n 1, 1) := by decide +kernel
theorem dX6_letterSet_22 : decode cX6_letterSet 22 = .ok (.iinc 2 1, 3) := by decide +kernel
theorem dX6_letterSet_25 : decode cX6_letterSet 25 = .ok (.goto (-21), 3) := by decide +kernel
theorem dX6_letterSet_28 : decode cX6_letterSet 28 = .ok (.iload_n 1, 1) := by decide +kernel
theorem dX6_letterSet_29 : decode cX6_letterSet 29 = .ok (.ireturn, 1) := by decide +kernel
theorem dX6_standsAt_0 : decode cX6_standsAt 0 = .ok (.iconst 1, 1) := by decide +kernel
theorem dX6_standsAt_1 : decode cX6_standsAt 1 = .ok (.istore_n 3, 1) := by decide +kernel
theorem dX6_standsAt_2 : decode cX6_standsAt 2 = .ok (.iconst 0, 1) := by decide +kernel
theorem dX6_standsAt_3 : decode cX6_standsAt 3 = .ok (.istore 4, 2) := by decide +kernel
theorem dX6_standsAt_5 : decode cX6_standsAt 5 = .ok (.iload_n 3, 1) := by decide +kernel
theorem dX6_standsAt_6 : decode cX6_standsAt 6 = .ok (.ifCond .eq 41, 3) := by decide +kernel
theorem dX6_standsAt_9 : decode cX6_standsAt 9 = .ok (.iload 4, 2) := by decide +kernel
theorem dX6_standsAt_11 : decode cX6_standsAt 11 = .ok (.aload_n 0, 1) := by decide +kernel
theorem dX6_standsAt_12 : decode cX6_standsAt 12 = .ok (.getfield 19, 3) := by decide +kernel
theorem dX6_standsAt_15 : decode cX6_standsAt 15 = .ok (.if_icmp .ge 32, 3) := by decide +kernel
theorem dX6_standsAt_18 : decode cX6_standsAt 18 = .ok (.aload_n 0, 1) := by decide +kernel
theorem dX6_standsAt_19 : decode cX6_standsAt 19 = .ok (.iload 4, 2) := by decide +kernel
theorem dX6_standsAt_21 : decode cX6_standsAt 21 = .ok (.invokevirtual 26, 3) := by decide +kernel
theorem dX6_standsAt_24 : decode cX6_standsAt 24 = .ok (.aload_n 1, 1) := by decide +kernel
theorem dX6_standsAt_25 : decode cX6_standsAt 25 = .ok (.iload_n 2, 1) := by decide +kernel
theorem dX6_standsAt_26 : decode cX6_standsAt 26 = .ok (.iload 4, 2) := by decide +kernel
theorem dX6_standsAt_28 : decode cX6_standsAt 28 = .ok (.iadd, 1) := by decide +kernel
theorem dX6_standsAt_29 : decode cX6_standsAt 29 = .ok (.invokevirtual 26, 3) := by decide +kernel
theorem dX6_standsAt_32 : decode cX6_standsAt 32 = .ok (.if_icmp .ne 7, 3) := by decide +kernel
theorem dX6_standsAt_35 : decode cX6_standsAt 35 = .ok (.iconst 1, 1) := by decide +kernel
theorem dX6_standsAt_36 : decode cX6_standsAt 36 = .ok (.goto 4, 3) := by decide +kernel
theorem dX6_standsAt_39 : decode cX6_standsAt 39 = .ok (.iconst 0, 1) := by decide +kernel
theorem dX6_standsAt_40 : decode cX6_standsAt 40 = .ok (.istore_n 3, 1) := by decide +kernel
theorem dX6_standsAt_41 : decode cX6_standsAt 41 = .ok (.iinc 4 1, 3) := by decide +kernel
theorem dX6_standsAt_44 : decode cX6_standsAt 44 = .ok (.goto (-39), 3) := by decide +kernel
theorem dX6_standsAt_47 : decode cX6_standsAt 47 = .ok (.iload_n 3, 1) := by decide +kernel
theorem dX6_standsAt_48 : decode cX6_standsAt 48 = .ok (.ireturn, 1) := by decide +kernel
theorem dX6_timesIn_0 : decode cX6_timesIn 0 = .ok (.iconst 0, 1) := by decide +kernel
theorem dX6_timesIn_1 : decode cX6_timesIn 1 = .ok (.istore_n 2, 1) := by decide +kernel
theorem dX6_timesIn_2 : decode cX6_timesIn 2 = .ok (.iconst 0, 1) := by decide +kernel
theorem dX6_timesIn_3 : decode cX6_timesIn 3 = .ok (.istore_n 3, 1) := by decide +kernel
theorem dX6_timesIn_4 : decode cX6_timesIn 4 = .ok (.aload_n 0, 1) := by decide +kernel
theorem dX6_timesIn_5 : decode cX6_timesIn 5 = .ok (.getfield 19, 3) := by decide +kernel
theorem dX6_timesIn_8 : decode cX6_timesIn 8 = .ok (.ifCond .le 34, 3) := by decide +kernel
theorem dX6_timesIn_11 : decode cX6_timesIn 11 = .ok (.iload_n 3, 1) := by decide +kernel
theorem dX6_timesIn_12 : decode cX6_timesIn 12 = .ok (.aload_n 1, 1) := by decide +kernel
theorem dX6_timesIn_13 : decode cX6_timesIn 13 = .ok (.getfield 19, 3) := by decide +kernel
theorem dX6_timesIn_16 : decode cX6_timesIn 16 = .ok (.aload_n 0, 1) := by decide +kernel
theorem dX6_timesIn_17 : decode cX6_timesIn 17 = .ok (.getfield 19, 3) := by decide +kernel
theorem dX6_timesIn_20 : decode cX6_timesIn 20 = .ok (.isub, 1) := by decide +kernel
theorem dX6_timesIn_21 : decode cX6_timesIn 21 = .ok (.if_icmp .gt 21, 3) := by decide +kernel
theorem dX6_timesIn_24 : decode cX6_timesIn 24 = .ok (.aload_n 0, 1) := by decide +kernel
theorem dX6_timesIn_25 : decode cX6_timesIn 25 = .ok (.aload_n 1, 1) := by decide +kernel
theorem dX6_timesIn_26 : decode cX6_timesIn 26 = .ok (.iload_n 3, 1) := by decide +kernel
theorem dX6_timesIn_27 : decode cX6_timesIn 27 = .ok (.invokevirtual 30, 3) := by decide +kernel
theorem dX6_timesIn_30 : decode cX6_timesIn 30 = .ok (.ifCond .eq 6, 3) := by decide +kernel
theorem dX6_timesIn_33 : decode cX6_timesIn 33 = .ok (.iinc 2 1, 3) := by decide +kernel
theorem dX6_timesIn_36 : decode cX6_timesIn 36 = .ok (.iinc 3 1, 3) := by decide +kernel
theorem dX6_timesIn_39 : decode cX6_timesIn 39 = .ok (.goto (-35), 3) := by decide +kernel
theorem dX6_timesIn_42 : decode cX6_timesIn 42 = .ok (.iload_n 2, 1) := by decide +kernel
theorem dX6_timesIn_43 : decode cX6_timesIn 43 = .ok (.ireturn, 1) := by decide +kernel
theorem dX6_standsIn_0 : decode cX6_standsIn 0 = .ok (.aload_n 0, 1) := by decide +kernel
theorem dX6_standsIn_1 : decode cX6_standsIn 1 = .ok (.getfield 19, 3) := by decide +kernel
theorem dX6_standsIn_4 : decode cX6_standsIn 4 = .ok (.ifCond .eq 11, 3) := by decide +kernel
theorem dX6_standsIn_7 : decode cX6_standsIn 7 = .ok (.aload_n 0, 1) := by decide +kernel
theorem dX6_standsIn_8 : decode cX6_standsIn 8 = .ok (.aload_n 1, 1) := by decide +kernel
theorem dX6_standsIn_9 : decode cX6_standsIn 9 = .ok (.invokevirtual 34, 3) := by decide +kernel
theorem dX6_standsIn_12 : decode cX6_standsIn 12 = .ok (.ifCond .le 7, 3) := by decide +kernel
theorem dX6_standsIn_15 : decode cX6_standsIn 15 = .ok (.iconst 1, 1) := by decide +kernel
theorem dX6_standsIn_16 : decode cX6_standsIn 16 = .ok (.goto 4, 3) := by decide +kernel
theorem dX6_standsIn_19 : decode cX6_standsIn 19 = .ok (.iconst 0, 1) := by decide +kernel
theorem dX6_standsIn_20 : decode cX6_standsIn 20 = .ok (.ireturn, 1) := by decide +kernel
theorem dX6_overlap_0 : decode cX6_overlap 0 = .ok (.aload_n 0, 1) := by decide +kernel
theorem dX6_overlap_1 : decode cX6_overlap 1 = .ok (.getfield 19, 3) := by decide +kernel
theorem dX6_overlap_4 : decode cX6_overlap 4 = .ok (.aload_n 1, 1) := by decide +kernel
theorem dX6_overlap_5 : decode cX6_overlap 5 = .ok (.getfield 19, 3) := by decide +kernel
theorem dX6_overlap_8 : decode cX6_overlap 8 = .ok (.invokestatic 38, 3) := by decide +kernel
theorem dX6_overlap_11 : decode cX6_overlap 11 = .ok (.iconst 1, 1) := by decide +kernel
theorem dX6_overlap_12 : decode cX6_overlap 12 = .ok (.isub, 1) := by decide +kernel
theorem dX6_overlap_13 : decode cX6_overlap 13 = .ok (.istore_n 2, 1) := by decide +kernel
theorem dX6_overlap_14 : decode cX6_overlap 14 = .ok (.iload_n 2, 1) := by decide +kernel
theorem dX6_overlap_15 : decode cX6_overlap 15 = .ok (.ifCond .le 20, 3) := by decide +kernel
theorem dX6_overlap_18 : decode cX6_overlap 18 = .ok (.aload_n 0, 1) := by decide +kernel
theorem dX6_overlap_19 : decode cX6_overlap 19 = .ok (.aload_n 1, 1) := by decide +kernel
theorem dX6_overlap_20 : decode cX6_overlap 20 = .ok (.iload_n 2, 1) := by decide +kernel
theorem dX6_overlap_21 : decode cX6_overlap 21 = .ok (.invokevirtual 44, 3) := by decide +kernel
theorem dX6_overlap_24 : decode cX6_overlap 24 = .ok (.ifCond .eq 5, 3) := by decide +kernel
theorem dX6_overlap_27 : decode cX6_overlap 27 = .ok (.iload_n 2, 1) := by decide +kernel
theorem dX6_overlap_28 : decode cX6_overlap 28 = .ok (.ireturn, 1) := by decide +kernel
theorem dX6_overlap_29 : decode cX6_overlap 29 = .ok (.iinc 2 (-1), 3) := by decide +kernel
theorem dX6_overlap_32 : decode cX6_overlap 32 = .ok (.goto (-18), 3) := by decide +kernel
theorem dX6_overlap_35 : decode cX6_overlap 35 = .ok (.iconst 0, 1) := by decide +kernel
theorem dX6_overlap_36 : decode cX6_overlap 36 = .ok (.ireturn, 1) := by decide +kernel
theorem dX6_tailIsHead_0 : decode cX6_tailIsHead 0 = .ok (.iconst 1, 1) := by decide +kernel
theorem dX6_tailIsHead_1 : decode cX6_tailIsHead 1 = .ok (.istore_n 3, 1) := by decide +kernel
theorem dX6_tailIsHead_2 : decode cX6_tailIsHead 2 = .ok (.iconst 0, 1) := by decide +kernel
theorem dX6_tailIsHead_3 : decode cX6_tailIsHead 3 = .ok (.istore 4, 2) := by decide +kernel
theorem dX6_tailIsHead_5 : decode cX6_tailIsHead 5 = .ok (.iload_n 3, 1) := by decide +kernel
theorem dX6_tailIsHead_6 : decode cX6_tailIsHead 6 = .ok (.ifCond .eq 43, 3) := by decide +kernel
theorem dX6_tailIsHead_9 : decode cX6_tailIsHead 9 = .ok (.iload 4, 2) := by decide +kernel
theorem dX6_tailIsHead_11 : decode cX6_tailIsHead 11 = .ok (.iload_n 2, 1) := by decide +kernel
theorem dX6_tailIsHead_12 : decode cX6_tailIsHead 12 = .ok (.if_icmp .ge 37, 3) := by decide +kernel
theorem dX6_tailIsHead_15 : decode cX6_tailIsHead 15 = .ok (.aload_n 0, 1) := by decide +kernel
theorem dX6_tailIsHead_16 : decode cX6_tailIsHead 16 = .ok (.aload_n 0, 1) := by decide +kernel
theorem dX6_tailIsHead_17 : decode cX6_tailIsHead 17 = .ok (.getfield 19, 3) := by decide +kernel
theorem dX6_tailIsHead_20 : decode cX6_tailIsHead 20 = .ok (.iload_n 2, 1) := by decide +kernel
theorem dX6_tailIsHead_21 : decode cX6_tailIsHead 21 = .ok (.isub, 1) := by decide +kernel
theorem dX6_tailIsHead_22 : decode cX6_tailIsHead 22 = .ok (.iload 4, 2) := by decide +kernel
theorem dX6_tailIsHead_24 : decode cX6_tailIsHead 24 = .ok (.iadd, 1) := by decide +kernel
theorem dX6_tailIsHead_25 : decode cX6_tailIsHead 25 = .ok (.invokevirtual 26, 3) := by decide +kernel
theorem dX6_tailIsHead_28 : decode cX6_tailIsHead 28 = .ok (.aload_n 1, 1) := by decide +kernel
theorem dX6_tailIsHead_29 : decode cX6_tailIsHead 29 = .ok (.iload 4, 2) := by decide +kernel
theorem dX6_tailIsHead_31 : decode cX6_tailIsHead 31 = .ok (.invokevirtual 26, 3) := by decide +kernel
theorem dX6_tailIsHead_34 : decode cX6_tailIsHead 34 = .ok (.if_icmp .ne 7, 3) := by decide +kernel
theorem dX6_tailIsHead_37 : decode cX6_tailIsHead 37 = .ok (.iconst 1, 1) := by decide +kernel
theorem dX6_tailIsHead_38 : decode cX6_tailIsHead 38 = .ok (.goto 4, 3) := by decide +kernel
theorem dX6_tailIsHead_41 : decode cX6_tailIsHead 41 = .ok (.iconst 0, 1) := by decide +kernel
theorem dX6_tailIsHead_42 : decode cX6_tailIsHead 42 = .ok (.istore_n 3, 1) := by decide +kernel
theorem dX6_tailIsHead_43 : decode cX6_tailIsHead 43 = .ok (.iinc 4 1, 3) := by decide +kernel
theorem dX6_tailIsHead_46 : decode cX6_tailIsHead 46 = .ok (.goto (-41), 3) := by decide +kernel
theorem dX6_tailIsHead_49 : decode cX6_tailIsHead 49 = .ok (.iload_n 3, 1) := by decide +kernel
theorem dX6_tailIsHead_50 : decode cX6_tailIsHead 50 = .ok (.ireturn, 1) := by decide +kernel
theorem dX6_stretchIn_0 : decode cX6_stretchIn 0 = .ok (.iconst 0, 1) := by decide +kernel
theorem dX6_stretchIn_1 : decode cX6_stretchIn 1 = .ok (.istore_n 3, 1) := by decide +kernel
theorem dX6_stretchIn_2 : decode cX6_stretchIn 2 = .ok (.iconst 0, 1) := by decide +kernel
theorem dX6_stretchIn_3 : decode cX6_stretchIn 3 = .ok (.istore 4, 2) := by decide +kernel
theorem dX6_stretchIn_5 : decode cX6_stretchIn 5 = .ok (.iload 4, 2) := by decide +kernel
theorem dX6_stretchIn_7 : decode cX6_stretchIn 7 = .ok (.aload_n 1, 1) := by decide +kernel
theorem dX6_stretchIn_8 : decode cX6_stretchIn 8 = .ok (.getfield 19, 3) := by decide +kernel
theorem dX6_stretchIn_11 : decode cX6_stretchIn 11 = .ok (.if_icmp .ge 68, 3) := by decide +kernel
theorem dX6_stretchIn_14 : decode cX6_stretchIn 14 = .ok (.iconst 0, 1) := by decide +kernel
theorem dX6_stretchIn_15 : decode cX6_stretchIn 15 = .ok (.istore 5, 2) := by decide +kernel
theorem dX6_stretchIn_17 : decode cX6_stretchIn 17 = .ok (.iload_n 2, 1) := by decide +kernel
theorem dX6_stretchIn_18 : decode cX6_stretchIn 18 = .ok (.iload 5, 2) := by decide +kernel
theorem dX6_stretchIn_20 : decode cX6_stretchIn 20 = .ok (.iadd, 1) := by decide +kernel
theorem dX6_stretchIn_21 : decode cX6_stretchIn 21 = .ok (.aload_n 0, 1) := by decide +kernel
theorem dX6_stretchIn_22 : decode cX6_stretchIn 22 = .ok (.getfield 19, 3) := by decide +kernel
theorem dX6_stretchIn_25 : decode cX6_stretchIn 25 = .ok (.if_icmp .ge 41, 3) := by decide +kernel
theorem dX6_stretchIn_28 : decode cX6_stretchIn 28 = .ok (.iload 4, 2) := by decide +kernel
theorem dX6_stretchIn_30 : decode cX6_stretchIn 30 = .ok (.iload 5, 2) := by decide +kernel
theorem dX6_stretchIn_32 : decode cX6_stretchIn 32 = .ok (.iadd, 1) := by decide +kernel
theorem dX6_stretchIn_33 : decode cX6_stretchIn 33 = .ok (.aload_n 1, 1) := by decide +kernel
theorem dX6_stretchIn_34 : decode cX6_stretchIn 34 = .ok (.getfield 19, 3) := by decide +kernel
theorem dX6_stretchIn_37 : decode cX6_stretchIn 37 = .ok (.if_icmp .ge 29, 3) := by decide +kernel
theorem dX6_stretchIn_40 : decode cX6_stretchIn 40 = .ok (.aload_n 0, 1) := by decide +kernel
theorem dX6_stretchIn_41 : decode cX6_stretchIn 41 = .ok (.iload_n 2, 1) := by decide +kernel
theorem dX6_stretchIn_42 : decode cX6_stretchIn 42 = .ok (.iload 5, 2) := by decide +kernel
theorem dX6_stretchIn_44 : decode cX6_stretchIn 44 = .ok (.iadd, 1) := by decide +kernel
theorem dX6_stretchIn_45 : decode cX6_stretchIn 45 = .ok (.invokevirtual 26, 3) := by decide +kernel
theorem dX6_stretchIn_48 : decode cX6_stretchIn 48 = .ok (.aload_n 1, 1) := by decide +kernel
theorem dX6_stretchIn_49 : decode cX6_stretchIn 49 = .ok (.iload 4, 2) := by decide +kernel
theorem dX6_stretchIn_51 : decode cX6_stretchIn 51 = .ok (.iload 5, 2) := by decide +kernel
theorem dX6_stretchIn_53 : decode cX6_stretchIn 53 = .ok (.iadd, 1) := by decide +kernel
theorem dX6_stretchIn_54 : decode cX6_stretchIn 54 = .ok (.invokevirtual 26, 3) := by decide +kernel
theorem dX6_stretchIn_57 : decode cX6_stretchIn 57 = .ok (.if_icmp .ne 9, 3) := by decide +kernel
theorem dX6_stretchIn_60 : decode cX6_stretchIn 60 = .ok (.iinc 5 1, 3) := by decide +kernel
theorem dX6_stretchIn_63 : decode cX6_stretchIn 63 = .ok (.goto (-46), 3) := by decide +kernel
theorem dX6_stretchIn_66 : decode cX6_stretchIn 66 = .ok (.iload_n 3, 1) := by decide +kernel
theorem dX6_stretchIn_67 : decode cX6_stretchIn 67 = .ok (.iload 5, 2) := by decide +kernel
theorem dX6_stretchIn_69 : decode cX6_stretchIn 69 = .ok (.invokestatic 47, 3) := by decide +kernel
theorem dX6_stretchIn_72 : decode cX6_stretchIn 72 = .ok (.istore_n 3, 1) := by decide +kernel
theorem dX6_stretchIn_73 : decode cX6_stretchIn 73 = .ok (.iinc 4 1, 3) := by decide +kernel
theorem dX6_stretchIn_76 : decode cX6_stretchIn 76 = .ok (.goto (-71), 3) := by decide +kernel
theorem dX6_stretchIn_79 : decode cX6_stretchIn 79 = .ok (.iload_n 3, 1) := by decide +kernel
theorem dX6_stretchIn_80 : decode cX6_stretchIn 80 = .ok (.ireturn, 1) := by decide +kernel
theorem dX6_editsTo_0 : decode cX6_editsTo 0 = .ok (.aload_n 1, 1) := by decide +kernel
theorem dX6_editsTo_1 : decode cX6_editsTo 1 = .ok (.getfield 19, 3) := by decide +kernel
theorem dX6_editsTo_4 : decode cX6_editsTo 4 = .ok (.aload_n 2, 1) := by decide +kernel
theorem dX6_editsTo_5 : decode cX6_editsTo 5 = .ok (.arraylength, 1) := by decide +kernel
theorem dX6_editsTo_6 : decode cX6_editsTo 6 = .ok (.iconst 1, 1) := by decide +kernel
theorem dX6_editsTo_7 : decode cX6_editsTo 7 = .ok (.isub, 1) := by decide +kernel
theorem dX6_editsTo_8 : decode cX6_editsTo 8 = .ok (.invokestatic 38, 3) := by decide +kernel
theorem dX6_editsTo_11 : decode cX6_editsTo 11 = .ok (.istore_n 3, 1) := by decide +kernel
theorem dX6_editsTo_12 : decode cX6_editsTo 12 = .ok (.iconst 0, 1) := by decide +kernel
theorem dX6_editsTo_13 : decode cX6_editsTo 13 = .ok (.istore 4, 2) := by decide +kernel
theorem dX6_editsTo_15 : decode cX6_editsTo 15 = .ok (.iload 4, 2) := by decide +kernel
theorem dX6_editsTo_17 : decode cX6_editsTo 17 = .ok (.iload_n 3, 1) := by decide +kernel
theorem dX6_editsTo_18 : decode cX6_editsTo 18 = .ok (.if_icmp .gt 15, 3) := by decide +kernel
theorem dX6_editsTo_21 : decode cX6_editsTo 21 = .ok (.aload_n 2, 1) := by decide +kernel
theorem dX6_editsTo_22 : decode cX6_editsTo 22 = .ok (.iload 4, 2) := by decide +kernel
theorem dX6_editsTo_24 : decode cX6_editsTo 24 = .ok (.iload 4, 2) := by decide +kernel
theorem dX6_editsTo_26 : decode cX6_editsTo 26 = .ok (.iastore, 1) := by decide +kernel
theorem dX6_editsTo_27 : decode cX6_editsTo 27 = .ok (.iinc 4 1, 3) := by decide +kernel
theorem dX6_editsTo_30 : decode cX6_editsTo 30 = .ok (.goto (-15), 3) := by decide +kernel
theorem dX6_editsTo_33 : decode cX6_editsTo 33 = .ok (.iconst 0, 1) := by decide +kernel
theorem dX6_editsTo_34 : decode cX6_editsTo 34 = .ok (.istore 4, 2) := by decide +kernel
theorem dX6_editsTo_36 : decode cX6_editsTo 36 = .ok (.iload 4, 2) := by decide +kernel
theorem dX6_editsTo_38 : decode cX6_editsTo 38 = .ok (.aload_n 0, 1) := by decide +kernel
theorem dX6_editsTo_39 : decode cX6_editsTo 39 = .ok (.getfield 19, 3) := by decide +kernel
theorem dX6_editsTo_42 : decode cX6_editsTo 42 = .ok (.if_icmp .ge 91, 3) := by decide +kernel
theorem dX6_editsTo_45 : decode cX6_editsTo 45 = .ok (.aload_n 2, 1) := by decide +kernel
theorem dX6_editsTo_46 : decode cX6_editsTo 46 = .ok (.iconst 0, 1) := by decide +kernel
theorem dX6_editsTo_47 : decode cX6_editsTo 47 = .ok (.iaload, 1) := by decide +kernel
theorem dX6_editsTo_48 : decode cX6_editsTo 48 = .ok (.istore 5, 2) := by decide +kernel
theorem dX6_editsTo_50 : decode cX6_editsTo 50 = .ok (.aload_n 2, 1) := by decide +kernel
theorem dX6_editsTo_51 : decode cX6_editsTo 51 = .ok (.iconst 0, 1) := by decide +kernel
theorem dX6_editsTo_52 : decode cX6_editsTo 52 = .ok (.iload 4, 2) := by decide +kernel
theorem dX6_editsTo_54 : decode cX6_editsTo 54 = .ok (.iconst 1, 1) := by decide +kernel
theorem dX6_editsTo_55 : decode cX6_editsTo 55 = .ok (.iadd, 1) := by decide +kernel
theorem dX6_editsTo_56 : decode cX6_editsTo 56 = .ok (.iastore, 1) := by decide +kernel
theorem dX6_editsTo_57 : decode cX6_editsTo 57 = .ok (.iconst 1, 1) := by decide +kernel
theorem dX6_editsTo_58 : decode cX6_editsTo 58 = .ok (.istore 6, 2) := by decide +kernel
theorem dX6_editsTo_60 : decode cX6_editsTo 60 = .ok (.iload 6, 2) := by decide +kernel
theorem dX6_editsTo_62 : decode cX6_editsTo 62 = .ok (.iload_n 3, 1) := by decide +kernel
theorem dX6_editsTo_63 : decode cX6_editsTo 63 = .ok (.if_icmp .gt 64, 3) := by decide +kernel
theorem dX6_editsTo_66 : decode cX6_editsTo 66 = .ok (.iload 5, 2) := by decide +kernel
theorem dX6_editsTo_68 : decode cX6_editsTo 68 = .ok (.aload_n 0, 1) := by decide +kernel
theorem dX6_editsTo_69 : decode cX6_editsTo 69 = .ok (.iload 4, 2) := by decide +kernel
theorem dX6_editsTo_71 : decode cX6_editsTo 71 = .ok (.invokevirtual 26, 3) := by decide +kernel
theorem dX6_editsTo_74 : decode cX6_editsTo 74 = .ok (.aload_n 1, 1) := by decide +kernel
theorem dX6_editsTo_75 : decode cX6_editsTo 75 = .ok (.iload 6, 2) := by decide +kernel
theorem dX6_editsTo_77 : decode cX6_editsTo 77 = .ok (.iconst 1, 1) := by decide +kernel
theorem dX6_editsTo_78 : decode cX6_editsTo 78 = .ok (.isub, 1) := by decide +kernel
theorem dX6_editsTo_79 : decode cX6_editsTo 79 = .ok (.invokevirtual 26, 3) := by decide +kernel
theorem dX6_editsTo_82 : decode cX6_editsTo 82 = .ok (.if_icmp .ne 7, 3) := by decide +kernel
theorem dX6_editsTo_85 : decode cX6_editsTo 85 = .ok (.iconst 0, 1) := by decide +kernel
theorem dX6_editsTo_86 : decode cX6_editsTo 86 = .ok (.goto 4, 3) := by decide +kernel
theorem dX6_editsTo_89 : decode cX6_editsTo 89 = .ok (.iconst 1, 1) := by decide +kernel
theorem dX6_editsTo_90 : decode cX6_editsTo 90 = .ok (.iadd, 1) := by decide +kernel
theorem dX6_editsTo_91 : decode cX6_editsTo 91 = .ok (.istore 7, 2) := by decide +kernel
theorem dX6_editsTo_93 : decode cX6_editsTo 93 = .ok (.aload_n 2, 1) := by decide +kernel
theorem dX6_editsTo_94 : decode cX6_editsTo 94 = .ok (.iload 6, 2) := by decide +kernel
theorem dX6_editsTo_96 : decode cX6_editsTo 96 = .ok (.iaload, 1) := by decide +kernel
theorem dX6_editsTo_97 : decode cX6_editsTo 97 = .ok (.istore 5, 2) := by decide +kernel
theorem dX6_editsTo_99 : decode cX6_editsTo 99 = .ok (.aload_n 2, 1) := by decide +kernel
theorem dX6_editsTo_100 : decode cX6_editsTo 100 = .ok (.iload 6, 2) := by decide +kernel
theorem dX6_editsTo_102 : decode cX6_editsTo 102 = .ok (.iload 7, 2) := by decide +kernel
theorem dX6_editsTo_104 : decode cX6_editsTo 104 = .ok (.iload 5, 2) := by decide +kernel
theorem dX6_editsTo_106 : decode cX6_editsTo 106 = .ok (.aload_n 2, 1) := by decide +kernel
theorem dX6_editsTo_107 : decode cX6_editsTo 107 = .ok (.iload 6, 2) := by decide +kernel
theorem dX6_editsTo_109 : decode cX6_editsTo 109 = .ok (.iconst 1, 1) := by decide +kernel
theorem dX6_editsTo_110 : decode cX6_editsTo 110 = .ok (.isub, 1) := by decide +kernel
theorem dX6_editsTo_111 : decode cX6_editsTo 111 = .ok (.iaload, 1) := by decide +kernel
theorem dX6_editsTo_112 : decode cX6_editsTo 112 = .ok (.invokestatic 38, 3) := by decide +kernel
theorem dX6_editsTo_115 : decode cX6_editsTo 115 = .ok (.iconst 1, 1) := by decide +kernel
theorem dX6_editsTo_116 : decode cX6_editsTo 116 = .ok (.iadd, 1) := by decide +kernel
theorem dX6_editsTo_117 : decode cX6_editsTo 117 = .ok (.invokestatic 38, 3) := by decide +kernel
theorem dX6_editsTo_120 : decode cX6_editsTo 120 = .ok (.iastore, 1) := by decide +kernel
theorem dX6_editsTo_121 : decode cX6_editsTo 121 = .ok (.iinc 6 1, 3) := by decide +kernel
theorem dX6_editsTo_124 : decode cX6_editsTo 124 = .ok (.goto (-64), 3) := by decide +kernel
theorem dX6_editsTo_127 : decode cX6_editsTo 127 = .ok (.iinc 4 1, 3) := by decide +kernel
theorem dX6_editsTo_130 : decode cX6_editsTo 130 = .ok (.goto (-94), 3) := by decide +kernel
theorem dX6_editsTo_133 : decode cX6_editsTo 133 = .ok (.aload_n 2, 1) := by decide +kernel
theorem dX6_editsTo_134 : decode cX6_editsTo 134 = .ok (.iload_n 3, 1) := by decide +kernel
theorem dX6_editsTo_135 : decode cX6_editsTo 135 = .ok (.iaload, 1) := by decide +kernel
theorem dX6_editsTo_136 : decode cX6_editsTo 136 = .ok (.ireturn, 1) := by decide +kernel
theorem dX7_init_0 : decode cX7_init 0 = .ok (.aload_n 0, 1) := by decide +kernel
theorem dX7_init_1 : decode cX7_init 1 = .ok (.invokespecial 3, 3) := by decide +kernel
theorem dX7_init_4 : decode cX7_init 4 = .ok (.aload_n 0, 1) := by decide +kernel
theorem dX7_init_5 : decode cX7_init 5 = .ok (.bipush 8, 2) := by decide +kernel
theorem dX7_init_7 : decode cX7_init 7 = .ok (.anewarray 9, 3) := by decide +kernel
theorem dX7_init_10 : decode cX7_init 10 = .ok (.putfield 11, 3) := by decide +kernel
theorem dX7_init_13 : decode cX7_init 13 = .ok (.aload_n 0, 1) := by decide +kernel
theorem dX7_init_14 : decode cX7_init 14 = .ok (.bipush 8, 2) := by decide +kernel
theorem dX7_init_16 : decode cX7_init 16 = .ok (.anewarray 17, 3) := by decide +kernel
theorem dX7_init_19 : decode cX7_init 19 = .ok (.putfield 19, 3) := by decide +kernel
theorem dX7_init_22 : decode cX7_init 22 = .ok (.iconst 0, 1) := by decide +kernel
theorem dX7_init_23 : decode cX7_init 23 = .ok (.istore_n 1, 1) := by decide +kernel
theorem dX7_init_24 : decode cX7_init 24 = .ok (.iload_n 1, 1) := by decide +kernel
theorem dX7_init_25 : decode cX7_init 25 = .ok (.bipush 8, 2) := by decide +kernel
theorem dX7_init_27 : decode cX7_init 27 = .ok (.if_icmp .ge 39, 3) := by decide +kernel
theorem dX7_init_30 : decode cX7_init 30 = .ok (.aload_n 0, 1) := by decide +kernel
theorem dX7_init_31 : decode cX7_init 31 = .ok (.getfield 11, 3) := by decide +kernel
theorem dX7_init_34 : decode cX7_init 34 = .ok (.iload_n 1, 1) := by decide +kernel
theorem dX7_init_35 : decode cX7_init 35 = .ok (.new 9, 3) := by decide +kernel
theorem dX7_init_38 : decode cX7_init 38 = .ok (.dup, 1) := by decide +kernel
theorem dX7_init_39 : decode cX7_init 39 = .ok (.bipush 16, 2) := by decide +kernel
theorem dX7_init_41 : decode cX7_init 41 = .ok (.newarray .int, 2) := by decide +kernel
theorem dX7_init_43 : decode cX7_init 43 = .ok (.invokespecial 23, 3) := by decide +kernel
theorem dX7_init_46 : decode cX7_init 46 = .ok (.aastore, 1) := by decide +kernel
theorem dX7_init_47 : decode cX7_init 47 = .ok (.aload_n 0, 1) := by decide +kernel
theorem dX7_init_48 : decode cX7_init 48 = .ok (.getfield 19, 3) := by decide +kernel
theorem dX7_init_51 : decode cX7_init 51 = .ok (.iload_n 1, 1) := by decide +kernel
theorem dX7_init_52 : decode cX7_init 52 = .ok (.new 17, 3) := by decide +kernel
theorem dX7_init_55 : decode cX7_init 55 = .ok (.dup, 1) := by decide +kernel
theorem dX7_init_56 : decode cX7_init 56 = .ok (.invokespecial 26, 3) := by decide +kernel
theorem dX7_init_59 : decode cX7_init 59 = .ok (.aastore, 1) := by decide +kernel
theorem dX7_init_60 : decode cX7_init 60 = .ok (.iinc 1 1, 3) := by decide +kernel
theorem dX7_init_63 : decode cX7_init 63 = .ok (.goto (-39), 3) := by decide +kernel
theorem dX7_init_66 : decode cX7_init 66 = .ok (.return_, 1) := by decide +kernel
theorem dX7_allSounds_0 : decode cX7_allSounds 0 = .ok (.iconst 1, 1) := by decide +kernel
theorem dX7_allSounds_1 : decode cX7_allSounds 1 = .ok (.aload_n 0, 1) := by decide +kernel
theorem dX7_allSounds_2 : decode cX7_allSounds 2 = .ok (.getfield 27, 3) := by decide +kernel
theorem dX7_allSounds_5 : decode cX7_allSounds 5 = .ok (.ishl, 1) := by decide +kernel
theorem dX7_allSounds_6 : decode cX7_allSounds 6 = .ok (.iconst 1, 1) := by decide +kernel
theorem dX7_allSounds_7 : decode cX7_allSounds 7 = .ok (.isub, 1) := by decide +kernel
theorem dX7_allSounds_8 : decode cX7_allSounds 8 = .ok (.ireturn, 1) := by decide +kernel
theorem dX7_allJars_0 : decode cX7_allJars 0 = .ok (.iconst 1, 1) := by decide +kernel
theorem dX7_allJars_1 : decode cX7_allJars 1 = .ok (.aload_n 0, 1) := by decide +kernel
theorem dX7_allJars_2 : decode cX7_allJars 2 = .ok (.getfield 31, 3) := by decide +kernel
theorem dX7_allJars_5 : decode cX7_allJars 5 = .ok (.ishl, 1) := by decide +kernel
theorem dX7_allJars_6 : decode cX7_allJars 6 = .ok (.iconst 1, 1) := by decide +kernel
theorem dX7_allJars_7 : decode cX7_allJars 7 = .ok (.isub, 1) := by decide +kernel
theorem dX7_allJars_8 : decode cX7_allJars 8 = .ok (.ireturn, 1) := by decide +kernel
theorem dX7_filledJars_0 : decode cX7_filledJars 0 = .ok (.iconst 0, 1) := by decide +kernel
theorem dX7_filledJars_1 : decode cX7_filledJars 1 = .ok (.istore_n 1, 1) := by decide +kernel
theorem dX7_filledJars_2 : decode cX7_filledJars 2 = .ok (.iconst 0, 1) := by decide +kernel
theorem dX7_filledJars_3 : decode cX7_filledJars 3 = .ok (.istore_n 2, 1) := by decide +kernel
theorem dX7_filledJars_4 : decode cX7_filledJars 4 = .ok (.iload_n 2, 1) := by decide +kernel
theorem dX7_filledJars_5 : decode cX7_filledJars 5 = .ok (.aload_n 0, 1) := by decide +kernel
theorem dX7_filledJars_6 : decode cX7_filledJars 6 = .ok (.getfield 31, 3) := by decide +kernel
theorem dX7_filledJars_9 : decode cX7_filledJars 9 = .ok (.if_icmp .ge 27, 3) := by decide +kernel
theorem dX7_filledJars_12 : decode cX7_filledJars 12 = .ok (.aload_n 0, 1) := by decide +kernel
theorem dX7_filledJars_13 : decode cX7_filledJars 13 = .ok (.getfield 19, 3) := by decide +kernel
theorem dX7_filledJars_16 : decode cX7_filledJars 16 = .ok (.iload_n 2, 1) := by decide +kernel
theorem dX7_filledJars_17 : decode cX7_filledJars 17 = .ok (.aaload, 1) := by decide +kernel
theorem dX7_filledJars_18 : decode cX7_filledJars 18 = .ok (.invokevirtual 34, 3) := by decide +kernel
theorem dX7_filledJars_21 : decode cX7_filledJars 21 = .ok (.ifCond .ne 9, 3) := by decide +kernel
theorem dX7_filledJars_24 : decode cX7_filledJars 24 = .ok (.iload_n 1, 1) := by decide +kernel
theorem dX7_filledJars_25 : decode cX7_filledJars 25 = .ok (.iconst 1, 1) := by decide +kernel
theorem dX7_filledJars_26 : decode cX7_filledJars 26 = .ok (.iload_n 2, 1) := by decide +kernel
theorem dX7_filledJars_27 : decode cX7_filledJars 27 = .ok (.ishl, 1) := by decide +kernel
theorem dX7_filledJars_28 : decode cX7_filledJars 28 = .ok (.ior, 1) := by decide +kernel
theorem dX7_filledJars_29 : decode cX7_filledJars 29 = .ok (.istore_n 1, 1) := by decide +kernel
theorem dX7_filledJars_30 : decode cX7_filledJars 30 = .ok (.iinc 2 1, 3) := by decide +kernel
theorem dX7_filledJars_33 : decode cX7_filledJars 33 = .ok (.goto (-29), 3) := by decide +kernel
theorem dX7_filledJars_36 : decode cX7_filledJars 36 = .ok (.iload_n 1, 1) := by decide +kernel
theorem dX7_filledJars_37 : decode cX7_filledJars 37 = .ok (.ireturn, 1) := by decide +kernel
theorem dX7_listen_0 : decode cX7_listen 0 = .ok (.aload_n 0, 1) := by decide +kernel
theorem dX7_listen_1 : decode cX7_listen 1 = .ok (.getfield 11, 3) := by decide +kernel
theorem dX7_listen_4 : decode cX7_listen 4 = .ok (.aload_n 2, 1) := by decide +kernel
theorem dX7_listen_5 : decode cX7_listen 5 = .ok (.getfield 38, 3) := by decide +kernel
theorem dX7_listen_8 : decode cX7_listen 8 = .ok (.aaload, 1) := by decide +kernel
theorem dX7_listen_9 : decode cX7_listen 9 = .ok (.astore 4, 2) := by decide +kernel
theorem dX7_listen_11 : decode cX7_listen 11 = .ok (.aload_n 2, 1) := by decide +kernel
theorem dX7_listen_12 : decode cX7_listen 12 = .ok (.aload_n 2, 1) := by decide +kernel
theorem dX7_listen_13 : decode cX7_listen 13 = .ok (.iload_n 3, 1) := by decide +kernel
theorem dX7_listen_14 : decode cX7_listen 14 = .ok (.invokevirtual 41, 3) := by decide +kernel
theorem dX7_listen_17 : decode cX7_listen 17 = .ok (.invokevirtual 45, 3) := by decide +kernel
theorem dX7_listen_20 : decode cX7_listen 20 = .ok (.istore 5, 2) := by decide +kernel
theorem dX7_listen_22 : decode cX7_listen 22 = .ok (.aload_n 1, 1) := by decide +kernel
theorem dX7_listen_23 : decode cX7_listen 23 = .ok (.aload 4, 2) := by decide +kernel
theorem dX7_listen_25 : decode cX7_listen 25 = .ok (.getfield 48, 3) := by decide +kernel
theorem dX7_listen_28 : decode cX7_listen 28 = .ok (.aload 4, 2) := by decide +kernel
theorem dX7_listen_30 : decode cX7_listen 30 = .ok (.getfield 52, 3) := by decide +kernel
theorem dX7_listen_33 : decode cX7_listen 33 = .ok (.aload_n 2, 1) := by decide +kernel
theorem dX7_listen_34 : decode cX7_listen 34 = .ok (.getfield 55, 3) := by decide +kernel
theorem dX7_listen_37 : decode cX7_listen 37 = .ok (.iadd, 1) := by decide +kernel
theorem dX7_listen_38 : decode cX7_listen 38 = .ok (.iload 5, 2) := by decide +kernel
theorem dX7_listen_40 : decode cX7_listen 40 = .ok (.iadd, 1) := by decide +kernel
theorem dX7_listen_41 : decode cX7_listen 41 = .ok (.aload_n 2, 1) := by decide +kernel
theorem dX7_listen_42 : decode cX7_listen 42 = .ok (.iload_n 3, 1) := by decide +kernel
theorem dX7_listen_43 : decode cX7_listen 43 = .ok (.invokevirtual 58, 3) := by decide +kernel
theorem dX7_listen_46 : decode cX7_listen 46 = .ok (.invokevirtual 61, 3) := by decide +kernel
theorem dX7_listen_49 : decode cX7_listen 49 = .ok (.return_, 1) := by decide +kernel
theorem dX7_lettersOn_0 : decode cX7_lettersOn 0 = .ok (.iconst 0, 1) := by decide +kernel
theorem dX7_lettersOn_1 : decode cX7_lettersOn 1 = .ok (.istore_n 2, 1) := by decide +kernel
theorem dX7_lettersOn_2 : decode cX7_lettersOn 2 = .ok (.iconst 0, 1) := by decide +kernel
theorem dX7_lettersOn_3 : decode cX7_lettersOn 3 = .ok (.istore_n 3, 1) := by decide +kernel
theorem dX7_lettersOn_4 : decode cX7_lettersOn 4 = .ok (.iload_n 3, 1) := by decide +kernel
theorem dX7_lettersOn_5 : decode cX7_lettersOn 5 = .ok (.aload_n 0, 1) := by decide +kernel
theorem dX7_lettersOn_6 : decode cX7_lettersOn 6 = .ok (.getfield 31, 3) := by decide +kernel
theorem dX7_lettersOn_9 : decode cX7_lettersOn 9 = .ok (.if_icmp .ge 22, 3) := by decide +kernel
theorem dX7_lettersOn_12 : decode cX7_lettersOn 12 = .ok (.iload_n 2, 1) := by decide +kernel
theorem dX7_lettersOn_13 : decode cX7_lettersOn 13 = .ok (.aload_n 0, 1) := by decide +kernel
theorem dX7_lettersOn_14 : decode cX7_lettersOn 14 = .ok (.getfield 19, 3) := by decide +kernel
theorem dX7_lettersOn_17 : decode cX7_lettersOn 17 = .ok (.iload_n 3, 1) := by decide +kernel
theorem dX7_lettersOn_18 : decode cX7_lettersOn 18 = .ok (.aaload, 1) := by decide +kernel
theorem dX7_lettersOn_19 : decode cX7_lettersOn 19 = .ok (.iload_n 1, 1) := by decide +kernel
theorem dX7_lettersOn_20 : decode cX7_lettersOn 20 = .ok (.invokevirtual 58, 3) := by decide +kernel
theorem dX7_lettersOn_23 : decode cX7_lettersOn 23 = .ok (.iadd, 1) := by decide +kernel
theorem dX7_lettersOn_24 : decode cX7_lettersOn 24 = .ok (.istore_n 2, 1) := by decide +kernel
theorem dX7_lettersOn_25 : decode cX7_lettersOn 25 = .ok (.iinc 3 1, 3) := by decide +kernel
theorem dX7_lettersOn_28 : decode cX7_lettersOn 28 = .ok (.goto (-24), 3) := by decide +kernel
theorem dX7_lettersOn_31 : decode cX7_lettersOn 31 = .ok (.iload_n 2, 1) := by decide +kernel
theorem dX7_lettersOn_32 : decode cX7_lettersOn 32 = .ok (.ireturn, 1) := by decide +kernel
theorem dX7_loudestDay_0 : decode cX7_loudestDay 0 = .ok (.iload_n 1, 1) := by decide +kernel
theorem dX7_loudestDay_1 : decode cX7_loudestDay 1 = .ok (.istore_n 3, 1) := by decide +kernel
theorem dX7_loudestDay_2 : decode cX7_loudestDay 2 = .ok (.aload_n 0, 1) := by decide +kernel
theorem dX7_loudestDay_3 : decode cX7_loudestDay 3 = .ok (.iload_n 1, 1) := by decide +kernel
theorem dX7_loudestDay_4 : decode cX7_loudestDay 4 = .ok (.invokevirtual 65, 3) := by decide +kernel
theorem dX7_loudestDay_7 : decode cX7_loudestDay 7 = .ok (.istore 4, 2) := by decide +kernel
theorem dX7_loudestDay_9 : decode cX7_loudestDay 9 = .ok (.iconst 0, 1) := by decide +kernel
theorem dX7_loudestDay_10 : decode cX7_loudestDay 10 = .ok (.istore 5, 2) := by decide +kernel
theorem dX7_loudestDay_12 : decode cX7_loudestDay 12 = .ok (.iload 5, 2) := by decide +kernel
theorem dX7_loudestDay_14 : decode cX7_loudestDay 14 = .ok (.aload_n 0, 1) := by decide +kernel
theorem dX7_loudestDay_15 : decode cX7_loudestDay 15 = .ok (.getfield 31, 3) := by decide +kernel
theorem dX7_loudestDay_18 : decode cX7_loudestDay 18 = .ok (.if_icmp .ge 68, 3) := by decide +kernel
theorem dX7_loudestDay_21 : decode cX7_loudestDay 21 = .ok (.aload_n 0, 1) := by decide +kernel
theorem dX7_loudestDay_22 : decode cX7_loudestDay 22 = .ok (.getfield 19, 3) := by decide +kernel
theorem dX7_loudestDay_25 : decode cX7_loudestDay 25 = .ok (.iload 5, 2) := by decide +kernel
theorem dX7_loudestDay_27 : decode cX7_loudestDay 27 = .ok (.aaload, 1) := by decide +kernel
theorem dX7_loudestDay_28 : decode cX7_loudestDay 28 = .ok (.getfield 68, 3) := by decide +kernel
theorem dX7_loudestDay_31 : decode cX7_loudestDay 31 = .ok (.istore 6, 2) := by decide +kernel
theorem dX7_loudestDay_33 : decode cX7_loudestDay 33 = .ok (.iload 6, 2) := by decide +kernel
theorem dX7_loudestDay_35 : decode cX7_loudestDay 35 = .ok (.iload_n 1, 1) := by decide +kernel
theorem dX7_loudestDay_36 : decode cX7_loudestDay 36 = .ok (.if_icmp .le 44, 3) := by decide +kernel
theorem dX7_loudestDay_39 : decode cX7_loudestDay 39 = .ok (.iload 6, 2) := by decide +kernel
theorem dX7_loudestDay_41 : decode cX7_loudestDay 41 = .ok (.iload_n 2, 1) := by decide +kernel
theorem dX7_loudestDay_42 : decode cX7_loudestDay 42 = .ok (.if_icmp .gt 38, 3) := by decide +kernel
theorem dX7_loudestDay_45 : decode cX7_loudestDay 45 = .ok (.aload_n 0, 1) := by decide +kernel
theorem dX7_loudestDay_46 : decode cX7_loudestDay 46 = .ok (.iload 6, 2) := by decide +kernel
theorem dX7_loudestDay_48 : decode cX7_loudestDay 48 = .ok (.invokevirtual 65, 3) := by decide +kernel
theorem dX7_loudestDay_51 : decode cX7_loudestDay 51 = .ok (.istore 7, 2) := by decide +kernel
theorem dX7_loudestDay_53 : decode cX7_loudestDay 53 = .ok (.iload 7, 2) := by decide +kernel
theorem dX7_loudestDay_55 : decode cX7_loudestDay 55 = .ok (.iload 4, 2) := by decide +kernel
theorem dX7_loudestDay_57 : decode cX7_loudestDay 57 = .ok (.if_icmp .gt 16, 3) := by decide +kernel
theorem dX7_loudestDay_60 : decode cX7_loudestDay 60 = .ok (.iload 7, 2) := by decide +kernel
theorem dX7_loudestDay_62 : decode cX7_loudestDay 62 = .ok (.iload 4, 2) := by decide +kernel
theorem dX7_loudestDay_64 : decode cX7_loudestDay 64 = .ok (.if_icmp .ne 16, 3) := by decide +kernel
theorem dX7_loudestDay_67 : decode cX7_loudestDay 67 = .ok (.iload 6, 2) := by decide +kernel
theorem dX7_loudestDay_69 : decode cX7_loudestDay 69 = .ok (.iload_n 3, 1) := by decide +kernel
theorem dX7_loudestDay_70 : decode cX7_loudestDay 70 = .ok (.if_icmp .ge 10, 3) := by decide +kernel
theorem dX7_loudestDay_73 : decode cX7_loudestDay 73 = .ok (.iload 7, 2) := by decide +kernel
theorem dX7_loudestDay_75 : decode cX7_loudestDay 75 = .ok (.istore 4, 2) := by decide +kernel
theorem dX7_loudestDay_77 : decode cX7_loudestDay 77 = .ok (.iload 6, 2) := by decide +kernel
theorem dX7_loudestDay_79 : decode cX7_loudestDay 79 = .ok (.istore_n 3, 1) := by decide +kernel
theorem dX7_loudestDay_80 : decode cX7_loudestDay 80 = .ok (.iinc 5 1, 3) := by decide +kernel
theorem dX7_loudestDay_83 : decode cX7_loudestDay 83 = .ok (.goto (-71), 3) := by decide +kernel
theorem dX7_loudestDay_86 : decode cX7_loudestDay 86 = .ok (.iload_n 3, 1) := by decide +kernel
theorem dX7_loudestDay_87 : decode cX7_loudestDay 87 = .ok (.ireturn, 1) := by decide +kernel
theorem dX7_soundsWith_0 : decode cX7_soundsWith 0 = .ok (.iconst 0, 1) := by decide +kernel
theorem dX7_soundsWith_1 : decode cX7_soundsWith 1 = .ok (.istore_n 2, 1) := by decide +kernel
theorem dX7_soundsWith_2 : decode cX7_soundsWith 2 = .ok (.iconst 0, 1) := by decide +kernel
theorem dX7_soundsWith_3 : decode cX7_soundsWith 3 = .ok (.istore_n 3, 1) := by decide +kernel
theorem dX7_soundsWith_4 : decode cX7_soundsWith 4 = .ok (.iload_n 3, 1) := by decide +kernel
theorem dX7_soundsWith_5 : decode cX7_soundsWith 5 = .ok (.aload_n 0, 1) := by decide +kernel
theorem dX7_soundsWith_6 : decode cX7_soundsWith 6 = .ok (.getfield 27, 3) := by decide +kernel
theorem dX7_soundsWith_9 : decode cX7_soundsWith 9 = .ok (.if_icmp .ge 28, 3) := by decide +kernel
theorem dX7_soundsWith_12 : decode cX7_soundsWith 12 = .ok (.aload_n 1, 1) := by decide +kernel
theorem dX7_soundsWith_13 : decode cX7_soundsWith 13 = .ok (.aload_n 0, 1) := by decide +kernel
theorem dX7_soundsWith_14 : decode cX7_soundsWith 14 = .ok (.getfield 11, 3) := by decide +kernel
theorem dX7_soundsWith_17 : decode cX7_soundsWith 17 = .ok (.iload_n 3, 1) := by decide +kernel
theorem dX7_soundsWith_18 : decode cX7_soundsWith 18 = .ok (.aaload, 1) := by decide +kernel
theorem dX7_soundsWith_19 : decode cX7_soundsWith 19 = .ok (.invokevirtual 71, 3) := by decide +kernel
theorem dX7_soundsWith_22 : decode cX7_soundsWith 22 = .ok (.ifCond .eq 9, 3) := by decide +kernel
theorem dX7_soundsWith_25 : decode cX7_soundsWith 25 = .ok (.iload_n 2, 1) := by decide +kernel
theorem dX7_soundsWith_26 : decode cX7_soundsWith 26 = .ok (.iconst 1, 1) := by decide +kernel
theorem dX7_soundsWith_27 : decode cX7_soundsWith 27 = .ok (.iload_n 3, 1) := by decide +kernel
theorem dX7_soundsWith_28 : decode cX7_soundsWith 28 = .ok (.ishl, 1) := by decide +kernel
theorem dX7_soundsWith_29 : decode cX7_soundsWith 29 = .ok (.ior, 1) := by decide +kernel
theorem dX7_soundsWith_30 : decode cX7_soundsWith 30 = .ok (.istore_n 2, 1) := by decide +kernel
theorem dX7_soundsWith_31 : decode cX7_soundsWith 31 = .ok (.iinc 3 1, 3) := by decide +kernel
theorem dX7_soundsWith_34 : decode cX7_soundsWith 34 = .ok (.goto (-30), 3) := by decide +kernel
theorem dX7_soundsWith_37 : decode cX7_soundsWith 37 = .ok (.iload_n 2, 1) := by decide +kernel
theorem dX7_soundsWith_38 : decode cX7_soundsWith 38 = .ok (.ireturn, 1) := by decide +kernel
theorem dX7_timesInAll_0 : decode cX7_timesInAll 0 = .ok (.iconst 0, 1) := by decide +kernel
theorem dX7_timesInAll_1 : decode cX7_timesInAll 1 = .ok (.istore_n 2, 1) := by decide +kernel
theorem dX7_timesInAll_2 : decode cX7_timesInAll 2 = .ok (.iconst 0, 1) := by decide +kernel
theorem dX7_timesInAll_3 : decode cX7_timesInAll 3 = .ok (.istore_n 3, 1) := by decide +kernel
theorem dX7_timesInAll_4 : decode cX7_timesInAll 4 = .ok (.iload_n 3, 1) := by decide +kernel
theorem dX7_timesInAll_5 : decode cX7_timesInAll 5 = .ok (.aload_n 0, 1) := by decide +kernel
theorem dX7_timesInAll_6 : decode cX7_timesInAll 6 = .ok (.getfield 27, 3) := by decide +kernel
theorem dX7_timesInAll_9 : decode cX7_timesInAll 9 = .ok (.if_icmp .ge 22, 3) := by decide +kernel
theorem dX7_timesInAll_12 : decode cX7_timesInAll 12 = .ok (.iload_n 2, 1) := by decide +kernel
theorem dX7_timesInAll_13 : decode cX7_timesInAll 13 = .ok (.aload_n 1, 1) := by decide +kernel
theorem dX7_timesInAll_14 : decode cX7_timesInAll 14 = .ok (.aload_n 0, 1) := by decide +kernel
theorem dX7_timesInAll_15 : decode cX7_timesInAll 15 = .ok (.getfield 11, 3) := by decide +kernel
theorem dX7_timesInAll_18 : decode cX7_timesInAll 18 = .ok (.iload_n 3, 1) := by decide +kernel
theorem dX7_timesInAll_19 : decode cX7_timesInAll 19 = .ok (.aaload, 1) := by decide +kernel
theorem dX7_timesInAll_20 : decode cX7_timesInAll 20 = .ok (.invokevirtual 75, 3) := by decide +kernel
theorem dX7_timesInAll_23 : decode cX7_timesInAll 23 = .ok (.iadd, 1) := by decide +kernel
theorem dX7_timesInAll_24 : decode cX7_timesInAll 24 = .ok (.istore_n 2, 1) := by decide +kernel
theorem dX7_timesInAll_25 : decode cX7_timesInAll 25 = .ok (.iinc 3 1, 3) := by decide +kernel
theorem dX7_timesInAll_28 : decode cX7_timesInAll 28 = .ok (.goto (-24), 3) := by decide +kernel
theorem dX7_timesInAll_31 : decode cX7_timesInAll 31 = .ok (.iload_n 2, 1) := by decide +kernel
theorem dX7_timesInAll_32 : decode cX7_timesInAll 32 = .ok (.ireturn, 1) := by decide +kernel
theorem dX7_priceOf_0 : decode cX7_priceOf 0 = .ok (.iconst 0, 1) := by decide +kernel
theorem dX7_priceOf_1 : decode cX7_priceOf 1 = .ok (.istore_n 3, 1) := by decide +kernel
theorem dX7_priceOf_2 : decode cX7_priceOf 2 = .ok (.iconst 0, 1) := by decide +kernel
theorem dX7_priceOf_3 : decode cX7_priceOf 3 = .ok (.istore 4, 2) := by decide +kernel
theorem dX7_priceOf_5 : decode cX7_priceOf 5 = .ok (.iload 4, 2) := by decide +kernel
theorem dX7_priceOf_7 : decode cX7_priceOf 7 = .ok (.aload_n 0, 1) := by decide +kernel
theorem dX7_priceOf_8 : decode cX7_priceOf 8 = .ok (.getfield 31, 3) := by decide +kernel
theorem dX7_priceOf_11 : decode cX7_priceOf 11 = .ok (.if_icmp .ge 39, 3) := by decide +kernel
theorem dX7_priceOf_14 : decode cX7_priceOf 14 = .ok (.iload_n 1, 1) := by decide +kernel
theorem dX7_priceOf_15 : decode cX7_priceOf 15 = .ok (.iload 4, 2) := by decide +kernel
theorem dX7_priceOf_17 : decode cX7_priceOf 17 = .ok (.invokestatic 79, 3) := by decide +kernel
theorem dX7_priceOf_20 : decode cX7_priceOf 20 = .ok (.ifCond .eq 24, 3) := by decide +kernel
theorem dX7_priceOf_23 : decode cX7_priceOf 23 = .ok (.iload_n 3, 1) := by decide +kernel
theorem dX7_priceOf_24 : decode cX7_priceOf 24 = .ok (.iload_n 2, 1) := by decide +kernel
theorem dX7_priceOf_25 : decode cX7_priceOf 25 = .ok (.ifCond .eq 16, 3) := by decide +kernel
theorem dX7_priceOf_28 : decode cX7_priceOf 28 = .ok (.aload_n 0, 1) := by decide +kernel
theorem dX7_priceOf_29 : decode cX7_priceOf 29 = .ok (.getfield 19, 3) := by decide +kernel
theorem dX7_priceOf_32 : decode cX7_priceOf 32 = .ok (.iload 4, 2) := by decide +kernel
theorem dX7_priceOf_34 : decode cX7_priceOf 34 = .ok (.aaload, 1) := by decide +kernel
theorem dX7_priceOf_35 : decode cX7_priceOf 35 = .ok (.getfield 83, 3) := by decide +kernel
theorem dX7_priceOf_38 : decode cX7_priceOf 38 = .ok (.goto 4, 3) := by decide +kernel
theorem dX7_priceOf_41 : decode cX7_priceOf 41 = .ok (.iconst 1, 1) := by decide +kernel
theorem dX7_priceOf_42 : decode cX7_priceOf 42 = .ok (.iadd, 1) := by decide +kernel
theorem dX7_priceOf_43 : decode cX7_priceOf 43 = .ok (.istore_n 3, 1) := by decide +kernel
theorem dX7_priceOf_44 : decode cX7_priceOf 44 = .ok (.iinc 4 1, 3) := by decide +kernel
theorem dX7_priceOf_47 : decode cX7_priceOf 47 = .ok (.goto (-42), 3) := by decide +kernel
theorem dX7_priceOf_50 : decode cX7_priceOf 50 = .ok (.iload_n 3, 1) := by decide +kernel
theorem dX7_priceOf_51 : decode cX7_priceOf 51 = .ok (.ireturn, 1) := by decide +kernel
theorem dX7_keptBy_0 : decode cX7_keptBy 0 = .ok (.iconst 0, 1) := by decide +kernel
theorem dX7_keptBy_1 : decode cX7_keptBy 1 = .ok (.istore_n 3, 1) := by decide +kernel
theorem dX7_keptBy_2 : decode cX7_keptBy 2 = .ok (.iconst 0, 1) := by decide +kernel
theorem dX7_keptBy_3 : decode cX7_keptBy 3 = .ok (.istore 4, 2) := by decide +kernel
theorem dX7_keptBy_5 : decode cX7_keptBy 5 = .ok (.iload 4, 2) := by decide +kernel
theorem dX7_keptBy_7 : decode cX7_keptBy 7 = .ok (.aload_n 0, 1) := by decide +kernel
theorem dX7_keptBy_8 : decode cX7_keptBy 8 = .ok (.getfield 31, 3) := by decide +kernel
theorem dX7_keptBy_11 : decode cX7_keptBy 11 = .ok (.if_icmp .ge 32, 3) := by decide +kernel
theorem dX7_keptBy_14 : decode cX7_keptBy 14 = .ok (.iload_n 1, 1) := by decide +kernel
theorem dX7_keptBy_15 : decode cX7_keptBy 15 = .ok (.iload 4, 2) := by decide +kernel
theorem dX7_keptBy_17 : decode cX7_keptBy 17 = .ok (.invokestatic 79, 3) := by decide +kernel
theorem dX7_keptBy_20 : decode cX7_keptBy 20 = .ok (.ifCond .eq 17, 3) := by decide +kernel
theorem dX7_keptBy_23 : decode cX7_keptBy 23 = .ok (.iload_n 3, 1) := by decide +kernel
theorem dX7_keptBy_24 : decode cX7_keptBy 24 = .ok (.aload_n 0, 1) := by decide +kernel
theorem dX7_keptBy_25 : decode cX7_keptBy 25 = .ok (.getfield 19, 3) := by decide +kernel
theorem dX7_keptBy_28 : decode cX7_keptBy 28 = .ok (.iload 4, 2) := by decide +kernel
theorem dX7_keptBy_30 : decode cX7_keptBy 30 = .ok (.aaload, 1) := by decide +kernel
theorem dX7_keptBy_31 : decode cX7_keptBy 31 = .ok (.iload_n 2, 1) := by decide +kernel
theorem dX7_keptBy_32 : decode cX7_keptBy 32 = .ok (.invokevirtual 86, 3) := by decide +kernel
theorem dX7_keptBy_35 : decode cX7_keptBy 35 = .ok (.iadd, 1) := by decide +kernel
theorem dX7_keptBy_36 : decode cX7_keptBy 36 = .ok (.istore_n 3, 1) := by decide +kernel
theorem dX7_keptBy_37 : decode cX7_keptBy 37 = .ok (.iinc 4 1, 3) := by decide +kernel
theorem dX7_keptBy_40 : decode cX7_keptBy 40 = .ok (.goto (-35), 3) := by decide +kernel
theorem dX7_keptBy_43 : decode cX7_keptBy 43 = .ok (.iload_n 3, 1) := by decide +kernel
theorem dX7_keptBy_44 : decode cX7_keptBy 44 = .ok (.ireturn, 1) := by decide +kernel
theorem dX7_leastSet_0 : decode cX7_leastSet 0 = .ok (.iconst (-1), 1) := by decide +kernel
theorem dX7_leastSet_1 : decode cX7_leastSet 1 = .ok (.istore 4, 2) := by decide +kernel
theorem dX7_leastSet_3 : decode cX7_leastSet 3 = .ok (.ldc 89, 2) := by decide +kernel
theorem dX7_leastSet_5 : decode cX7_leastSet 5 = .ok (.istore 5, 2) := by decide +kernel
theorem dX7_leastSet_7 : decode cX7_leastSet 7 = .ok (.iconst 0, 1) := by decide +kernel
theorem dX7_leastSet_8 : decode cX7_leastSet 8 = .ok (.istore 6, 2) := by decide +kernel
theorem dX7_leastSet_10 : decode cX7_leastSet 10 = .ok (.iload 6, 2) := by decide +kernel
theorem dX7_leastSet_12 : decode cX7_leastSet 12 = .ok (.aload_n 0, 1) := by decide +kernel
theorem dX7_leastSet_13 : decode cX7_leastSet 13 = .ok (.invokevirtual 90, 3) := by decide +kernel
theorem dX7_leastSet_16 : decode cX7_leastSet 16 = .ok (.if_icmp .gt 44, 3) := by decide +kernel
theorem dX7_leastSet_19 : decode cX7_leastSet 19 = .ok (.aload_n 0, 1) := by decide +kernel
theorem dX7_leastSet_20 : decode cX7_leastSet 20 = .ok (.iload 6, 2) := by decide +kernel
theorem dX7_leastSet_22 : decode cX7_leastSet 22 = .ok (.iload_n 3, 1) := by decide +kernel
theorem dX7_leastSet_23 : decode cX7_leastSet 23 = .ok (.invokevirtual 94, 3) := by decide +kernel
theorem dX7_leastSet_26 : decode cX7_leastSet 26 = .ok (.istore 7, 2) := by decide +kernel
theorem dX7_leastSet_28 : decode cX7_leastSet 28 = .ok (.iload 7, 2) := by decide +kernel
theorem dX7_leastSet_30 : decode cX7_leastSet 30 = .ok (.iload 5, 2) := by decide +kernel
theorem dX7_leastSet_32 : decode cX7_leastSet 32 = .ok (.if_icmp .ge 22, 3) := by decide +kernel
theorem dX7_leastSet_35 : decode cX7_leastSet 35 = .ok (.aload_n 0, 1) := by decide +kernel
theorem dX7_leastSet_36 : decode cX7_leastSet 36 = .ok (.iload 6, 2) := by decide +kernel
theorem dX7_leastSet_38 : decode cX7_leastSet 38 = .ok (.iload_n 2, 1) := by decide +kernel
theorem dX7_leastSet_39 : decode cX7_leastSet 39 = .ok (.invokevirtual 98, 3) := by decide +kernel
theorem dX7_leastSet_42 : decode cX7_leastSet 42 = .ok (.iload_n 1, 1) := by decide +kernel
theorem dX7_leastSet_43 : decode cX7_leastSet 43 = .ok (.if_icmp .lt 11, 3) := by decide +kernel
theorem dX7_leastSet_46 : decode cX7_leastSet 46 = .ok (.iload 7, 2) := by decide +kernel
theorem dX7_leastSet_48 : decode cX7_leastSet 48 = .ok (.istore 5, 2) := by decide +kernel
theorem dX7_leastSet_50 : decode cX7_leastSet 50 = .ok (.iload 6, 2) := by decide +kernel
theorem dX7_leastSet_52 : decode cX7_leastSet 52 = .ok (.istore 4, 2) := by decide +kernel
theorem dX7_leastSet_54 : decode cX7_leastSet 54 = .ok (.iinc 6 1, 3) := by decide +kernel
theorem dX7_leastSet_57 : decode cX7_leastSet 57 = .ok (.goto (-47), 3) := by decide +kernel
theorem dX7_leastSet_60 : decode cX7_leastSet 60 = .ok (.iload 4, 2) := by decide +kernel
theorem dX7_leastSet_62 : decode cX7_leastSet 62 = .ok (.ireturn, 1) := by decide +kernel
theorem dX7_travel_0 : decode cX7_travel 0 = .ok (.iconst 0, 1) := by decide +kernel
theorem dX7_travel_1 : decode cX7_travel 1 = .ok (.istore 4, 2) := by decide +kernel
theorem dX7_travel_3 : decode cX7_travel 3 = .ok (.iload 4, 2) := by decide +kernel
theorem dX7_travel_5 : decode cX7_travel 5 = .ok (.bipush 8, 2) := by decide +kernel
theorem dX7_travel_7 : decode cX7_travel 7 = .ok (.if_icmp .ge 21, 3) := by decide +kernel
theorem dX7_travel_10 : decode cX7_travel 10 = .ok (.iload 4, 2) := by decide +kernel
theorem dX7_travel_12 : decode cX7_travel 12 = .ok (.aload_n 3, 1) := by decide +kernel
theorem dX7_travel_13 : decode cX7_travel 13 = .ok (.arraylength, 1) := by decide +kernel
theorem dX7_travel_14 : decode cX7_travel 14 = .ok (.if_icmp .ge 14, 3) := by decide +kernel
theorem dX7_travel_17 : decode cX7_travel 17 = .ok (.aload_n 3, 1) := by decide +kernel
theorem dX7_travel_18 : decode cX7_travel 18 = .ok (.iload 4, 2) := by decide +kernel
theorem dX7_travel_20 : decode cX7_travel 20 = .ok (.iconst 0, 1) := by decide +kernel
theorem dX7_travel_21 : decode cX7_travel 21 = .ok (.iastore, 1) := by decide +kernel
theorem dX7_travel_22 : decode cX7_travel 22 = .ok (.iinc 4 1, 3) := by decide +kernel
theorem dX7_travel_25 : decode cX7_travel 25 = .ok (.goto (-22), 3) := by decide +kernel
theorem dX7_travel_28 : decode cX7_travel 28 = .ok (.aload_n 0, 1) := by decide +kernel
theorem dX7_travel_29 : decode cX7_travel 29 = .ok (.invokevirtual 90, 3) := by decide +kernel
theorem dX7_travel_32 : decode cX7_travel 32 = .ok (.istore 4, 2) := by decide +kernel
theorem dX7_travel_34 : decode cX7_travel 34 = .ok (.iload_n 1, 1) := by decide +kernel
theorem dX7_travel_35 : decode cX7_travel 35 = .ok (.istore 5, 2) := by decide +kernel
theorem dX7_travel_37 : decode cX7_travel 37 = .ok (.iconst 1, 1) := by decide +kernel
theorem dX7_travel_38 : decode cX7_travel 38 = .ok (.istore 6, 2) := by decide +kernel
theorem dX7_travel_40 : decode cX7_travel 40 = .ok (.iload 6, 2) := by decide +kernel
theorem dX7_travel_42 : decode cX7_travel 42 = .ok (.iload_n 2, 1) := by decide +kernel
theorem dX7_travel_43 : decode cX7_travel 43 = .ok (.if_icmp .gt 97, 3) := by decide +kernel
theorem dX7_travel_46 : decode cX7_travel 46 = .ok (.iconst 0, 1) := by decide +kernel
theorem dX7_travel_47 : decode cX7_travel 47 = .ok (.istore 7, 2) := by decide +kernel
theorem dX7_travel_49 : decode cX7_travel 49 = .ok (.iload 7, 2) := by decide +kernel
theorem dX7_travel_51 : decode cX7_travel 51 = .ok (.aload_n 0, 1) := by decide +kernel
theorem dX7_travel_52 : decode cX7_travel 52 = .ok (.getfield 31, 3) := by decide +kernel
theorem dX7_travel_55 : decode cX7_travel 55 = .ok (.if_icmp .ge 79, 3) := by decide +kernel
theorem dX7_travel_58 : decode cX7_travel 58 = .ok (.iload 7, 2) := by decide +kernel
theorem dX7_travel_60 : decode cX7_travel 60 = .ok (.aload_n 3, 1) := by decide +kernel
theorem dX7_travel_61 : decode cX7_travel 61 = .ok (.arraylength, 1) := by decide +kernel
theorem dX7_travel_62 : decode cX7_travel 62 = .ok (.if_icmp .ge 72, 3) := by decide +kernel
theorem dX7_travel_65 : decode cX7_travel 65 = .ok (.iload 4, 2) := by decide +kernel
theorem dX7_travel_67 : decode cX7_travel 67 = .ok (.iload 7, 2) := by decide +kernel
theorem dX7_travel_69 : decode cX7_travel 69 = .ok (.invokestatic 79, 3) := by decide +kernel
theorem dX7_travel_72 : decode cX7_travel 72 = .ok (.ifCond .eq 56, 3) := by decide +kernel
theorem dX7_travel_75 : decode cX7_travel 75 = .ok (.iload 5, 2) := by decide +kernel
theorem dX7_travel_77 : decode cX7_travel 77 = .ok (.sipush 2683, 3) := by decide +kernel
theorem dX7_travel_80 : decode cX7_travel 80 = .ok (.imul, 1) := by decide +kernel
theorem dX7_travel_81 : decode cX7_travel 81 = .ok (.sipush 9419, 3) := by decide +kernel
theorem dX7_travel_84 : decode cX7_travel 84 = .ok (.iadd, 1) := by decide +kernel
theorem dX7_travel_85 : decode cX7_travel 85 = .ok (.ldc 102, 2) := by decide +kernel
theorem dX7_travel_87 : decode cX7_travel 87 = .ok (.irem, 1) := by decide +kernel
theorem dX7_travel_88 : decode cX7_travel 88 = .ok (.istore 5, 2) := by decide +kernel
theorem dX7_travel_90 : decode cX7_travel 90 = .ok (.iload 5, 2) := by decide +kernel
theorem dX7_travel_92 : decode cX7_travel 92 = .ok (.bipush 8, 2) := by decide +kernel
theorem dX7_travel_94 : decode cX7_travel 94 = .ok (.idiv, 1) := by decide +kernel
theorem dX7_travel_95 : decode cX7_travel 95 = .ok (.bipush 16, 2) := by decide +kernel
theorem dX7_travel_97 : decode cX7_travel 97 = .ok (.irem, 1) := by decide +kernel
theorem dX7_travel_98 : decode cX7_travel 98 = .ok (.aload_n 0, 1) := by decide +kernel
theorem dX7_travel_99 : decode cX7_travel 99 = .ok (.getfield 19, 3) := by decide +kernel
theorem dX7_travel_102 : decode cX7_travel 102 = .ok (.iload 7, 2) := by decide +kernel
theorem dX7_travel_104 : decode cX7_travel 104 = .ok (.aaload, 1) := by decide +kernel
theorem dX7_travel_105 : decode cX7_travel 105 = .ok (.getfield 103, 3) := by decide +kernel
theorem dX7_travel_108 : decode cX7_travel 108 = .ok (.if_icmp .ge 20, 3) := by decide +kernel
theorem dX7_travel_111 : decode cX7_travel 111 = .ok (.iload 4, 2) := by decide +kernel
theorem dX7_travel_113 : decode cX7_travel 113 = .ok (.iconst 1, 1) := by decide +kernel
theorem dX7_travel_114 : decode cX7_travel 114 = .ok (.iload 7, 2) := by decide +kernel
theorem dX7_travel_116 : decode cX7_travel 116 = .ok (.ishl, 1) := by decide +kernel
theorem dX7_travel_117 : decode cX7_travel 117 = .ok (.iconst (-1), 1) := by decide +kernel
theorem dX7_travel_118 : decode cX7_travel 118 = .ok (.ixor, 1) := by decide +kernel
theorem dX7_travel_119 : decode cX7_travel 119 = .ok (.iand, 1) := by decide +kernel
theorem dX7_travel_120 : decode cX7_travel 120 = .ok (.istore 4, 2) := by decide +kernel
theorem dX7_travel_122 : decode cX7_travel 122 = .ok (.aload_n 3, 1) := by decide +kernel
theorem dX7_travel_123 : decode cX7_travel 123 = .ok (.iload 7, 2) := by decide +kernel
theorem dX7_travel_125 : decode cX7_travel 125 = .ok (.iload 6, 2) := by decide +kernel
theorem dX7_travel_127 : decode cX7_travel 127 = .ok (.iastore, 1) := by decide +kernel
theorem dX7_travel_128 : decode cX7_travel 128 = .ok (.iinc 7 1, 3) := by decide +kernel
theorem dX7_travel_131 : decode cX7_travel 131 = .ok (.goto (-82), 3) := by decide +kernel
theorem dX7_travel_134 : decode cX7_travel 134 = .ok (.iinc 6 1, 3) := by decide +kernel
theorem dX7_travel_137 : decode cX7_travel 137 = .ok (.goto (-97), 3) := by decide +kernel
theorem dX7_travel_140 : decode cX7_travel 140 = .ok (.iload 4, 2) := by decide +kernel
theorem dX7_travel_142 : decode cX7_travel 142 = .ok (.ireturn, 1) := by decide +kernel
theorem dX8_init_0 : decode cX8_init 0 = .ok (.aload_n 0, 1) := by decide +kernel
theorem dX8_init_1 : decode cX8_init 1 = .ok (.invokespecial 3, 3) := by decide +kernel
theorem dX8_init_4 : decode cX8_init 4 = .ok (.aload_n 0, 1) := by decide +kernel
theorem dX8_init_5 : decode cX8_init 5 = .ok (.bipush 8, 2) := by decide +kernel
theorem dX8_init_7 : decode cX8_init 7 = .ok (.newarray .int, 2) := by decide +kernel
theorem dX8_init_9 : decode cX8_init 9 = .ok (.putfield 9, 3) := by decide +kernel
theorem dX8_init_12 : decode cX8_init 12 = .ok (.aload_n 0, 1) := by decide +kernel
theorem dX8_init_13 : decode cX8_init 13 = .ok (.bipush 8, 2) := by decide +kernel
theorem dX8_init_15 : decode cX8_init 15 = .ok (.newarray .int, 2) := by decide +kernel
theorem dX8_init_17 : decode cX8_init 17 = .ok (.putfield 15, 3) := by decide +kernel
theorem dX8_init_20 : decode cX8_init 20 = .ok (.aload_n 0, 1) := by decide +kernel
theorem dX8_init_21 : decode cX8_init 21 = .ok (.bipush 8, 2) := by decide +kernel
theorem dX8_init_23 : decode cX8_init 23 = .ok (.newarray .int, 2) := by decide +kernel
theorem dX8_init_25 : decode cX8_init 25 = .ok (.putfield 18, 3) := by decide +kernel
theorem dX8_init_28 : decode cX8_init 28 = .ok (.aload_n 0, 1) := by decide +kernel
theorem dX8_init_29 : decode cX8_init 29 = .ok (.bipush 8, 2) := by decide +kernel
theorem dX8_init_31 : decode cX8_init 31 = .ok (.newarray .int, 2) := by decide +kernel
theorem dX8_init_33 : decode cX8_init 33 = .ok (.putfield 21, 3) := by decide +kernel
theorem dX8_init_36 : decode cX8_init 36 = .ok (.aload_n 0, 1) := by decide +kernel
theorem dX8_init_37 : decode cX8_init 37 = .ok (.aload_n 1, 1) := by decide +kernel
theorem dX8_init_38 : decode cX8_init 38 = .ok (.putfield 24, 3) := by decide +kernel
theorem dX8_init_41 : decode cX8_init 41 = .ok (.aload_n 0, 1) := by decide +kernel
theorem dX8_init_42 : decode cX8_init 42 = .ok (.new 28, 3) := by decide +kernel
theorem dX8_init_45 : decode cX8_init 45 = .ok (.dup, 1) := by decide +kernel
theorem dX8_init_46 : decode cX8_init 46 = .ok (.invokespecial 30, 3) := by decide +kernel
theorem dX8_init_49 : decode cX8_init 49 = .ok (.putfield 31, 3) := by decide +kernel
theorem dX8_init_52 : decode cX8_init 52 = .ok (.return_, 1) := by decide +kernel
theorem dX8_readShop_0 : decode cX8_readShop 0 = .ok (.aload_n 0, 1) := by decide +kernel
theorem dX8_readShop_1 : decode cX8_readShop 1 = .ok (.new 28, 3) := by decide +kernel
theorem dX8_readShop_4 : decode cX8_readShop 4 = .ok (.dup, 1) := by decide +kernel
theorem dX8_readShop_5 : decode cX8_readShop 5 = .ok (.invokespecial 30, 3) := by decide +kernel
theorem dX8_readShop_8 : decode cX8_readShop 8 = .ok (.putfield 31, 3) := by decide +kernel
theorem dX8_readShop_11 : decode cX8_readShop 11 = .ok (.aload_n 0, 1) := by decide +kernel
theorem dX8_readShop_12 : decode cX8_readShop 12 = .ok (.getfield 24, 3) := by decide +kernel
theorem dX8_readShop_15 : decode cX8_readShop 15 = .ok (.iload_n 1, 1) := by decide +kernel
theorem dX8_readShop_16 : decode cX8_readShop 16 = .ok (.invokevirtual 35, 3) := by decide +kernel
theorem dX8_readShop_19 : decode cX8_readShop 19 = .ok (.iconst 0, 1) := by decide +kernel
theorem dX8_readShop_20 : decode cX8_readShop 20 = .ok (.istore_n 2, 1) := by decide +kernel
theorem dX8_readShop_21 : decode cX8_readShop 21 = .ok (.iload_n 2, 1) := by decide +kernel
theorem dX8_readShop_22 : decode cX8_readShop 22 = .ok (.iload_n 1, 1) := by decide +kernel
theorem dX8_readShop_23 : decode cX8_readShop 23 = .ok (.if_icmp .gt 94, 3) := by decide +kernel
theorem dX8_readShop_26 : decode cX8_readShop 26 = .ok (.aload_n 0, 1) := by decide +kernel
theorem dX8_readShop_27 : decode cX8_readShop 27 = .ok (.getfield 24, 3) := by decide +kernel
theorem dX8_readShop_30 : decode cX8_readShop 30 = .ok (.invokevirtual 41, 3) := by decide +kernel
theorem dX8_readShop_33 : decode cX8_readShop 33 = .ok (.ifCond .ne 84, 3) := by decide +kernel
theorem dX8_readShop_36 : decode cX8_readShop 36 = .ok (.aload_n 0, 1) := by decide +kernel
theorem dX8_readShop_37 : decode cX8_readShop 37 = .ok (.getfield 24, 3) := by decide +kernel
theorem dX8_readShop_40 : decode cX8_readShop 40 = .ok (.invokevirtual 45, 3) := by decide +kernel
theorem dX8_readShop_43 : decode cX8_readShop 43 = .ok (.ifCond .ne 74, 3) := by decide +kernel
theorem dX8_readShop_46 : decode cX8_readShop 46 = .ok (.aload_n 0, 1) := by decide +kernel
theorem dX8_readShop_47 : decode cX8_readShop 47 = .ok (.getfield 24, 3) := by decide +kernel
theorem dX8_readShop_50 : decode cX8_readShop 50 = .ok (.ldc 48, 2) := by decide +kernel
theorem dX8_readShop_52 : decode cX8_readShop 52 = .ok (.invokevirtual 50, 3) := by decide +kernel
theorem dX8_readShop_55 : decode cX8_readShop 55 = .ok (.ifCond .eq 10, 3) := by decide +kernel
theorem dX8_readShop_58 : decode cX8_readShop 58 = .ok (.aload_n 0, 1) := by decide +kernel
theorem dX8_readShop_59 : decode cX8_readShop 59 = .ok (.invokevirtual 54, 3) := by decide +kernel
theorem dX8_readShop_62 : decode cX8_readShop 62 = .ok (.goto 49, 3) := by decide +kernel
theorem dX8_readShop_65 : decode cX8_readShop 65 = .ok (.aload_n 0, 1) := by decide +kernel
theorem dX8_readShop_66 : decode cX8_readShop 66 = .ok (.getfield 24, 3) := by decide +kernel
theorem dX8_readShop_69 : decode cX8_readShop 69 = .ok (.ldc 57, 2) := by decide +kernel
theorem dX8_readShop_71 : decode cX8_readShop 71 = .ok (.invokevirtual 50, 3) := by decide +kernel
theorem dX8_readShop_74 : decode cX8_readShop 74 = .ok (.ifCond .eq 10, 3) := by decide +kernel
theorem dX8_readShop_77 : decode cX8_readShop 77 = .ok (.aload_n 0, 1) := by decide +kernel
theorem dX8_readShop_78 : decode cX8_readShop 78 = .ok (.invokevirtual 59, 3) := by decide +kernel
theorem dX8_readShop_81 : decode cX8_readShop 81 = .ok (.goto 30, 3) := by decide +kernel
theorem dX8_readShop_84 : decode cX8_readShop 84 = .ok (.aload_n 0, 1) := by decide +kernel
theorem dX8_readShop_85 : decode cX8_readShop 85 = .ok (.getfield 24, 3) := by decide +kernel
theorem dX8_readShop_88 : decode cX8_readShop 88 = .ok (.ldc 62, 2) := by decide +kernel
theorem dX8_readShop_90 : decode cX8_readShop 90 = .ok (.invokevirtual 50, 3) := by decide +kernel
theorem dX8_readShop_93 : decode cX8_readShop 93 = .ok (.ifCond .eq 10, 3) := by decide +kernel
theorem dX8_readShop_96 : decode cX8_readShop 96 = .ok (.aload_n 0, 1) := by decide +kernel
theorem dX8_readShop_97 : decode cX8_readShop 97 = .ok (.invokevirtual 64, 3) := by decide +kernel
theorem dX8_readShop_100 : decode cX8_readShop 100 = .ok (.goto 11, 3) := by decide +kernel
theorem dX8_readShop_103 : decode cX8_readShop 103 = .ok (.aload_n 0, 1) := by decide +kernel
theorem dX8_readShop_104 : decode cX8_readShop 104 = .ok (.getfield 24, 3) := by decide +kernel
theorem dX8_readShop_107 : decode cX8_readShop 107 = .ok (.iconst 2, 1) := by decide +kernel
theorem dX8_readShop_108 : decode cX8_readShop 108 = .ok (.invokevirtual 67, 3) := by decide +kernel
theorem dX8_readShop_111 : decode cX8_readShop 111 = .ok (.iinc 2 1, 3) := by decide +kernel
theorem dX8_readShop_114 : decode cX8_readShop 114 = .ok (.goto (-93), 3) := by decide +kernel
theorem dX8_readShop_117 : decode cX8_readShop 117 = .ok (.aload_n 0, 1) := by decide +kernel
theorem dX8_readShop_118 : decode cX8_readShop 118 = .ok (.getfield 31, 3) := by decide +kernel
theorem dX8_readShop_121 : decode cX8_readShop 121 = .ok (.areturn, 1) := by decide +kernel
theorem dX8_readSound_0 : decode cX8_readSound 0 = .ok (.aload_n 0, 1) := by decide +kernel
theorem dX8_readSound_1 : decode cX8_readSound 1 = .ok (.getfield 31, 3) := by decide +kernel
theorem dX8_readSound_4 : decode cX8_readSound 4 = .ok (.getfield 70, 3) := by decide +kernel
theorem dX8_readSound_7 : decode cX8_readSound 7 = .ok (.bipush 8, 2) := by decide +kernel
theorem dX8_readSound_9 : decode cX8_readSound 9 = .ok (.if_icmp .lt 13, 3) := by decide +kernel
theorem dX8_readSound_12 : decode cX8_readSound 12 = .ok (.aload_n 0, 1) := by decide +kernel
theorem dX8_readSound_13 : decode cX8_readSound 13 = .ok (.getfield 24, 3) := by decide +kernel
theorem dX8_readSound_16 : decode cX8_readSound 16 = .ok (.bipush 6, 2) := by decide +kernel
theorem dX8_readSound_18 : decode cX8_readSound 18 = .ok (.invokevirtual 67, 3) := by decide +kernel
theorem dX8_readSound_21 : decode cX8_readSound 21 = .ok (.return_, 1) := by decide +kernel
theorem dX8_readSound_22 : decode cX8_readSound 22 = .ok (.aload_n 0, 1) := by decide +kernel
theorem dX8_readSound_23 : decode cX8_readSound 23 = .ok (.getfield 24, 3) := by decide +kernel
theorem dX8_readSound_26 : decode cX8_readSound 26 = .ok (.invokevirtual 74, 3) := by decide +kernel
theorem dX8_readSound_29 : decode cX8_readSound 29 = .ok (.aload_n 0, 1) := by decide +kernel
theorem dX8_readSound_30 : decode cX8_readSound 30 = .ok (.aload_n 0, 1) := by decide +kernel
theorem dX8_readSound_31 : decode cX8_readSound 31 = .ok (.getfield 9, 3) := by decide +kernel
theorem dX8_readSound_34 : decode cX8_readSound 34 = .ok (.aload_n 0, 1) := by decide +kernel
theorem dX8_readSound_35 : decode cX8_readSound 35 = .ok (.getfield 15, 3) := by decide +kernel
theorem dX8_readSound_38 : decode cX8_readSound 38 = .ok (.aload_n 0, 1) := by decide +kernel
theorem dX8_readSound_39 : decode cX8_readSound 39 = .ok (.getfield 31, 3) := by decide +kernel
theorem dX8_readSound_42 : decode cX8_readSound 42 = .ok (.getfield 70, 3) := by decide +kernel
theorem dX8_readSound_45 : decode cX8_readSound 45 = .ok (.invokevirtual 77, 3) := by decide +kernel
theorem dX8_readSound_48 : decode cX8_readSound 48 = .ok (.aload_n 0, 1) := by decide +kernel
theorem dX8_readSound_49 : decode cX8_readSound 49 = .ok (.aload_n 0, 1) := by decide +kernel
theorem dX8_readSound_50 : decode cX8_readSound 50 = .ok (.getfield 31, 3) := by decide +kernel
theorem dX8_readSound_53 : decode cX8_readSound 53 = .ok (.getfield 81, 3) := by decide +kernel
theorem dX8_readSound_56 : decode cX8_readSound 56 = .ok (.aload_n 0, 1) := by decide +kernel
theorem dX8_readSound_57 : decode cX8_readSound 57 = .ok (.getfield 31, 3) := by decide +kernel
theorem dX8_readSound_60 : decode cX8_readSound 60 = .ok (.getfield 70, 3) := by decide +kernel
theorem dX8_readSound_63 : decode cX8_readSound 63 = .ok (.aaload, 1) := by decide +kernel
theorem dX8_readSound_64 : decode cX8_readSound 64 = .ok (.invokevirtual 85, 3) := by decide +kernel
theorem dX8_readSound_67 : decode cX8_readSound 67 = .ok (.aload_n 0, 1) := by decide +kernel
theorem dX8_readSound_68 : decode cX8_readSound 68 = .ok (.getfield 24, 3) := by decide +kernel
theorem dX8_readSound_71 : decode cX8_readSound 71 = .ok (.invokevirtual 89, 3) := by decide +kernel
theorem dX8_readSound_74 : decode cX8_readSound 74 = .ok (.aload_n 0, 1) := by decide +kernel
theorem dX8_readSound_75 : decode cX8_readSound 75 = .ok (.getfield 31, 3) := by decide +kernel
theorem dX8_readSound_78 : decode cX8_readSound 78 = .ok (.dup, 1) := by decide +kernel
theorem dX8_readSound_79 : decode cX8_readSound 79 = .ok (.getfield 70, 3) := by decide +kernel
theorem dX8_readSound_82 : decode cX8_readSound 82 = .ok (.iconst 1, 1) := by decide +kernel
theorem dX8_readSound_83 : decode cX8_readSound 83 = .ok (.iadd, 1) := by decide +kernel
theorem dX8_readSound_84 : decode cX8_readSound 84 = .ok (.putfield 70, 3) := by decide +kernel
theorem dX8_readSound_87 : decode cX8_readSound 87 = .ok (.return_, 1) := by decide +kernel
theorem dX8_readJar_0 : decode cX8_readJar 0 = .ok (.aload_n 0, 1) := by decide +kernel
theorem dX8_readJar_1 : decode cX8_readJar 1 = .ok (.getfield 31, 3) := by decide +kernel
theorem dX8_readJar_4 : decode cX8_readJar 4 = .ok (.getfield 92, 3) := by decide +kernel
theorem dX8_readJar_7 : decode cX8_readJar 7 = .ok (.bipush 8, 2) := by decide +kernel
theorem dX8_readJar_9 : decode cX8_readJar 9 = .ok (.if_icmp .lt 13, 3) := by decide +kernel
theorem dX8_readJar_12 : decode cX8_readJar 12 = .ok (.aload_n 0, 1) := by decide +kernel
theorem dX8_readJar_13 : decode cX8_readJar 13 = .ok (.getfield 24, 3) := by decide +kernel
theorem dX8_readJar_16 : decode cX8_readJar 16 = .ok (.bipush 6, 2) := by decide +kernel
theorem dX8_readJar_18 : decode cX8_readJar 18 = .ok (.invokevirtual 67, 3) := by decide +kernel
theorem dX8_readJar_21 : decode cX8_readJar 21 = .ok (.return_, 1) := by decide +kernel
theorem dX8_readJar_22 : decode cX8_readJar 22 = .ok (.aload_n 0, 1) := by decide +kernel
theorem dX8_readJar_23 : decode cX8_readJar 23 = .ok (.getfield 24, 3) := by decide +kernel
theorem dX8_readJar_26 : decode cX8_readJar 26 = .ok (.invokevirtual 74, 3) := by decide +kernel
theorem dX8_readJar_29 : decode cX8_readJar 29 = .ok (.aload_n 0, 1) := by decide +kernel
theorem dX8_readJar_30 : decode cX8_readJar 30 = .ok (.aload_n 0, 1) := by decide +kernel
theorem dX8_readJar_31 : decode cX8_readJar 31 = .ok (.getfield 18, 3) := by decide +kernel
theorem dX8_readJar_34 : decode cX8_readJar 34 = .ok (.aload_n 0, 1) := by decide +kernel
theorem dX8_readJar_35 : decode cX8_readJar 35 = .ok (.getfield 21, 3) := by decide +kernel
theorem dX8_readJar_38 : decode cX8_readJar 38 = .ok (.aload_n 0, 1) := by decide +kernel
theorem dX8_readJar_39 : decode cX8_readJar 39 = .ok (.getfield 31, 3) := by decide +kernel
theorem dX8_readJar_42 : decode cX8_readJar 42 = .ok (.getfield 92, 3) := by decide +kernel
theorem dX8_readJar_45 : decode cX8_readJar 45 = .ok (.invokevirtual 77, 3) := by decide +kernel
theorem dX8_readJar_48 : decode cX8_readJar 48 = .ok (.aload_n 0, 1) := by decide +kernel
theorem dX8_readJar_49 : decode cX8_readJar 49 = .ok (.getfield 31, 3) := by decide +kernel
theorem dX8_readJar_52 : decode cX8_readJar 52 = .ok (.getfield 95, 3) := by decide +kernel
theorem dX8_readJar_55 : decode cX8_readJar 55 = .ok (.aload_n 0, 1) := by decide +kernel
theorem dX8_readJar_56 : decode cX8_readJar 56 = .ok (.getfield 31, 3) := by decide +kernel
theorem dX8_readJar_59 : decode cX8_readJar 59 = .ok (.getfield 92, 3) := by decide +kernel
theorem dX8_readJar_62 : decode cX8_readJar 62 = .ok (.aaload, 1) := by decide +kernel
theorem dX8_readJar_63 : decode cX8_readJar 63 = .ok (.astore_n 1, 1) := by decide +kernel
theorem dX8_readJar_64 : decode cX8_readJar 64 = .ok (.aload_n 0, 1) := by decide +kernel
theorem dX8_readJar_65 : decode cX8_readJar 65 = .ok (.getfield 24, 3) := by decide +kernel
theorem dX8_readJar_68 : decode cX8_readJar 68 = .ok (.ldc 99, 2) := by decide +kernel
theorem dX8_readJar_70 : decode cX8_readJar 70 = .ok (.invokevirtual 101, 3) := by decide +kernel
theorem dX8_readJar_73 : decode cX8_readJar 73 = .ok (.aload_n 1, 1) := by decide +kernel
theorem dX8_readJar_74 : decode cX8_readJar 74 = .ok (.aload_n 0, 1) := by decide +kernel
theorem dX8_readJar_75 : decode cX8_readJar 75 = .ok (.getfield 24, 3) := by decide +kernel
theorem dX8_readJar_78 : decode cX8_readJar 78 = .ok (.iconst 1, 1) := by decide +kernel
theorem dX8_readJar_79 : decode cX8_readJar 79 = .ok (.bipush 12, 2) := by decide +kernel
theorem dX8_readJar_81 : decode cX8_readJar 81 = .ok (.invokevirtual 105, 3) := by decide +kernel
theorem dX8_readJar_84 : decode cX8_readJar 84 = .ok (.putfield 109, 3) := by decide +kernel
theorem dX8_readJar_87 : decode cX8_readJar 87 = .ok (.aload_n 0, 1) := by decide +kernel
theorem dX8_readJar_88 : decode cX8_readJar 88 = .ok (.getfield 24, 3) := by decide +kernel
theorem dX8_readJar_91 : decode cX8_readJar 91 = .ok (.ldc 113, 2) := by decide +kernel
theorem dX8_readJar_93 : decode cX8_readJar 93 = .ok (.invokevirtual 101, 3) := by decide +kernel
theorem dX8_readJar_96 : decode cX8_readJar 96 = .ok (.aload_n 1, 1) := by decide +kernel
theorem dX8_readJar_97 : decode cX8_readJar 97 = .ok (.aload_n 0, 1) := by decide +kernel
theorem dX8_readJar_98 : decode cX8_readJar 98 = .ok (.getfield 24, 3) := by decide +kernel
theorem dX8_readJar_101 : decode cX8_readJar 101 = .ok (.iconst 0, 1) := by decide +kernel
theorem dX8_readJar_102 : decode cX8_readJar 102 = .ok (.bipush 99, 2) := by decide +kernel
theorem dX8_readJar_104 : decode cX8_readJar 104 = .ok (.invokevirtual 105, 3) := by decide +kernel
theorem dX8_readJar_107 : decode cX8_readJar 107 = .ok (.putfield 115, 3) := by decide +kernel
theorem dX8_readJar_110 : decode cX8_readJar 110 = .ok (.aload_n 1, 1) := by decide +kernel
theorem dX8_readJar_111 : decode cX8_readJar 111 = .ok (.aload_n 0, 1) := by decide +kernel
theorem dX8_readJar_112 : decode cX8_readJar 112 = .ok (.invokevirtual 117, 3) := by decide +kernel
theorem dX8_readJar_115 : decode cX8_readJar 115 = .ok (.putfield 121, 3) := by decide +kernel
theorem dX8_readJar_118 : decode cX8_readJar 118 = .ok (.aload_n 0, 1) := by decide +kernel
theorem dX8_readJar_119 : decode cX8_readJar 119 = .ok (.getfield 24, 3) := by decide +kernel
theorem dX8_readJar_122 : decode cX8_readJar 122 = .ok (.ldc 124, 2) := by decide +kernel
theorem dX8_readJar_124 : decode cX8_readJar 124 = .ok (.invokevirtual 126, 3) := by decide +kernel
theorem dX8_readJar_127 : decode cX8_readJar 127 = .ok (.ifCond .eq 17, 3) := by decide +kernel
theorem dX8_readJar_130 : decode cX8_readJar 130 = .ok (.aload_n 1, 1) := by decide +kernel
theorem dX8_readJar_131 : decode cX8_readJar 131 = .ok (.aload_n 0, 1) := by decide +kernel
theorem dX8_readJar_132 : decode cX8_readJar 132 = .ok (.getfield 24, 3) := by decide +kernel
theorem dX8_readJar_135 : decode cX8_readJar 135 = .ok (.iconst 0, 1) := by decide +kernel
theorem dX8_readJar_136 : decode cX8_readJar 136 = .ok (.bipush 99, 2) := by decide +kernel
theorem dX8_readJar_138 : decode cX8_readJar 138 = .ok (.invokevirtual 105, 3) := by decide +kernel
theorem dX8_readJar_141 : decode cX8_readJar 141 = .ok (.putfield 129, 3) := by decide +kernel
theorem dX8_readJar_144 : decode cX8_readJar 144 = .ok (.aload_n 0, 1) := by decide +kernel
theorem dX8_readJar_145 : decode cX8_readJar 145 = .ok (.getfield 24, 3) := by decide +kernel
theorem dX8_readJar_148 : decode cX8_readJar 148 = .ok (.ldc 131, 2) := by decide +kernel
theorem dX8_readJar_150 : decode cX8_readJar 150 = .ok (.invokevirtual 126, 3) := by decide +kernel
theorem dX8_readJar_153 : decode cX8_readJar 153 = .ok (.ifCond .eq 17, 3) := by decide +kernel
theorem dX8_readJar_156 : decode cX8_readJar 156 = .ok (.aload_n 1, 1) := by decide +kernel
theorem dX8_readJar_157 : decode cX8_readJar 157 = .ok (.aload_n 0, 1) := by decide +kernel
theorem dX8_readJar_158 : decode cX8_readJar 158 = .ok (.getfield 24, 3) := by decide +kernel
theorem dX8_readJar_161 : decode cX8_readJar 161 = .ok (.iconst 0, 1) := by decide +kernel
theorem dX8_readJar_162 : decode cX8_readJar 162 = .ok (.bipush 99, 2) := by decide +kernel
theorem dX8_readJar_164 : decode cX8_readJar 164 = .ok (.invokevirtual 105, 3) := by decide +kernel
theorem dX8_readJar_167 : decode cX8_readJar 167 = .ok (.putfield 133, 3) := by decide +kernel
theorem dX8_readJar_170 : decode cX8_readJar 170 = .ok (.aload_n 0, 1) := by decide +kernel
theorem dX8_readJar_171 : decode cX8_readJar 171 = .ok (.getfield 24, 3) := by decide +kernel
theorem dX8_readJar_174 : decode cX8_readJar 174 = .ok (.ldc 135, 2) := by decide +kernel
theorem dX8_readJar_176 : decode cX8_readJar 176 = .ok (.invokevirtual 126, 3) := by decide +kernel
theorem dX8_readJar_179 : decode cX8_readJar 179 = .ok (.ifCond .eq 17, 3) := by decide +kernel
theorem dX8_readJar_182 : decode cX8_readJar 182 = .ok (.aload_n 1, 1) := by decide +kernel
theorem dX8_readJar_183 : decode cX8_readJar 183 = .ok (.aload_n 0, 1) := by decide +kernel
theorem dX8_readJar_184 : decode cX8_readJar 184 = .ok (.getfield 24, 3) := by decide +kernel
theorem dX8_readJar_187 : decode cX8_readJar 187 = .ok (.iconst 0, 1) := by decide +kernel
theorem dX8_readJar_188 : decode cX8_readJar 188 = .ok (.bipush 15, 2) := by decide +kernel
theorem dX8_readJar_190 : decode cX8_readJar 190 = .ok (.invokevirtual 105, 3) := by decide +kernel
theorem dX8_readJar_193 : decode cX8_readJar 193 = .ok (.putfield 137, 3) := by decide +kernel
theorem dX8_readJar_196 : decode cX8_readJar 196 = .ok (.aload_n 0, 1) := by decide +kernel
theorem dX8_readJar_197 : decode cX8_readJar 197 = .ok (.getfield 24, 3) := by decide +kernel
theorem dX8_readJar_200 : decode cX8_readJar 200 = .ok (.invokevirtual 89, 3) := by decide +kernel
theorem dX8_readJar_203 : decode cX8_readJar 203 = .ok (.aload_n 0, 1) := by decide +kernel
theorem dX8_readJar_204 : decode cX8_readJar 204 = .ok (.getfield 31, 3) := by decide +kernel
theorem dX8_readJar_207 : decode cX8_readJar 207 = .ok (.dup, 1) := by decide +kernel
theorem dX8_readJar_208 : decode cX8_readJar 208 = .ok (.getfield 92, 3) := by decide +kernel
theorem dX8_readJar_211 : decode cX8_readJar 211 = .ok (.iconst 1, 1) := by decide +kernel
theorem dX8_readJar_212 : decode cX8_readJar 212 = .ok (.iadd, 1) := by decide +kernel
theorem dX8_readJar_213 : decode cX8_readJar 213 = .ok (.putfield 92, 3) := by decide +kernel
theorem dX8_readJar_216 : decode cX8_readJar 216 = .ok (.return_, 1) := by decide +kernel
theorem dX8_takeSide_0 : decode cX8_takeSide 0 = .ok (.aload_n 0, 1) := by decide +kernel
theorem dX8_takeSide_1 : decode cX8_takeSide 1 = .ok (.getfield 24, 3) := by decide +kernel
theorem dX8_takeSide_4 : decode cX8_takeSide 4 = .ok (.ldc 139, 2) := by decide +kernel
theorem dX8_takeSide_6 : decode cX8_takeSide 6 = .ok (.invokevirtual 126, 3) := by decide +kernel
theorem dX8_takeSide_9 : decode cX8_takeSide 9 = .ok (.istore_n 1, 1) := by decide +kernel
theorem dX8_takeSide_10 : decode cX8_takeSide 10 = .ok (.aload_n 0, 1) := by decide +kernel
theorem dX8_takeSide_11 : decode cX8_takeSide 11 = .ok (.getfield 24, 3) := by decide +kernel
theorem dX8_takeSide_14 : decode cX8_takeSide 14 = .ok (.ldc 141, 2) := by decide +kernel
theorem dX8_takeSide_16 : decode cX8_takeSide 16 = .ok (.invokevirtual 126, 3) := by decide +kernel
theorem dX8_takeSide_19 : decode cX8_takeSide 19 = .ok (.istore_n 2, 1) := by decide +kernel
theorem dX8_takeSide_20 : decode cX8_takeSide 20 = .ok (.iload_n 1, 1) := by decide +kernel
theorem dX8_takeSide_21 : decode cX8_takeSide 21 = .ok (.iload_n 2, 1) := by decide +kernel
theorem dX8_takeSide_22 : decode cX8_takeSide 22 = .ok (.if_icmp .ne 5, 3) := by decide +kernel
theorem dX8_takeSide_25 : decode cX8_takeSide 25 = .ok (.iconst 2, 1) := by decide +kernel
theorem dX8_takeSide_26 : decode cX8_takeSide 26 = .ok (.ireturn, 1) := by decide +kernel
theorem dX8_takeSide_27 : decode cX8_takeSide 27 = .ok (.iload_n 1, 1) := by decide +kernel
theorem dX8_takeSide_28 : decode cX8_takeSide 28 = .ok (.ifCond .eq 7, 3) := by decide +kernel
theorem dX8_takeSide_31 : decode cX8_takeSide 31 = .ok (.iconst 0, 1) := by decide +kernel
theorem dX8_takeSide_32 : decode cX8_takeSide 32 = .ok (.goto 4, 3) := by decide +kernel
theorem dX8_takeSide_35 : decode cX8_takeSide 35 = .ok (.iconst 1, 1) := by decide +kernel
theorem dX8_takeSide_36 : decode cX8_takeSide 36 = .ok (.ireturn, 1) := by decide +kernel
theorem dX8_readFill_0 : decode cX8_readFill 0 = .ok (.aload_n 0, 1) := by decide +kernel
theorem dX8_readFill_1 : decode cX8_readFill 1 = .ok (.getfield 24, 3) := by decide +kernel
theorem dX8_readFill_4 : decode cX8_readFill 4 = .ok (.invokevirtual 74, 3) := by decide +kernel
theorem dX8_readFill_7 : decode cX8_readFill 7 = .ok (.aload_n 0, 1) := by decide +kernel
theorem dX8_readFill_8 : decode cX8_readFill 8 = .ok (.aload_n 0, 1) := by decide +kernel
theorem dX8_readFill_9 : decode cX8_readFill 9 = .ok (.getfield 18, 3) := by decide +kernel
theorem dX8_readFill_12 : decode cX8_readFill 12 = .ok (.aload_n 0, 1) := by decide +kernel
theorem dX8_readFill_13 : decode cX8_readFill 13 = .ok (.getfield 21, 3) := by decide +kernel
theorem dX8_readFill_16 : decode cX8_readFill 16 = .ok (.aload_n 0, 1) := by decide +kernel
theorem dX8_readFill_17 : decode cX8_readFill 17 = .ok (.getfield 31, 3) := by decide +kernel
theorem dX8_readFill_20 : decode cX8_readFill 20 = .ok (.getfield 92, 3) := by decide +kernel
theorem dX8_readFill_23 : decode cX8_readFill 23 = .ok (.iconst 1, 1) := by decide +kernel
theorem dX8_readFill_24 : decode cX8_readFill 24 = .ok (.invokevirtual 143, 3) := by decide +kernel
theorem dX8_readFill_27 : decode cX8_readFill 27 = .ok (.istore_n 1, 1) := by decide +kernel
theorem dX8_readFill_28 : decode cX8_readFill 28 = .ok (.aload_n 0, 1) := by decide +kernel
theorem dX8_readFill_29 : decode cX8_readFill 29 = .ok (.getfield 24, 3) := by decide +kernel
theorem dX8_readFill_32 : decode cX8_readFill 32 = .ok (.ldc 147, 2) := by decide +kernel
theorem dX8_readFill_34 : decode cX8_readFill 34 = .ok (.invokevirtual 101, 3) := by decide +kernel
theorem dX8_readFill_37 : decode cX8_readFill 37 = .ok (.aload_n 0, 1) := by decide +kernel
theorem dX8_readFill_38 : decode cX8_readFill 38 = .ok (.aload_n 0, 1) := by decide +kernel
theorem dX8_readFill_39 : decode cX8_readFill 39 = .ok (.getfield 9, 3) := by decide +kernel
theorem dX8_readFill_42 : decode cX8_readFill 42 = .ok (.aload_n 0, 1) := by decide +kernel
theorem dX8_readFill_43 : decode cX8_readFill 43 = .ok (.getfield 15, 3) := by decide +kernel
theorem dX8_readFill_46 : decode cX8_readFill 46 = .ok (.aload_n 0, 1) := by decide +kernel
theorem dX8_readFill_47 : decode cX8_readFill 47 = .ok (.getfield 31, 3) := by decide +kernel
theorem dX8_readFill_50 : decode cX8_readFill 50 = .ok (.getfield 70, 3) := by decide +kernel
theorem dX8_readFill_53 : decode cX8_readFill 53 = .ok (.iconst 0, 1) := by decide +kernel
theorem dX8_readFill_54 : decode cX8_readFill 54 = .ok (.invokevirtual 143, 3) := by decide +kernel
theorem dX8_readFill_57 : decode cX8_readFill 57 = .ok (.istore_n 2, 1) := by decide +kernel
theorem dX8_readFill_58 : decode cX8_readFill 58 = .ok (.aload_n 0, 1) := by decide +kernel
theorem dX8_readFill_59 : decode cX8_readFill 59 = .ok (.getfield 24, 3) := by decide +kernel
theorem dX8_readFill_62 : decode cX8_readFill 62 = .ok (.ldc 149, 2) := by decide +kernel
theorem dX8_readFill_64 : decode cX8_readFill 64 = .ok (.invokevirtual 101, 3) := by decide +kernel
theorem dX8_readFill_67 : decode cX8_readFill 67 = .ok (.iload_n 2, 1) := by decide +kernel
theorem dX8_readFill_68 : decode cX8_readFill 68 = .ok (.iconst (-1), 1) := by decide +kernel
theorem dX8_readFill_69 : decode cX8_readFill 69 = .ok (.if_icmp .ne 7, 3) := by decide +kernel
theorem dX8_readFill_72 : decode cX8_readFill 72 = .ok (.iconst 0, 1) := by decide +kernel
theorem dX8_readFill_73 : decode cX8_readFill 73 = .ok (.goto 15, 3) := by decide +kernel
theorem dX8_readFill_76 : decode cX8_readFill 76 = .ok (.aload_n 0, 1) := by decide +kernel
theorem dX8_readFill_77 : decode cX8_readFill 77 = .ok (.getfield 31, 3) := by decide +kernel
theorem dX8_readFill_80 : decode cX8_readFill 80 = .ok (.getfield 81, 3) := by decide +kernel
theorem dX8_readFill_83 : decode cX8_readFill 83 = .ok (.iload_n 2, 1) := by decide +kernel
theorem dX8_readFill_84 : decode cX8_readFill 84 = .ok (.aaload, 1) := by decide +kernel
theorem dX8_readFill_85 : decode cX8_readFill 85 = .ok (.getfield 151, 3) := by decide +kernel
theorem dX8_readFill_88 : decode cX8_readFill 88 = .ok (.istore_n 3, 1) := by decide +kernel
theorem dX8_readFill_89 : decode cX8_readFill 89 = .ok (.aload_n 0, 1) := by decide +kernel
theorem dX8_readFill_90 : decode cX8_readFill 90 = .ok (.getfield 24, 3) := by decide +kernel
theorem dX8_readFill_93 : decode cX8_readFill 93 = .ok (.iconst 0, 1) := by decide +kernel
theorem dX8_readFill_94 : decode cX8_readFill 94 = .ok (.iload_n 3, 1) := by decide +kernel
theorem dX8_readFill_95 : decode cX8_readFill 95 = .ok (.iconst 1, 1) := by decide +kernel
theorem dX8_readFill_96 : decode cX8_readFill 96 = .ok (.isub, 1) := by decide +kernel
theorem dX8_readFill_97 : decode cX8_readFill 97 = .ok (.invokevirtual 105, 3) := by decide +kernel
theorem dX8_readFill_100 : decode cX8_readFill 100 = .ok (.istore 4, 2) := by decide +kernel
theorem dX8_readFill_102 : decode cX8_readFill 102 = .ok (.aload_n 0, 1) := by decide +kernel
theorem dX8_readFill_103 : decode cX8_readFill 103 = .ok (.getfield 24, 3) := by decide +kernel
theorem dX8_readFill_106 : decode cX8_readFill 106 = .ok (.ldc 154, 2) := by decide +kernel
theorem dX8_readFill_108 : decode cX8_readFill 108 = .ok (.invokevirtual 101, 3) := by decide +kernel
theorem dX8_readFill_111 : decode cX8_readFill 111 = .ok (.aload_n 0, 1) := by decide +kernel
theorem dX8_readFill_112 : decode cX8_readFill 112 = .ok (.getfield 24, 3) := by decide +kernel
theorem dX8_readFill_115 : decode cX8_readFill 115 = .ok (.iconst 0, 1) := by decide +kernel
theorem dX8_readFill_116 : decode cX8_readFill 116 = .ok (.sipush 999, 3) := by decide +kernel
theorem dX8_readFill_119 : decode cX8_readFill 119 = .ok (.invokevirtual 105, 3) := by decide +kernel
theorem dX8_readFill_122 : decode cX8_readFill 122 = .ok (.istore 5, 2) := by decide +kernel
theorem dX8_readFill_124 : decode cX8_readFill 124 = .ok (.aload_n 0, 1) := by decide +kernel
theorem dX8_readFill_125 : decode cX8_readFill 125 = .ok (.getfield 24, 3) := by decide +kernel
theorem dX8_readFill_128 : decode cX8_readFill 128 = .ok (.invokevirtual 89, 3) := by decide +kernel
theorem dX8_readFill_131 : decode cX8_readFill 131 = .ok (.aload_n 0, 1) := by decide +kernel
theorem dX8_readFill_132 : decode cX8_readFill 132 = .ok (.getfield 24, 3) := by decide +kernel
theorem dX8_readFill_135 : decode cX8_readFill 135 = .ok (.invokevirtual 41, 3) := by decide +kernel
theorem dX8_readFill_138 : decode cX8_readFill 138 = .ok (.ifCond .ne 56, 3) := by decide +kernel
theorem dX8_readFill_141 : decode cX8_readFill 141 = .ok (.iload_n 1, 1) := by decide +kernel
theorem dX8_readFill_142 : decode cX8_readFill 142 = .ok (.iconst (-1), 1) := by decide +kernel
theorem dX8_readFill_143 : decode cX8_readFill 143 = .ok (.if_icmp .eq 51, 3) := by decide +kernel
theorem dX8_readFill_146 : decode cX8_readFill 146 = .ok (.aload_n 0, 1) := by decide +kernel
theorem dX8_readFill_147 : decode cX8_readFill 147 = .ok (.getfield 31, 3) := by decide +kernel
theorem dX8_readFill_150 : decode cX8_readFill 150 = .ok (.getfield 95, 3) := by decide +kernel
theorem dX8_readFill_153 : decode cX8_readFill 153 = .ok (.iload_n 1, 1) := by decide +kernel
theorem dX8_readFill_154 : decode cX8_readFill 154 = .ok (.aaload, 1) := by decide +kernel
theorem dX8_readFill_155 : decode cX8_readFill 155 = .ok (.astore 6, 2) := by decide +kernel
theorem dX8_readFill_157 : decode cX8_readFill 157 = .ok (.aload 6, 2) := by decide +kernel
theorem dX8_readFill_159 : decode cX8_readFill 159 = .ok (.iload_n 2, 1) := by decide +kernel
theorem dX8_readFill_160 : decode cX8_readFill 160 = .ok (.putfield 156, 3) := by decide +kernel
theorem dX8_readFill_163 : decode cX8_readFill 163 = .ok (.aload 6, 2) := by decide +kernel
theorem dX8_readFill_165 : decode cX8_readFill 165 = .ok (.iload 4, 2) := by decide +kernel
theorem dX8_readFill_167 : decode cX8_readFill 167 = .ok (.putfield 158, 3) := by decide +kernel
theorem dX8_readFill_170 : decode cX8_readFill 170 = .ok (.aload 6, 2) := by decide +kernel
theorem dX8_readFill_172 : decode cX8_readFill 172 = .ok (.aload 6, 2) := by decide +kernel
theorem dX8_readFill_174 : decode cX8_readFill 174 = .ok (.getfield 109, 3) := by decide +kernel
theorem dX8_readFill_177 : decode cX8_readFill 177 = .ok (.iload_n 3, 1) := by decide +kernel
theorem dX8_readFill_178 : decode cX8_readFill 178 = .ok (.iload 4, 2) := by decide +kernel
theorem dX8_readFill_180 : decode cX8_readFill 180 = .ok (.isub, 1) := by decide +kernel
theorem dX8_readFill_181 : decode cX8_readFill 181 = .ok (.invokestatic 160, 3) := by decide +kernel
theorem dX8_readFill_184 : decode cX8_readFill 184 = .ok (.putfield 165, 3) := by decide +kernel
theorem dX8_readFill_187 : decode cX8_readFill 187 = .ok (.aload 6, 2) := by decide +kernel
theorem dX8_readFill_189 : decode cX8_readFill 189 = .ok (.iload 5, 2) := by decide +kernel
theorem dX8_readFill_191 : decode cX8_readFill 191 = .ok (.putfield 168, 3) := by decide +kernel
theorem dX8_readFill_194 : decode cX8_readFill 194 = .ok (.return_, 1) := by decide +kernel
theorem dX8_takeNewName_0 : decode cX8_takeNewName 0 = .ok (.aload_n 0, 1) := by decide +kernel
theorem dX8_takeNewName_1 : decode cX8_takeNewName 1 = .ok (.getfield 24, 3) := by decide +kernel
theorem dX8_takeNewName_4 : decode cX8_takeNewName 4 = .ok (.invokevirtual 171, 3) := by decide +kernel
theorem dX8_takeNewName_7 : decode cX8_takeNewName 7 = .ok (.ifCond .ne 14, 3) := by decide +kernel
theorem dX8_takeNewName_10 : decode cX8_takeNewName 10 = .ok (.aload_n 0, 1) := by decide +kernel
theorem dX8_takeNewName_11 : decode cX8_takeNewName 11 = .ok (.getfield 24, 3) := by decide +kernel
theorem dX8_takeNewName_14 : decode cX8_takeNewName 14 = .ok (.iconst 2, 1) := by decide +kernel
theorem dX8_takeNewName_15 : decode cX8_takeNewName 15 = .ok (.invokevirtual 67, 3) := by decide +kernel
theorem dX8_takeNewName_18 : decode cX8_takeNewName 18 = .ok (.goto 103, 3) := by decide +kernel
theorem dX8_takeNewName_21 : decode cX8_takeNewName 21 = .ok (.aload_n 0, 1) := by decide +kernel
theorem dX8_takeNewName_22 : decode cX8_takeNewName 22 = .ok (.aload_n 0, 1) := by decide +kernel
theorem dX8_takeNewName_23 : decode cX8_takeNewName 23 = .ok (.getfield 9, 3) := by decide +kernel
theorem dX8_takeNewName_26 : decode cX8_takeNewName 26 = .ok (.aload_n 0, 1) := by decide +kernel
theorem dX8_takeNewName_27 : decode cX8_takeNewName 27 = .ok (.getfield 15, 3) := by decide +kernel
theorem dX8_takeNewName_30 : decode cX8_takeNewName 30 = .ok (.aload_n 0, 1) := by decide +kernel
theorem dX8_takeNewName_31 : decode cX8_takeNewName 31 = .ok (.getfield 31, 3) := by decide +kernel
theorem dX8_takeNewName_34 : decode cX8_takeNewName 34 = .ok (.getfield 70, 3) := by decide +kernel
theorem dX8_takeNewName_37 : decode cX8_takeNewName 37 = .ok (.invokevirtual 174, 3) := by decide +kernel
theorem dX8_takeNewName_40 : decode cX8_takeNewName 40 = .ok (.iconst (-1), 1) := by decide +kernel
theorem dX8_takeNewName_41 : decode cX8_takeNewName 41 = .ok (.if_icmp .ne 26, 3) := by decide +kernel
theorem dX8_takeNewName_44 : decode cX8_takeNewName 44 = .ok (.aload_n 0, 1) := by decide +kernel
theorem dX8_takeNewName_45 : decode cX8_takeNewName 45 = .ok (.aload_n 0, 1) := by decide +kernel
theorem dX8_takeNewName_46 : decode cX8_takeNewName 46 = .ok (.getfield 18, 3) := by decide +kernel
theorem dX8_takeNewName_49 : decode cX8_takeNewName 49 = .ok (.aload_n 0, 1) := by decide +kernel
theorem dX8_takeNewName_50 : decode cX8_takeNewName 50 = .ok (.getfield 21, 3) := by decide +kernel
theorem dX8_takeNewName_53 : decode cX8_takeNewName 53 = .ok (.aload_n 0, 1) := by decide +kernel
theorem dX8_takeNewName_54 : decode cX8_takeNewName 54 = .ok (.getfield 31, 3) := by decide +kernel
theorem dX8_takeNewName_57 : decode cX8_takeNewName 57 = .ok (.getfield 92, 3) := by decide +kernel
theorem dX8_takeNewName_60 : decode cX8_takeNewName 60 = .ok (.invokevirtual 174, 3) := by decide +kernel
theorem dX8_takeNewName_63 : decode cX8_takeNewName 63 = .ok (.iconst (-1), 1) := by decide +kernel
theorem dX8_takeNewName_64 : decode cX8_takeNewName 64 = .ok (.if_icmp .eq 14, 3) := by decide +kernel
theorem dX8_takeNewName_67 : decode cX8_takeNewName 67 = .ok (.aload_n 0, 1) := by decide +kernel
theorem dX8_takeNewName_68 : decode cX8_takeNewName 68 = .ok (.getfield 24, 3) := by decide +kernel
theorem dX8_takeNewName_71 : decode cX8_takeNewName 71 = .ok (.iconst 3, 1) := by decide +kernel
theorem dX8_takeNewName_72 : decode cX8_takeNewName 72 = .ok (.invokevirtual 67, 3) := by decide +kernel
theorem dX8_takeNewName_75 : decode cX8_takeNewName 75 = .ok (.goto 46, 3) := by decide +kernel
theorem dX8_takeNewName_78 : decode cX8_takeNewName 78 = .ok (.iload_n 3, 1) := by decide +kernel
theorem dX8_takeNewName_79 : decode cX8_takeNewName 79 = .ok (.ifCond .lt 42, 3) := by decide +kernel
theorem dX8_takeNewName_82 : decode cX8_takeNewName 82 = .ok (.iload_n 3, 1) := by decide +kernel
theorem dX8_takeNewName_83 : decode cX8_takeNewName 83 = .ok (.aload_n 1, 1) := by decide +kernel
theorem dX8_takeNewName_84 : decode cX8_takeNewName 84 = .ok (.arraylength, 1) := by decide +kernel
theorem dX8_takeNewName_85 : decode cX8_takeNewName 85 = .ok (.if_icmp .ge 36, 3) := by decide +kernel
theorem dX8_takeNewName_88 : decode cX8_takeNewName 88 = .ok (.iload_n 3, 1) := by decide +kernel
theorem dX8_takeNewName_89 : decode cX8_takeNewName 89 = .ok (.aload_n 2, 1) := by decide +kernel
theorem dX8_takeNewName_90 : decode cX8_takeNewName 90 = .ok (.arraylength, 1) := by decide +kernel
theorem dX8_takeNewName_91 : decode cX8_takeNewName 91 = .ok (.if_icmp .ge 30, 3) := by decide +kernel
theorem dX8_takeNewName_94 : decode cX8_takeNewName 94 = .ok (.aload_n 1, 1) := by decide +kernel
theorem dX8_takeNewName_95 : decode cX8_takeNewName 95 = .ok (.iload_n 3, 1) := by decide +kernel
theorem dX8_takeNewName_96 : decode cX8_takeNewName 96 = .ok (.aload_n 0, 1) := by decide +kernel
theorem dX8_takeNewName_97 : decode cX8_takeNewName 97 = .ok (.getfield 24, 3) := by decide +kernel
theorem dX8_takeNewName_100 : decode cX8_takeNewName 100 = .ok (.getfield 178, 3) := by decide +kernel
theorem dX8_takeNewName_103 : decode cX8_takeNewName 103 = .ok (.iastore, 1) := by decide +kernel
theorem dX8_takeNewName_104 : decode cX8_takeNewName 104 = .ok (.aload_n 2, 1) := by decide +kernel
theorem dX8_takeNewName_105 : decode cX8_takeNewName 105 = .ok (.iload_n 3, 1) := by decide +kernel
theorem dX8_takeNewName_106 : decode cX8_takeNewName 106 = .ok (.aload_n 0, 1) := by decide +kernel
theorem dX8_takeNewName_107 : decode cX8_takeNewName 107 = .ok (.getfield 24, 3) := by decide +kernel
theorem dX8_takeNewName_110 : decode cX8_takeNewName 110 = .ok (.invokevirtual 181, 3) := by decide +kernel
theorem dX8_takeNewName_113 : decode cX8_takeNewName 113 = .ok (.iastore, 1) := by decide +kernel
theorem dX8_takeNewName_114 : decode cX8_takeNewName 114 = .ok (.aload_n 0, 1) := by decide +kernel
theorem dX8_takeNewName_115 : decode cX8_takeNewName 115 = .ok (.getfield 24, 3) := by decide +kernel
theorem dX8_takeNewName_118 : decode cX8_takeNewName 118 = .ok (.invokevirtual 74, 3) := by decide +kernel
theorem dX8_takeNewName_121 : decode cX8_takeNewName 121 = .ok (.return_, 1) := by decide +kernel
theorem dX8_takeToldName_0 : decode cX8_takeToldName 0 = .ok (.aload_n 0, 1) := by decide +kernel
theorem dX8_takeToldName_1 : decode cX8_takeToldName 1 = .ok (.getfield 24, 3) := by decide +kernel
theorem dX8_takeToldName_4 : decode cX8_takeToldName 4 = .ok (.invokevirtual 171, 3) := by decide +kernel
theorem dX8_takeToldName_7 : decode cX8_takeToldName 7 = .ok (.ifCond .ne 11, 3) := by decide +kernel
theorem dX8_takeToldName_10 : decode cX8_takeToldName 10 = .ok (.aload_n 0, 1) := by decide +kernel
theorem dX8_takeToldName_11 : decode cX8_takeToldName 11 = .ok (.getfield 24, 3) := by decide +kernel
theorem dX8_takeToldName_14 : decode cX8_takeToldName 14 = .ok (.iconst 2, 1) := by decide +kernel
theorem dX8_takeToldName_15 : decode cX8_takeToldName 15 = .ok (.invokevirtual 67, 3) := by decide +kernel
theorem dX8_takeToldName_18 : decode cX8_takeToldName 18 = .ok (.aload_n 0, 1) := by decide +kernel
theorem dX8_takeToldName_19 : decode cX8_takeToldName 19 = .ok (.aload_n 1, 1) := by decide +kernel
theorem dX8_takeToldName_20 : decode cX8_takeToldName 20 = .ok (.aload_n 2, 1) := by decide +kernel
theorem dX8_takeToldName_21 : decode cX8_takeToldName 21 = .ok (.iload_n 3, 1) := by decide +kernel
theorem dX8_takeToldName_22 : decode cX8_takeToldName 22 = .ok (.invokevirtual 174, 3) := by decide +kernel
theorem dX8_takeToldName_25 : decode cX8_takeToldName 25 = .ok (.istore 5, 2) := by decide +kernel
theorem dX8_takeToldName_27 : decode cX8_takeToldName 27 = .ok (.iload 5, 2) := by decide +kernel
theorem dX8_takeToldName_29 : decode cX8_takeToldName 29 = .ok (.iconst (-1), 1) := by decide +kernel
theorem dX8_takeToldName_30 : decode cX8_takeToldName 30 = .ok (.if_icmp .ne 14, 3) := by decide +kernel
theorem dX8_takeToldName_33 : decode cX8_takeToldName 33 = .ok (.aload_n 0, 1) := by decide +kernel
theorem dX8_takeToldName_34 : decode cX8_takeToldName 34 = .ok (.getfield 24, 3) := by decide +kernel
theorem dX8_takeToldName_37 : decode cX8_takeToldName 37 = .ok (.iconst 3, 1) := by decide +kernel
theorem dX8_takeToldName_38 : decode cX8_takeToldName 38 = .ok (.invokevirtual 67, 3) := by decide +kernel
theorem dX8_takeToldName_41 : decode cX8_takeToldName 41 = .ok (.goto 32, 3) := by decide +kernel
theorem dX8_takeToldName_44 : decode cX8_takeToldName 44 = .ok (.iload 4, 2) := by decide +kernel
theorem dX8_takeToldName_46 : decode cX8_takeToldName 46 = .ok (.ifCond .eq 27, 3) := by decide +kernel
theorem dX8_takeToldName_49 : decode cX8_takeToldName 49 = .ok (.aload_n 0, 1) := by decide +kernel
theorem dX8_takeToldName_50 : decode cX8_takeToldName 50 = .ok (.getfield 31, 3) := by decide +kernel
theorem dX8_takeToldName_53 : decode cX8_takeToldName 53 = .ok (.getfield 95, 3) := by decide +kernel
theorem dX8_takeToldName_56 : decode cX8_takeToldName 56 = .ok (.iload 5, 2) := by decide +kernel
theorem dX8_takeToldName_58 : decode cX8_takeToldName 58 = .ok (.aaload, 1) := by decide +kernel
theorem dX8_takeToldName_59 : decode cX8_takeToldName 59 = .ok (.invokevirtual 183, 3) := by decide +kernel
theorem dX8_takeToldName_62 : decode cX8_takeToldName 62 = .ok (.ifCond .ne 11, 3) := by decide +kernel
theorem dX8_takeToldName_65 : decode cX8_takeToldName 65 = .ok (.aload_n 0, 1) := by decide +kernel
theorem dX8_takeToldName_66 : decode cX8_takeToldName 66 = .ok (.getfield 24, 3) := by decide +kernel
theorem dX8_takeToldName_69 : decode cX8_takeToldName 69 = .ok (.iconst 5, 1) := by decide +kernel
theorem dX8_takeToldName_70 : decode cX8_takeToldName 70 = .ok (.invokevirtual 67, 3) := by decide +kernel
theorem dX8_takeToldName_73 : decode cX8_takeToldName 73 = .ok (.aload_n 0, 1) := by decide +kernel
theorem dX8_takeToldName_74 : decode cX8_takeToldName 74 = .ok (.getfield 24, 3) := by decide +kernel
theorem dX8_takeToldName_77 : decode cX8_takeToldName 77 = .ok (.invokevirtual 41, 3) := by decide +kernel
theorem dX8_takeToldName_80 : decode cX8_takeToldName 80 = .ok (.ifCond .eq 5, 3) := by decide +kernel
theorem dX8_takeToldName_83 : decode cX8_takeToldName 83 = .ok (.iconst (-1), 1) := by decide +kernel
theorem dX8_takeToldName_84 : decode cX8_takeToldName 84 = .ok (.ireturn, 1) := by decide +kernel
theorem dX8_takeToldName_85 : decode cX8_takeToldName 85 = .ok (.aload_n 0, 1) := by decide +kernel
theorem dX8_takeToldName_86 : decode cX8_takeToldName 86 = .ok (.getfield 24, 3) := by decide +kernel
theorem dX8_takeToldName_89 : decode cX8_takeToldName 89 = .ok (.invokevirtual 74, 3) := by decide +kernel
theorem dX8_takeToldName_92 : decode cX8_takeToldName 92 = .ok (.iload 5, 2) := by decide +kernel
theorem dX8_takeToldName_94 : decode cX8_takeToldName 94 = .ok (.ireturn, 1) := by decide +kernel
theorem dX8_findName_0 : decode cX8_findName 0 = .ok (.iconst 0, 1) := by decide +kernel
theorem dX8_findName_1 : decode cX8_findName 1 = .ok (.istore 4, 2) := by decide +kernel
theorem dX8_findName_3 : decode cX8_findName 3 = .ok (.iload 4, 2) := by decide +kernel
theorem dX8_findName_5 : decode cX8_findName 5 = .ok (.iload_n 3, 1) := by decide +kernel
theorem dX8_findName_6 : decode cX8_findName 6 = .ok (.if_icmp .ge 44, 3) := by decide +kernel
theorem dX8_findName_9 : decode cX8_findName 9 = .ok (.iload 4, 2) := by decide +kernel
theorem dX8_findName_11 : decode cX8_findName 11 = .ok (.aload_n 1, 1) := by decide +kernel
theorem dX8_findName_12 : decode cX8_findName 12 = .ok (.arraylength, 1) := by decide +kernel
theorem dX8_findName_13 : decode cX8_findName 13 = .ok (.if_icmp .ge 37, 3) := by decide +kernel
theorem dX8_findName_16 : decode cX8_findName 16 = .ok (.iload 4, 2) := by decide +kernel
theorem dX8_findName_18 : decode cX8_findName 18 = .ok (.aload_n 2, 1) := by decide +kernel
theorem dX8_findName_19 : decode cX8_findName 19 = .ok (.arraylength, 1) := by decide +kernel
theorem dX8_findName_20 : decode cX8_findName 20 = .ok (.if_icmp .ge 30, 3) := by decide +kernel
theorem dX8_findName_23 : decode cX8_findName 23 = .ok (.aload_n 0, 1) := by decide +kernel
theorem dX8_findName_24 : decode cX8_findName 24 = .ok (.getfield 24, 3) := by decide +kernel
theorem dX8_findName_27 : decode cX8_findName 27 = .ok (.aload_n 1, 1) := by decide +kernel
theorem dX8_findName_28 : decode cX8_findName 28 = .ok (.iload 4, 2) := by decide +kernel
theorem dX8_findName_30 : decode cX8_findName 30 = .ok (.iaload, 1) := by decide +kernel
theorem dX8_findName_31 : decode cX8_findName 31 = .ok (.aload_n 2, 1) := by decide +kernel
theorem dX8_findName_32 : decode cX8_findName 32 = .ok (.iload 4, 2) := by decide +kernel
theorem dX8_findName_34 : decode cX8_findName 34 = .ok (.iaload, 1) := by decide +kernel
theorem dX8_findName_35 : decode cX8_findName 35 = .ok (.invokevirtual 186, 3) := by decide +kernel
theorem dX8_findName_38 : decode cX8_findName 38 = .ok (.ifCond .eq 6, 3) := by decide +kernel
theorem dX8_findName_41 : decode cX8_findName 41 = .ok (.iload 4, 2) := by decide +kernel
theorem dX8_findName_43 : decode cX8_findName 43 = .ok (.ireturn, 1) := by decide +kernel
theorem dX8_findName_44 : decode cX8_findName 44 = .ok (.iinc 4 1, 3) := by decide +kernel
theorem dX8_findName_47 : decode cX8_findName 47 = .ok (.goto (-44), 3) := by decide +kernel
theorem dX8_findName_50 : decode cX8_findName 50 = .ok (.iconst (-1), 1) := by decide +kernel
theorem dX8_findName_51 : decode cX8_findName 51 = .ok (.ireturn, 1) := by decide +kernel
theorem dX8_takeLetters_0 : decode cX8_takeLetters 0 = .ok (.aload_n 0, 1) := by decide +kernel
theorem dX8_takeLetters_1 : decode cX8_takeLetters 1 = .ok (.getfield 24, 3) := by decide +kernel
theorem dX8_takeLetters_4 : decode cX8_takeLetters 4 = .ok (.bipush 16, 2) := by decide +kernel
theorem dX8_takeLetters_6 : decode cX8_takeLetters 6 = .ok (.invokevirtual 190, 3) := by decide +kernel
theorem dX8_takeLetters_9 : decode cX8_takeLetters 9 = .ok (.ifCond .ne 11, 3) := by decide +kernel
theorem dX8_takeLetters_12 : decode cX8_takeLetters 12 = .ok (.aload_n 0, 1) := by decide +kernel
theorem dX8_takeLetters_13 : decode cX8_takeLetters 13 = .ok (.getfield 24, 3) := by decide +kernel
theorem dX8_takeLetters_16 : decode cX8_takeLetters 16 = .ok (.iconst 2, 1) := by decide +kernel
theorem dX8_takeLetters_17 : decode cX8_takeLetters 17 = .ok (.invokevirtual 67, 3) := by decide +kernel
theorem dX8_takeLetters_20 : decode cX8_takeLetters 20 = .ok (.aload_n 0, 1) := by decide +kernel
theorem dX8_takeLetters_21 : decode cX8_takeLetters 21 = .ok (.getfield 24, 3) := by decide +kernel
theorem dX8_takeLetters_24 : decode cX8_takeLetters 24 = .ok (.invokevirtual 41, 3) := by decide +kernel
theorem dX8_takeLetters_27 : decode cX8_takeLetters 27 = .ok (.ifCond .ne 41, 3) := by decide +kernel
theorem dX8_takeLetters_30 : decode cX8_takeLetters 30 = .ok (.iconst 0, 1) := by decide +kernel
theorem dX8_takeLetters_31 : decode cX8_takeLetters 31 = .ok (.istore_n 2, 1) := by decide +kernel
theorem dX8_takeLetters_32 : decode cX8_takeLetters 32 = .ok (.iload_n 2, 1) := by decide +kernel
theorem dX8_takeLetters_33 : decode cX8_takeLetters 33 = .ok (.aload_n 0, 1) := by decide +kernel
theorem dX8_takeLetters_34 : decode cX8_takeLetters 34 = .ok (.getfield 24, 3) := by decide +kernel
theorem dX8_takeLetters_37 : decode cX8_takeLetters 37 = .ok (.invokevirtual 181, 3) := by decide +kernel
theorem dX8_takeLetters_40 : decode cX8_takeLetters 40 = .ok (.if_icmp .ge 21, 3) := by decide +kernel
theorem dX8_takeLetters_43 : decode cX8_takeLetters 43 = .ok (.aload_n 1, 1) := by decide +kernel
theorem dX8_takeLetters_44 : decode cX8_takeLetters 44 = .ok (.aload_n 0, 1) := by decide +kernel
theorem dX8_takeLetters_45 : decode cX8_takeLetters 45 = .ok (.getfield 24, 3) := by decide +kernel
theorem dX8_takeLetters_48 : decode cX8_takeLetters 48 = .ok (.iload_n 2, 1) := by decide +kernel
theorem dX8_takeLetters_49 : decode cX8_takeLetters 49 = .ok (.invokevirtual 194, 3) := by decide +kernel
theorem dX8_takeLetters_52 : decode cX8_takeLetters 52 = .ok (.invokevirtual 198, 3) := by decide +kernel
theorem dX8_takeLetters_55 : decode cX8_takeLetters 55 = .ok (.iinc 2 1, 3) := by decide +kernel
theorem dX8_takeLetters_58 : decode cX8_takeLetters 58 = .ok (.goto (-26), 3) := by decide +kernel
theorem dX8_takeLetters_61 : decode cX8_takeLetters 61 = .ok (.aload_n 0, 1) := by decide +kernel
theorem dX8_takeLetters_62 : decode cX8_takeLetters 62 = .ok (.getfield 24, 3) := by decide +kernel
theorem dX8_takeLetters_65 : decode cX8_takeLetters 65 = .ok (.invokevirtual 74, 3) := by decide +kernel
theorem dX8_takeLetters_68 : decode cX8_takeLetters 68 = .ok (.return_, 1) := by decide +kernel
theorem dX9_init_0 : decode cX9_init 0 = .ok (.aload_n 0, 1) := by decide +kernel
theorem dX9_init_1 : decode cX9_init 1 = .ok (.invokespecial 3, 3) := by decide +kernel
theorem dX9_init_4 : decode cX9_init 4 = .ok (.aload_n 0, 1) := by decide +kernel
theorem dX9_init_5 : decode cX9_init 5 = .ok (.sipush 900, 3) := by decide +kernel
theorem dX9_init_8 : decode cX9_init 8 = .ok (.newarray .byte, 2) := by decide +kernel
theorem dX9_init_10 : decode cX9_init 10 = .ok (.putfield 9, 3) := by decide +kernel
theorem dX9_init_13 : decode cX9_init 13 = .ok (.aload_n 0, 1) := by decide +kernel
theorem dX9_init_14 : decode cX9_init 14 = .ok (.iconst (-1), 1) := by decide +kernel
theorem dX9_init_15 : decode cX9_init 15 = .ok (.putfield 15, 3) := by decide +kernel
theorem dX9_init_18 : decode cX9_init 18 = .ok (.aload_n 0, 1) := by decide +kernel
theorem dX9_init_19 : decode cX9_init 19 = .ok (.iconst (-1), 1) := by decide +kernel
theorem dX9_init_20 : decode cX9_init 20 = .ok (.putfield 19, 3) := by decide +kernel
theorem dX9_init_23 : decode cX9_init 23 = .ok (.return_, 1) := by decide +kernel
theorem dX9_hasRoomFor_0 : decode cX9_hasRoomFor 0 = .ok (.aload_n 0, 1) := by decide +kernel
theorem dX9_hasRoomFor_1 : decode cX9_hasRoomFor 1 = .ok (.getfield 22, 3) := by decide +kernel
theorem dX9_hasRoomFor_4 : decode cX9_hasRoomFor 4 = .ok (.iload_n 1, 1) := by decide +kernel
theorem dX9_hasRoomFor_5 : decode cX9_hasRoomFor 5 = .ok (.iadd, 1) := by decide +kernel
theorem dX9_hasRoomFor_6 : decode cX9_hasRoomFor 6 = .ok (.sipush 900, 3) := by decide +kernel
theorem dX9_hasRoomFor_9 : decode cX9_hasRoomFor 9 = .ok (.if_icmp .gt 7, 3) := by decide +kernel
theorem dX9_hasRoomFor_12 : decode cX9_hasRoomFor 12 = .ok (.iconst 1, 1) := by decide +kernel
theorem dX9_hasRoomFor_13 : decode cX9_hasRoomFor 13 = .ok (.goto 4, 3) := by decide +kernel
theorem dX9_hasRoomFor_16 : decode cX9_hasRoomFor 16 = .ok (.iconst 0, 1) := by decide +kernel
theorem dX9_hasRoomFor_17 : decode cX9_hasRoomFor 17 = .ok (.ireturn, 1) := by decide +kernel
theorem dX9_addInt_0 : decode cX9_addInt 0 = .ok (.bipush 24, 2) := by decide +kernel
theorem dX9_addInt_2 : decode cX9_addInt 2 = .ok (.istore_n 2, 1) := by decide +kernel
theorem dX9_addInt_3 : decode cX9_addInt 3 = .ok (.iload_n 2, 1) := by decide +kernel
theorem dX9_addInt_4 : decode cX9_addInt 4 = .ok (.ifCond .lt 42, 3) := by decide +kernel
theorem dX9_addInt_7 : decode cX9_addInt 7 = .ok (.aload_n 0, 1) := by decide +kernel
theorem dX9_addInt_8 : decode cX9_addInt 8 = .ok (.getfield 22, 3) := by decide +kernel
theorem dX9_addInt_11 : decode cX9_addInt 11 = .ok (.sipush 900, 3) := by decide +kernel
theorem dX9_addInt_14 : decode cX9_addInt 14 = .ok (.if_icmp .ge 32, 3) := by decide +kernel
theorem dX9_addInt_17 : decode cX9_addInt 17 = .ok (.aload_n 0, 1) := by decide +kernel
theorem dX9_addInt_18 : decode cX9_addInt 18 = .ok (.getfield 9, 3) := by decide +kernel
theorem dX9_addInt_21 : decode cX9_addInt 21 = .ok (.aload_n 0, 1) := by decide +kernel
theorem dX9_addInt_22 : decode cX9_addInt 22 = .ok (.getfield 22, 3) := by decide +kernel
theorem dX9_addInt_25 : decode cX9_addInt 25 = .ok (.iload_n 1, 1) := by decide +kernel
theorem dX9_addInt_26 : decode cX9_addInt 26 = .ok (.iload_n 2, 1) := by decide +kernel
theorem dX9_addInt_27 : decode cX9_addInt 27 = .ok (.ishr, 1) := by decide +kernel
theorem dX9_addInt_28 : decode cX9_addInt 28 = .ok (.i2b, 1) := by decide +kernel
theorem dX9_addInt_29 : decode cX9_addInt 29 = .ok (.bastore, 1) := by decide +kernel
theorem dX9_addInt_30 : decode cX9_addInt 30 = .ok (.aload_n 0, 1) := by decide +kernel
theorem dX9_addInt_31 : decode cX9_addInt 31 = .ok (.dup, 1) := by decide +kernel
theorem dX9_addInt_32 : decode cX9_addInt 32 = .ok (.getfield 22, 3) := by decide +kernel
theorem dX9_addInt_35 : decode cX9_addInt 35 = .ok (.iconst 1, 1) := by decide +kernel
theorem dX9_addInt_36 : decode cX9_addInt 36 = .ok (.iadd, 1) := by decide +kernel
theorem dX9_addInt_37 : decode cX9_addInt 37 = .ok (.putfield 22, 3) := by decide +kernel
theorem dX9_addInt_40 : decode cX9_addInt 40 = .ok (.iinc 2 (-8), 3) := by decide +kernel
theorem dX9_addInt_43 : decode cX9_addInt 43 = .ok (.goto (-40), 3) := by decide +kernel
theorem dX9_addInt_46 : decode cX9_addInt 46 = .ok (.return_, 1) := by decide +kernel
theorem dX9_empty_0 : decode cX9_empty 0 = .ok (.aload_n 0, 1) := by decide +kernel
theorem dX9_empty_1 : decode cX9_empty 1 = .ok (.iconst 0, 1) := by decide +kernel
theorem dX9_empty_2 : decode cX9_empty 2 = .ok (.putfield 22, 3) := by decide +kernel
theorem dX9_empty_5 : decode cX9_empty 5 = .ok (.return_, 1) := by decide +kernel
theorem dX9_open_0 : decode cX9_open 0 = .ok (.aload_n 0, 1) := by decide +kernel
theorem dX9_open_1 : decode cX9_open 1 = .ok (.iload_n 1, 1) := by decide +kernel
theorem dX9_open_2 : decode cX9_open 2 = .ok (.aload_n 0, 1) := by decide +kernel
theorem dX9_open_3 : decode cX9_open 3 = .ok (.getfield 22, 3) := by decide +kernel
theorem dX9_open_6 : decode cX9_open 6 = .ok (.invokestatic 25, 3) := by decide +kernel
theorem dX9_open_9 : decode cX9_open 9 = .ok (.putfield 31, 3) := by decide +kernel
theorem dX9_open_12 : decode cX9_open 12 = .ok (.aload_n 0, 1) := by decide +kernel
theorem dX9_open_13 : decode cX9_open 13 = .ok (.iconst 0, 1) := by decide +kernel
theorem dX9_open_14 : decode cX9_open 14 = .ok (.putfield 34, 3) := by decide +kernel
theorem dX9_open_17 : decode cX9_open 17 = .ok (.aload_n 0, 1) := by decide +kernel
theorem dX9_open_18 : decode cX9_open 18 = .ok (.iconst 0, 1) := by decide +kernel
theorem dX9_open_19 : decode cX9_open 19 = .ok (.putfield 15, 3) := by decide +kernel
theorem dX9_open_22 : decode cX9_open 22 = .ok (.aload_n 0, 1) := by decide +kernel
theorem dX9_open_23 : decode cX9_open 23 = .ok (.iconst (-1), 1) := by decide +kernel
theorem dX9_open_24 : decode cX9_open 24 = .ok (.putfield 19, 3) := by decide +kernel
theorem dX9_open_27 : decode cX9_open 27 = .ok (.aload_n 0, 1) := by decide +kernel
theorem dX9_open_28 : decode cX9_open 28 = .ok (.invokevirtual 37, 3) := by decide +kernel
theorem dX9_open_31 : decode cX9_open 31 = .ok (.return_, 1) := by decide +kernel
theorem dX9_hasFault_0 : decode cX9_hasFault 0 = .ok (.aload_n 0, 1) := by decide +kernel
theorem dX9_hasFault_1 : decode cX9_hasFault 1 = .ok (.getfield 15, 3) := by decide +kernel
theorem dX9_hasFault_4 : decode cX9_hasFault 4 = .ok (.ifCond .eq 7, 3) := by decide +kernel
theorem dX9_hasFault_7 : decode cX9_hasFault 7 = .ok (.iconst 1, 1) := by decide +kernel
theorem dX9_hasFault_8 : decode cX9_hasFault 8 = .ok (.goto 4, 3) := by decide +kernel
theorem dX9_hasFault_11 : decode cX9_hasFault 11 = .ok (.iconst 0, 1) := by decide +kernel
theorem dX9_hasFault_12 : decode cX9_hasFault 12 = .ok (.ireturn, 1) := by decide +kernel
theorem dX9_isAtEnd_0 : decode cX9_isAtEnd 0 = .ok (.aload_n 0, 1) := by decide +kernel
theorem dX9_isAtEnd_1 : decode cX9_isAtEnd 1 = .ok (.getfield 40, 3) := by decide +kernel
theorem dX9_isAtEnd_4 : decode cX9_isAtEnd 4 = .ok (.ifCond .ne 7, 3) := by decide +kernel
theorem dX9_isAtEnd_7 : decode cX9_isAtEnd 7 = .ok (.iconst 1, 1) := by decide +kernel
theorem dX9_isAtEnd_8 : decode cX9_isAtEnd 8 = .ok (.goto 4, 3) := by decide +kernel
theorem dX9_isAtEnd_11 : decode cX9_isAtEnd 11 = .ok (.iconst 0, 1) := by decide +kernel
theorem dX9_isAtEnd_12 : decode cX9_isAtEnd 12 = .ok (.ireturn, 1) := by decide +kernel
theorem dX9_size_0 : decode cX9_size 0 = .ok (.aload_n 0, 1) := by decide +kernel
theorem dX9_size_1 : decode cX9_size 1 = .ok (.getfield 34, 3) := by decide +kernel
theorem dX9_size_4 : decode cX9_size 4 = .ok (.aload_n 0, 1) := by decide +kernel
theorem dX9_size_5 : decode cX9_size 5 = .ok (.getfield 43, 3) := by decide +kernel
theorem dX9_size_8 : decode cX9_size 8 = .ok (.isub, 1) := by decide +kernel
theorem dX9_size_9 : decode cX9_size 9 = .ok (.ireturn, 1) := by decide +kernel
theorem dX9_letterAt_0 : decode cX9_letterAt 0 = .ok (.aload_n 0, 1) := by decide +kernel
theorem dX9_letterAt_1 : decode cX9_letterAt 1 = .ok (.getfield 43, 3) := by decide +kernel
theorem dX9_letterAt_4 : decode cX9_letterAt 4 = .ok (.iload_n 1, 1) := by decide +kernel
theorem dX9_letterAt_5 : decode cX9_letterAt 5 = .ok (.iadd, 1) := by decide +kernel
theorem dX9_letterAt_6 : decode cX9_letterAt 6 = .ok (.istore_n 2, 1) := by decide +kernel
theorem dX9_letterAt_7 : decode cX9_letterAt 7 = .ok (.iload_n 2, 1) := by decide +kernel
theorem dX9_letterAt_8 : decode cX9_letterAt 8 = .ok (.ifCond .lt 25, 3) := by decide +kernel
theorem dX9_letterAt_11 : decode cX9_letterAt 11 = .ok (.iload_n 2, 1) := by decide +kernel
theorem dX9_letterAt_12 : decode cX9_letterAt 12 = .ok (.aload_n 0, 1) := by decide +kernel
theorem dX9_letterAt_13 : decode cX9_letterAt 13 = .ok (.getfield 31, 3) := by decide +kernel
theorem dX9_letterAt_16 : decode cX9_letterAt 16 = .ok (.if_icmp .ge 17, 3) := by decide +kernel
theorem dX9_letterAt_19 : decode cX9_letterAt 19 = .ok (.aload_n 0, 1) := by decide +kernel
theorem dX9_letterAt_20 : decode cX9_letterAt 20 = .ok (.getfield 9, 3) := by decide +kernel
theorem dX9_letterAt_23 : decode cX9_letterAt 23 = .ok (.iload_n 2, 1) := by decide +kernel
theorem dX9_letterAt_24 : decode cX9_letterAt 24 = .ok (.baload, 1) := by decide +kernel
theorem dX9_letterAt_25 : decode cX9_letterAt 25 = .ok (.bipush 97, 2) := by decide +kernel
theorem dX9_letterAt_27 : decode cX9_letterAt 27 = .ok (.isub, 1) := by decide +kernel
theorem dX9_letterAt_28 : decode cX9_letterAt 28 = .ok (.iconst 1, 1) := by decide +kernel
theorem dX9_letterAt_29 : decode cX9_letterAt 29 = .ok (.iadd, 1) := by decide +kernel
theorem dX9_letterAt_30 : decode cX9_letterAt 30 = .ok (.goto 4, 3) := by decide +kernel
theorem dX9_letterAt_33 : decode cX9_letterAt 33 = .ok (.iconst 0, 1) := by decide +kernel
theorem dX9_letterAt_34 : decode cX9_letterAt 34 = .ok (.ireturn, 1) := by decide +kernel
theorem dX9_next_0 : decode cX9_next 0 = .ok (.aload_n 0, 1) := by decide +kernel
theorem dX9_next_1 : decode cX9_next 1 = .ok (.getfield 34, 3) := by decide +kernel
theorem dX9_next_4 : decode cX9_next 4 = .ok (.aload_n 0, 1) := by decide +kernel
theorem dX9_next_5 : decode cX9_next 5 = .ok (.getfield 31, 3) := by decide +kernel
theorem dX9_next_8 : decode cX9_next 8 = .ok (.if_icmp .ge 31, 3) := by decide +kernel
theorem dX9_next_11 : decode cX9_next 11 = .ok (.aload_n 0, 1) := by decide +kernel
theorem dX9_next_12 : decode cX9_next 12 = .ok (.getfield 9, 3) := by decide +kernel
theorem dX9_next_15 : decode cX9_next 15 = .ok (.aload_n 0, 1) := by decide +kernel
theorem dX9_next_16 : decode cX9_next 16 = .ok (.getfield 34, 3) := by decide +kernel
theorem dX9_next_19 : decode cX9_next 19 = .ok (.baload, 1) := by decide +kernel
theorem dX9_next_20 : decode cX9_next 20 = .ok (.invokestatic 46, 3) := by decide +kernel
theorem dX9_next_23 : decode cX9_next 23 = .ok (.ifCond .eq 16, 3) := by decide +kernel
theorem dX9_next_26 : decode cX9_next 26 = .ok (.aload_n 0, 1) := by decide +kernel
theorem dX9_next_27 : decode cX9_next 27 = .ok (.dup, 1) := by decide +kernel
theorem dX9_next_28 : decode cX9_next 28 = .ok (.getfield 34, 3) := by decide +kernel
theorem dX9_next_31 : decode cX9_next 31 = .ok (.iconst 1, 1) := by decide +kernel
theorem dX9_next_32 : decode cX9_next 32 = .ok (.iadd, 1) := by decide +kernel
theorem dX9_next_33 : decode cX9_next 33 = .ok (.putfield 34, 3) := by decide +kernel
theorem dX9_next_36 : decode cX9_next 36 = .ok (.goto (-36), 3) := by decide +kernel
theorem dX9_next_39 : decode cX9_next 39 = .ok (.aload_n 0, 1) := by decide +kernel
theorem dX9_next_40 : decode cX9_next 40 = .ok (.aload_n 0, 1) := by decide +kernel
theorem dX9_next_41 : decode cX9_next 41 = .ok (.getfield 34, 3) := by decide +kernel
theorem dX9_next_44 : decode cX9_next 44 = .ok (.putfield 43, 3) := by decide +kernel
theorem dX9_next_47 : decode cX9_next 47 = .ok (.aload_n 0, 1) := by decide +kernel
theorem dX9_next_48 : decode cX9_next 48 = .ok (.getfield 43, 3) := by decide +kernel
theorem dX9_next_51 : decode cX9_next 51 = .ok (.aload_n 0, 1) := by decide +kernel
theorem dX9_next_52 : decode cX9_next 52 = .ok (.getfield 31, 3) := by decide +kernel
theorem dX9_next_55 : decode cX9_next 55 = .ok (.if_icmp .lt 11, 3) := by decide +kernel
theorem dX9_next_58 : decode cX9_next 58 = .ok (.aload_n 0, 1) := by decide +kernel
theorem dX9_next_59 : decode cX9_next 59 = .ok (.iconst 0, 1) := by decide +kernel
theorem dX9_next_60 : decode cX9_next 60 = .ok (.putfield 40, 3) := by decide +kernel
theorem dX9_next_63 : decode cX9_next 63 = .ok (.goto 169, 3) := by decide +kernel
theorem dX9_next_66 : decode cX9_next 66 = .ok (.aload_n 0, 1) := by decide +kernel
theorem dX9_next_67 : decode cX9_next 67 = .ok (.getfield 9, 3) := by decide +kernel
theorem dX9_next_70 : decode cX9_next 70 = .ok (.aload_n 0, 1) := by decide +kernel
theorem dX9_next_71 : decode cX9_next 71 = .ok (.getfield 43, 3) := by decide +kernel
theorem dX9_next_74 : decode cX9_next 74 = .ok (.baload, 1) := by decide +kernel
theorem dX9_next_75 : decode cX9_next 75 = .ok (.invokestatic 50, 3) := by decide +kernel
theorem dX9_next_78 : decode cX9_next 78 = .ok (.ifCond .eq 47, 3) := by decide +kernel
theorem dX9_next_81 : decode cX9_next 81 = .ok (.aload_n 0, 1) := by decide +kernel
theorem dX9_next_82 : decode cX9_next 82 = .ok (.iconst 1, 1) := by decide +kernel
theorem dX9_next_83 : decode cX9_next 83 = .ok (.putfield 40, 3) := by decide +kernel
theorem dX9_next_86 : decode cX9_next 86 = .ok (.aload_n 0, 1) := by decide +kernel
theorem dX9_next_87 : decode cX9_next 87 = .ok (.getfield 34, 3) := by decide +kernel
theorem dX9_next_90 : decode cX9_next 90 = .ok (.aload_n 0, 1) := by decide +kernel
theorem dX9_next_91 : decode cX9_next 91 = .ok (.getfield 31, 3) := by decide +kernel
theorem dX9_next_94 : decode cX9_next 94 = .ok (.if_icmp .ge 138, 3) := by decide +kernel
theorem dX9_next_97 : decode cX9_next 97 = .ok (.aload_n 0, 1) := by decide +kernel
theorem dX9_next_98 : decode cX9_next 98 = .ok (.getfield 9, 3) := by decide +kernel
theorem dX9_next_101 : decode cX9_next 101 = .ok (.aload_n 0, 1) := by decide +kernel
theorem dX9_next_102 : decode cX9_next 102 = .ok (.getfield 34, 3) := by decide +kernel
theorem dX9_next_105 : decode cX9_next 105 = .ok (.baload, 1) := by decide +kernel
theorem dX9_next_106 : decode cX9_next 106 = .ok (.invokestatic 50, 3) := by decide +kernel
theorem dX9_next_109 : decode cX9_next 109 = .ok (.ifCond .eq 123, 3) := by decide +kernel
theorem dX9_next_112 : decode cX9_next 112 = .ok (.aload_n 0, 1) := by decide +kernel
theorem dX9_next_113 : decode cX9_next 113 = .ok (.dup, 1) := by decide +kernel
theorem dX9_next_114 : decode cX9_next 114 = .ok (.getfield 34, 3) := by decide +kernel
theorem dX9_next_117 : decode cX9_next 117 = .ok (.iconst 1, 1) := by decide +kernel
theorem dX9_next_118 : decode cX9_next 118 = .ok (.iadd, 1) := by decide +kernel
theorem dX9_next_119 : decode cX9_next 119 = .ok (.putfield 34, 3) := by decide +kernel
theorem dX9_next_122 : decode cX9_next 122 = .ok (.goto (-36), 3) := by decide +kernel
theorem dX9_next_125 : decode cX9_next 125 = .ok (.aload_n 0, 1) := by decide +kernel
theorem dX9_next_126 : decode cX9_next 126 = .ok (.getfield 9, 3) := by decide +kernel
theorem dX9_next_129 : decode cX9_next 129 = .ok (.aload_n 0, 1) := by decide +kernel
theorem dX9_next_130 : decode cX9_next 130 = .ok (.getfield 43, 3) := by decide +kernel
theorem dX9_next_133 : decode cX9_next 133 = .ok (.baload, 1) := by decide +kernel
theorem dX9_next_134 : decode cX9_next 134 = .ok (.invokestatic 53, 3) := by decide +kernel
theorem dX9_next_137 : decode cX9_next 137 = .ok (.ifCond .eq 62, 3) := by decide +kernel
theorem dX9_next_140 : decode cX9_next 140 = .ok (.aload_n 0, 1) := by decide +kernel
theorem dX9_next_141 : decode cX9_next 141 = .ok (.getfield 34, 3) := by decide +kernel
theorem dX9_next_144 : decode cX9_next 144 = .ok (.aload_n 0, 1) := by decide +kernel
theorem dX9_next_145 : decode cX9_next 145 = .ok (.getfield 31, 3) := by decide +kernel
theorem dX9_next_148 : decode cX9_next 148 = .ok (.if_icmp .ge 31, 3) := by decide +kernel
theorem dX9_next_151 : decode cX9_next 151 = .ok (.aload_n 0, 1) := by decide +kernel
theorem dX9_next_152 : decode cX9_next 152 = .ok (.getfield 9, 3) := by decide +kernel
theorem dX9_next_155 : decode cX9_next 155 = .ok (.aload_n 0, 1) := by decide +kernel
theorem dX9_next_156 : decode cX9_next 156 = .ok (.getfield 34, 3) := by decide +kernel
theorem dX9_next_159 : decode cX9_next 159 = .ok (.baload, 1) := by decide +kernel
theorem dX9_next_160 : decode cX9_next 160 = .ok (.invokestatic 53, 3) := by decide +kernel
theorem dX9_next_163 : decode cX9_next 163 = .ok (.ifCond .eq 16, 3) := by decide +kernel
theorem dX9_next_166 : decode cX9_next 166 = .ok (.aload_n 0, 1) := by decide +kernel
theorem dX9_next_167 : decode cX9_next 167 = .ok (.dup, 1) := by decide +kernel
theorem dX9_next_168 : decode cX9_next 168 = .ok (.getfield 34, 3) := by decide +kernel
theorem dX9_next_171 : decode cX9_next 171 = .ok (.iconst 1, 1) := by decide +kernel
theorem dX9_next_172 : decode cX9_next 172 = .ok (.iadd, 1) := by decide +kernel
theorem dX9_next_173 : decode cX9_next 173 = .ok (.putfield 34, 3) := by decide +kernel
theorem dX9_next_176 : decode cX9_next 176 = .ok (.goto (-36), 3) := by decide +kernel
theorem dX9_next_179 : decode cX9_next 179 = .ok (.aload_n 0, 1) := by decide +kernel
theorem dX9_next_180 : decode cX9_next 180 = .ok (.aload_n 0, 1) := by decide +kernel
theorem dX9_next_181 : decode cX9_next 181 = .ok (.invokevirtual 56, 3) := by decide +kernel
theorem dX9_next_184 : decode cX9_next 184 = .ok (.iconst 4, 1) := by decide +kernel
theorem dX9_next_185 : decode cX9_next 185 = .ok (.if_icmp .le 7, 3) := by decide +kernel
theorem dX9_next_188 : decode cX9_next 188 = .ok (.iconst 4, 1) := by decide +kernel
theorem dX9_next_189 : decode cX9_next 189 = .ok (.goto 4, 3) := by decide +kernel
theorem dX9_next_192 : decode cX9_next 192 = .ok (.iconst 2, 1) := by decide +kernel
theorem dX9_next_193 : decode cX9_next 193 = .ok (.putfield 40, 3) := by decide +kernel
theorem dX9_next_196 : decode cX9_next 196 = .ok (.goto 36, 3) := by decide +kernel
theorem dX9_next_199 : decode cX9_next 199 = .ok (.aload_n 0, 1) := by decide +kernel
theorem dX9_next_200 : decode cX9_next 200 = .ok (.aload_n 0, 1) := by decide +kernel
theorem dX9_next_201 : decode cX9_next 201 = .ok (.getfield 9, 3) := by decide +kernel
theorem dX9_next_204 : decode cX9_next 204 = .ok (.aload_n 0, 1) := by decide +kernel
theorem dX9_next_205 : decode cX9_next 205 = .ok (.getfield 43, 3) := by decide +kernel
theorem dX9_next_208 : decode cX9_next 208 = .ok (.baload, 1) := by decide +kernel
theorem dX9_next_209 : decode cX9_next 209 = .ok (.bipush 59, 2) := by decide +kernel
theorem dX9_next_211 : decode cX9_next 211 = .ok (.if_icmp .ne 7, 3) := by decide +kernel
theorem dX9_next_214 : decode cX9_next 214 = .ok (.iconst 3, 1) := by decide +kernel
theorem dX9_next_215 : decode cX9_next 215 = .ok (.goto 4, 3) := by decide +kernel
theorem dX9_next_218 : decode cX9_next 218 = .ok (.iconst 4, 1) := by decide +kernel
theorem dX9_next_219 : decode cX9_next 219 = .ok (.putfield 40, 3) := by decide +kernel
theorem dX9_next_222 : decode cX9_next 222 = .ok (.aload_n 0, 1) := by decide +kernel
theorem dX9_next_223 : decode cX9_next 223 = .ok (.dup, 1) := by decide +kernel
theorem dX9_next_224 : decode cX9_next 224 = .ok (.getfield 34, 3) := by decide +kernel
theorem dX9_next_227 : decode cX9_next 227 = .ok (.iconst 1, 1) := by decide +kernel
theorem dX9_next_228 : decode cX9_next 228 = .ok (.iadd, 1) := by decide +kernel
theorem dX9_next_229 : decode cX9_next 229 = .ok (.putfield 34, 3) := by decide +kernel
theorem dX9_next_232 : decode cX9_next 232 = .ok (.return_, 1) := by decide +kernel
theorem dX9_isBlank_0 : decode cX9_isBlank 0 = .ok (.iload_n 0, 1) := by decide +kernel
theorem dX9_isBlank_1 : decode cX9_isBlank 1 = .ok (.bipush 10, 2) := by decide +kernel
theorem dX9_isBlank_3 : decode cX9_isBlank 3 = .ok (.if_icmp .eq 9, 3) := by decide +kernel
theorem dX9_isBlank_6 : decode cX9_isBlank 6 = .ok (.iload_n 0, 1) := by decide +kernel
theorem dX9_isBlank_7 : decode cX9_isBlank 7 = .ok (.bipush 32, 2) := by decide +kernel
theorem dX9_isBlank_9 : decode cX9_isBlank 9 = .ok (.if_icmp .ne 7, 3) := by decide +kernel
theorem dX9_isBlank_12 : decode cX9_isBlank 12 = .ok (.iconst 1, 1) := by decide +kernel
theorem dX9_isBlank_13 : decode cX9_isBlank 13 = .ok (.goto 4, 3) := by decide +kernel
theorem dX9_isBlank_16 : decode cX9_isBlank 16 = .ok (.iconst 0, 1) := by decide +kernel
theorem dX9_isBlank_17 : decode cX9_isBlank 17 = .ok (.ireturn, 1) := by decide +kernel
theorem dX9_isSmallLetter_0 : decode cX9_isSmallLetter 0 = .ok (.iload_n 0, 1) := by decide +kernel
theorem dX9_isSmallLetter_1 : decode cX9_isSmallLetter 1 = .ok (.bipush 97, 2) := by decide +kernel
theorem dX9_isSmallLetter_3 : decode cX9_isSmallLetter 3 = .ok (.if_icmp .lt 13, 3) := by decide +kernel
theorem dX9_isSmallLetter_6 : decode cX9_isSmallLetter 6 = .ok (.iload_n 0, 1) := by decide +kernel
theorem dX9_isSmallLetter_7 : decode cX9_isSmallLetter 7 = .ok (.bipush 122, 2) := by decide +kernel
theorem dX9_isSmallLetter_9 : decode cX9_isSmallLetter 9 = .ok (.if_icmp .gt 7, 3) := by decide +kernel
theorem dX9_isSmallLetter_12 : decode cX9_isSmallLetter 12 = .ok (.iconst 1, 1) := by decide +kernel
theorem dX9_isSmallLetter_13 : decode cX9_isSmallLetter 13 = .ok (.goto 4, 3) := by decide +kernel
theorem dX9_isSmallLetter_16 : decode cX9_isSmallLetter 16 = .ok (.iconst 0, 1) := by decide +kernel
theorem dX9_isSmallLetter_17 : decode cX9_isSmallLetter 17 = .ok (.ireturn, 1) := by decide +kernel
theorem dX9_isDigit_0 : decode cX9_isDigit 0 = .ok (.iload_n 0, 1) := by decide +kernel
theorem dX9_isDigit_1 : decode cX9_isDigit 1 = .ok (.bipush 48, 2) := by decide +kernel
theorem dX9_isDigit_3 : decode cX9_isDigit 3 = .ok (.if_icmp .lt 13, 3) := by decide +kernel
theorem dX9_isDigit_6 : decode cX9_isDigit 6 = .ok (.iload_n 0, 1) := by decide +kernel
theorem dX9_isDigit_7 : decode cX9_isDigit 7 = .ok (.bipush 57, 2) := by decide +kernel
theorem dX9_isDigit_9 : decode cX9_isDigit 9 = .ok (.if_icmp .gt 7, 3) := by decide +kernel
theorem dX9_isDigit_12 : decode cX9_isDigit 12 = .ok (.iconst 1, 1) := by decide +kernel
theorem dX9_isDigit_13 : decode cX9_isDigit 13 = .ok (.goto 4, 3) := by decide +kernel
theorem dX9_isDigit_16 : decode cX9_isDigit 16 = .ok (.iconst 0, 1) := by decide +kernel
theorem dX9_isDigit_17 : decode cX9_isDigit 17 = .ok (.ireturn, 1) := by decide +kernel
theorem dX9_stop_0 : decode cX9_stop 0 = .ok (.aload_n 0, 1) := by decide +kernel
theorem dX9_stop_1 : decode cX9_stop 1 = .ok (.getfield 15, 3) := by decide +kernel
theorem dX9_stop_4 : decode cX9_stop 4 = .ok (.ifCond .ne 28, 3) := by decide +kernel
theorem dX9_stop_7 : decode cX9_stop 7 = .ok (.aload_n 0, 1) := by decide +kernel
theorem dX9_stop_8 : decode cX9_stop 8 = .ok (.aload_n 0, 1) := by decide +kernel
theorem dX9_stop_9 : decode cX9_stop 9 = .ok (.getfield 40, 3) := by decide +kernel
theorem dX9_stop_12 : decode cX9_stop 12 = .ok (.iconst 4, 1) := by decide +kernel
theorem dX9_stop_13 : decode cX9_stop 13 = .ok (.if_icmp .ne 7, 3) := by decide +kernel
theorem dX9_stop_16 : decode cX9_stop 16 = .ok (.iconst 1, 1) := by decide +kernel
theorem dX9_stop_17 : decode cX9_stop 17 = .ok (.goto 4, 3) := by decide +kernel
theorem dX9_stop_20 : decode cX9_stop 20 = .ok (.iload_n 1, 1) := by decide +kernel
theorem dX9_stop_21 : decode cX9_stop 21 = .ok (.putfield 15, 3) := by decide +kernel
theorem dX9_stop_24 : decode cX9_stop 24 = .ok (.aload_n 0, 1) := by decide +kernel
theorem dX9_stop_25 : decode cX9_stop 25 = .ok (.aload_n 0, 1) := by decide +kernel
theorem dX9_stop_26 : decode cX9_stop 26 = .ok (.getfield 43, 3) := by decide +kernel
theorem dX9_stop_29 : decode cX9_stop 29 = .ok (.putfield 19, 3) := by decide +kernel
theorem dX9_stop_32 : decode cX9_stop 32 = .ok (.return_, 1) := by decide +kernel
theorem dX9_isWordUpTo_0 : decode cX9_isWordUpTo 0 = .ok (.aload_n 0, 1) := by decide +kernel
theorem dX9_isWordUpTo_1 : decode cX9_isWordUpTo 1 = .ok (.getfield 40, 3) := by decide +kernel
theorem dX9_isWordUpTo_4 : decode cX9_isWordUpTo 4 = .ok (.iconst 1, 1) := by decide +kernel
theorem dX9_isWordUpTo_5 : decode cX9_isWordUpTo 5 = .ok (.if_icmp .ne 15, 3) := by decide +kernel
theorem dX9_isWordUpTo_8 : decode cX9_isWordUpTo 8 = .ok (.aload_n 0, 1) := by decide +kernel
theorem dX9_isWordUpTo_9 : decode cX9_isWordUpTo 9 = .ok (.invokevirtual 56, 3) := by decide +kernel
theorem dX9_isWordUpTo_12 : decode cX9_isWordUpTo 12 = .ok (.iload_n 1, 1) := by decide +kernel
theorem dX9_isWordUpTo_13 : decode cX9_isWordUpTo 13 = .ok (.if_icmp .gt 7, 3) := by decide +kernel
theorem dX9_isWordUpTo_16 : decode cX9_isWordUpTo 16 = .ok (.iconst 1, 1) := by decide +kernel
theorem dX9_isWordUpTo_17 : decode cX9_isWordUpTo 17 = .ok (.goto 4, 3) := by decide +kernel
theorem dX9_isWordUpTo_20 : decode cX9_isWordUpTo 20 = .ok (.iconst 0, 1) := by decide +kernel
theorem dX9_isWordUpTo_21 : decode cX9_isWordUpTo 21 = .ok (.ireturn, 1) := by decide +kernel
theorem dX9_isWord_0 : decode cX9_isWord 0 = .ok (.aload_n 0, 1) := by decide +kernel
theorem dX9_isWord_1 : decode cX9_isWord 1 = .ok (.getfield 40, 3) := by decide +kernel
theorem dX9_isWord_4 : decode cX9_isWord 4 = .ok (.iconst 1, 1) := by decide +kernel
theorem dX9_isWord_5 : decode cX9_isWord 5 = .ok (.if_icmp .ne 18, 3) := by decide +kernel
theorem dX9_isWord_8 : decode cX9_isWord 8 = .ok (.aload_n 0, 1) := by decide +kernel
theorem dX9_isWord_9 : decode cX9_isWord 9 = .ok (.invokevirtual 56, 3) := by decide +kernel
theorem dX9_isWord_12 : decode cX9_isWord 12 = .ok (.aload_n 1, 1) := by decide +kernel
theorem dX9_isWord_13 : decode cX9_isWord 13 = .ok (.invokevirtual 60, 3) := by decide +kernel
theorem dX9_isWord_16 : decode cX9_isWord 16 = .ok (.if_icmp .ne 7, 3) := by decide +kernel
theorem dX9_isWord_19 : decode cX9_isWord 19 = .ok (.iconst 1, 1) := by decide +kernel
theorem dX9_isWord_20 : decode cX9_isWord 20 = .ok (.goto 4, 3) := by decide +kernel
theorem dX9_isWord_23 : decode cX9_isWord 23 = .ok (.iconst 0, 1) := by decide +kernel
theorem dX9_isWord_24 : decode cX9_isWord 24 = .ok (.istore_n 2, 1) := by decide +kernel
theorem dX9_isWord_25 : decode cX9_isWord 25 = .ok (.iconst 0, 1) := by decide +kernel
theorem dX9_isWord_26 : decode cX9_isWord 26 = .ok (.istore_n 3, 1) := by decide +kernel
theorem dX9_isWord_27 : decode cX9_isWord 27 = .ok (.iload_n 2, 1) := by decide +kernel
theorem dX9_isWord_28 : decode cX9_isWord 28 = .ok (.ifCond .eq 41, 3) := by decide +kernel
theorem dX9_isWord_31 : decode cX9_isWord 31 = .ok (.iload_n 3, 1) := by decide +kernel
theorem dX9_isWord_32 : decode cX9_isWord 32 = .ok (.aload_n 1, 1) := by decide +kernel
theorem dX9_isWord_33 : decode cX9_isWord 33 = .ok (.invokevirtual 60, 3) := by decide +kernel
theorem dX9_isWord_36 : decode cX9_isWord 36 = .ok (.if_icmp .ge 33, 3) := by decide +kernel
theorem dX9_isWord_39 : decode cX9_isWord 39 = .ok (.aload_n 0, 1) := by decide +kernel
theorem dX9_isWord_40 : decode cX9_isWord 40 = .ok (.iload_n 3, 1) := by decide +kernel
theorem dX9_isWord_41 : decode cX9_isWord 41 = .ok (.invokevirtual 64, 3) := by decide +kernel
theorem dX9_isWord_44 : decode cX9_isWord 44 = .ok (.aload_n 1, 1) := by decide +kernel
theorem dX9_isWord_45 : decode cX9_isWord 45 = .ok (.iload_n 3, 1) := by decide +kernel
theorem dX9_isWord_46 : decode cX9_isWord 46 = .ok (.invokevirtual 68, 3) := by decide +kernel
theorem dX9_isWord_49 : decode cX9_isWord 49 = .ok (.bipush 97, 2) := by decide +kernel
theorem dX9_isWord_51 : decode cX9_isWord 51 = .ok (.isub, 1) := by decide +kernel
theorem dX9_isWord_52 : decode cX9_isWord 52 = .ok (.iconst 1, 1) := by decide +kernel
theorem dX9_isWord_53 : decode cX9_isWord 53 = .ok (.iadd, 1) := by decide +kernel
theorem dX9_isWord_54 : decode cX9_isWord 54 = .ok (.if_icmp .ne 7, 3) := by decide +kernel
theorem dX9_isWord_57 : decode cX9_isWord 57 = .ok (.iconst 1, 1) := by decide +kernel
theorem dX9_isWord_58 : decode cX9_isWord 58 = .ok (.goto 4, 3) := by decide +kernel
theorem dX9_isWord_61 : decode cX9_isWord 61 = .ok (.iconst 0, 1) := by decide +kernel
theorem dX9_isWord_62 : decode cX9_isWord 62 = .ok (.istore_n 2, 1) := by decide +kernel
theorem dX9_isWord_63 : decode cX9_isWord 63 = .ok (.iinc 3 1, 3) := by decide +kernel
theorem dX9_isWord_66 : decode cX9_isWord 66 = .ok (.goto (-39), 3) := by decide +kernel
theorem dX9_isWord_69 : decode cX9_isWord 69 = .ok (.iload_n 2, 1) := by decide +kernel
theorem dX9_isWord_70 : decode cX9_isWord 70 = .ok (.ireturn, 1) := by decide +kernel
theorem dX9_isWordOf_0 : decode cX9_isWordOf 0 = .ok (.aload_n 0, 1) := by decide +kernel
theorem dX9_isWordOf_1 : decode cX9_isWordOf 1 = .ok (.getfield 40, 3) := by decide +kernel
theorem dX9_isWordOf_4 : decode cX9_isWordOf 4 = .ok (.iconst 1, 1) := by decide +kernel
theorem dX9_isWordOf_5 : decode cX9_isWordOf 5 = .ok (.if_icmp .ne 29, 3) := by decide +kernel
theorem dX9_isWordOf_8 : decode cX9_isWordOf 8 = .ok (.aload_n 0, 1) := by decide +kernel
theorem dX9_isWordOf_9 : decode cX9_isWordOf 9 = .ok (.invokevirtual 56, 3) := by decide +kernel
theorem dX9_isWordOf_12 : decode cX9_isWordOf 12 = .ok (.iload_n 2, 1) := by decide +kernel
theorem dX9_isWordOf_13 : decode cX9_isWordOf 13 = .ok (.if_icmp .ne 21, 3) := by decide +kernel
theorem dX9_isWordOf_16 : decode cX9_isWordOf 16 = .ok (.iload_n 1, 1) := by decide +kernel
theorem dX9_isWordOf_17 : decode cX9_isWordOf 17 = .ok (.ifCond .lt 17, 3) := by decide +kernel
theorem dX9_isWordOf_20 : decode cX9_isWordOf 20 = .ok (.iload_n 1, 1) := by decide +kernel
theorem dX9_isWordOf_21 : decode cX9_isWordOf 21 = .ok (.iload_n 2, 1) := by decide +kernel
theorem dX9_isWordOf_22 : decode cX9_isWordOf 22 = .ok (.iadd, 1) := by decide +kernel
theorem dX9_isWordOf_23 : decode cX9_isWordOf 23 = .ok (.aload_n 0, 1) := by decide +kernel
theorem dX9_isWordOf_24 : decode cX9_isWordOf 24 = .ok (.getfield 31, 3) := by decide +kernel
theorem dX9_isWordOf_27 : decode cX9_isWordOf 27 = .ok (.if_icmp .gt 7, 3) := by decide +kernel
theorem dX9_isWordOf_30 : decode cX9_isWordOf 30 = .ok (.iconst 1, 1) := by decide +kernel
theorem dX9_isWordOf_31 : decode cX9_isWordOf 31 = .ok (.goto 4, 3) := by decide +kernel
theorem dX9_isWordOf_34 : decode cX9_isWordOf 34 = .ok (.iconst 0, 1) := by decide +kernel
theorem dX9_isWordOf_35 : decode cX9_isWordOf 35 = .ok (.istore_n 3, 1) := by decide +kernel
theorem dX9_isWordOf_36 : decode cX9_isWordOf 36 = .ok (.iconst 0, 1) := by decide +kernel
theorem dX9_isWordOf_37 : decode cX9_isWordOf 37 = .ok (.istore 4, 2) := by decide +kernel
theorem dX9_isWordOf_39 : decode cX9_isWordOf 39 = .ok (.iload_n 3, 1) := by decide +kernel
theorem dX9_isWordOf_40 : decode cX9_isWordOf 40 = .ok (.ifCond .eq 44, 3) := by decide +kernel
theorem dX9_isWordOf_43 : decode cX9_isWordOf 43 = .ok (.iload 4, 2) := by decide +kernel
theorem dX9_isWordOf_45 : decode cX9_isWordOf 45 = .ok (.iload_n 2, 1) := by decide +kernel
theorem dX9_isWordOf_46 : decode cX9_isWordOf 46 = .ok (.if_icmp .ge 38, 3) := by decide +kernel
theorem dX9_isWordOf_49 : decode cX9_isWordOf 49 = .ok (.aload_n 0, 1) := by decide +kernel
theorem dX9_isWordOf_50 : decode cX9_isWordOf 50 = .ok (.iload 4, 2) := by decide +kernel
theorem dX9_isWordOf_52 : decode cX9_isWordOf 52 = .ok (.invokevirtual 64, 3) := by decide +kernel
theorem dX9_isWordOf_55 : decode cX9_isWordOf 55 = .ok (.aload_n 0, 1) := by decide +kernel
theorem dX9_isWordOf_56 : decode cX9_isWordOf 56 = .ok (.getfield 9, 3) := by decide +kernel
theorem dX9_isWordOf_59 : decode cX9_isWordOf 59 = .ok (.iload_n 1, 1) := by decide +kernel
theorem dX9_isWordOf_60 : decode cX9_isWordOf 60 = .ok (.iload 4, 2) := by decide +kernel
theorem dX9_isWordOf_62 : decode cX9_isWordOf 62 = .ok (.iadd, 1) := by decide +kernel
theorem dX9_isWordOf_63 : decode cX9_isWordOf 63 = .ok (.baload, 1) := by decide +kernel
theorem dX9_isWordOf_64 : decode cX9_isWordOf 64 = .ok (.bipush 97, 2) := by decide +kernel
theorem dX9_isWordOf_66 : decode cX9_isWordOf 66 = .ok (.isub, 1) := by decide +kernel
theorem dX9_isWordOf_67 : decode cX9_isWordOf 67 = .ok (.iconst 1, 1) := by decide +kernel
theorem dX9_isWordOf_68 : decode cX9_isWordOf 68 = .ok (.iadd, 1) := by decide +kernel
theorem dX9_isWordOf_69 : decode cX9_isWordOf 69 = .ok (.if_icmp .ne 7, 3) := by decide +kernel
theorem dX9_isWordOf_72 : decode cX9_isWordOf 72 = .ok (.iconst 1, 1) := by decide +kernel
theorem dX9_isWordOf_73 : decode cX9_isWordOf 73 = .ok (.goto 4, 3) := by decide +kernel
theorem dX9_isWordOf_76 : decode cX9_isWordOf 76 = .ok (.iconst 0, 1) := by decide +kernel
theorem dX9_isWordOf_77 : decode cX9_isWordOf 77 = .ok (.istore_n 3, 1) := by decide +kernel
theorem dX9_isWordOf_78 : decode cX9_isWordOf 78 = .ok (.iinc 4 1, 3) := by decide +kernel
theorem dX9_isWordOf_81 : decode cX9_isWordOf 81 = .ok (.goto (-42), 3) := by decide +kernel
theorem dX9_isWordOf_84 : decode cX9_isWordOf 84 = .ok (.iload_n 3, 1) := by decide +kernel
theorem dX9_isWordOf_85 : decode cX9_isWordOf 85 = .ok (.ireturn, 1) := by decide +kernel
theorem dX9_isName_0 : decode cX9_isName 0 = .ok (.aload_n 0, 1) := by decide +kernel
theorem dX9_isName_1 : decode cX9_isName 1 = .ok (.ldc 72, 2) := by decide +kernel
theorem dX9_isName_3 : decode cX9_isName 3 = .ok (.invokevirtual 74, 3) := by decide +kernel
theorem dX9_isName_6 : decode cX9_isName 6 = .ok (.ifCond .ne 183, 3) := by decide +kernel
theorem dX9_isName_9 : decode cX9_isName 9 = .ok (.aload_n 0, 1) := by decide +kernel
theorem dX9_isName_10 : decode cX9_isName 10 = .ok (.ldc 78, 2) := by decide +kernel
theorem dX9_isName_12 : decode cX9_isName 12 = .ok (.invokevirtual 74, 3) := by decide +kernel
theorem dX9_isName_15 : decode cX9_isName 15 = .ok (.ifCond .ne 174, 3) := by decide +kernel
theorem dX9_isName_18 : decode cX9_isName 18 = .ok (.aload_n 0, 1) := by decide +kernel
theorem dX9_isName_19 : decode cX9_isName 19 = .ok (.ldc 80, 2) := by decide +kernel
theorem dX9_isName_21 : decode cX9_isName 21 = .ok (.invokevirtual 74, 3) := by decide +kernel
theorem dX9_isName_24 : decode cX9_isName 24 = .ok (.ifCond .ne 165, 3) := by decide +kernel
theorem dX9_isName_27 : decode cX9_isName 27 = .ok (.aload_n 0, 1) := by decide +kernel
theorem dX9_isName_28 : decode cX9_isName 28 = .ok (.ldc 81, 2) := by decide +kernel
theorem dX9_isName_30 : decode cX9_isName 30 = .ok (.invokevirtual 74, 3) := by decide +kernel
theorem dX9_isName_33 : decode cX9_isName 33 = .ok (.ifCond .ne 156, 3) := by decide +kernel
theorem dX9_isName_36 : decode cX9_isName 36 = .ok (.aload_n 0, 1) := by decide +kernel
theorem dX9_isName_37 : decode cX9_isName 37 = .ok (.ldc 83, 2) := by decide +kernel
theorem dX9_isName_39 : decode cX9_isName 39 = .ok (.invokevirtual 74, 3) := by decide +kernel
theorem dX9_isName_42 : decode cX9_isName 42 = .ok (.ifCond .ne 147, 3) := by decide +kernel
theorem dX9_isName_45 : decode cX9_isName 45 = .ok (.aload_n 0, 1) := by decide +kernel
theorem dX9_isName_46 : decode cX9_isName 46 = .ok (.ldc 85, 2) := by decide +kernel
theorem dX9_isName_48 : decode cX9_isName 48 = .ok (.invokevirtual 74, 3) := by decide +kernel
theorem dX9_isName_51 : decode cX9_isName 51 = .ok (.ifCond .ne 138, 3) := by decide +kernel
theorem dX9_isName_54 : decode cX9_isName 54 = .ok (.aload_n 0, 1) := by decide +kernel
theorem dX9_isName_55 : decode cX9_isName 55 = .ok (.ldc 87, 2) := by decide +kernel
theorem dX9_isName_57 : decode cX9_isName 57 = .ok (.invokevirtual 74, 3) := by decide +kernel
theorem dX9_isName_60 : decode cX9_isName 60 = .ok (.ifCond .ne 129, 3) := by decide +kernel
theorem dX9_isName_63 : decode cX9_isName 63 = .ok (.aload_n 0, 1) := by decide +kernel
theorem dX9_isName_64 : decode cX9_isName 64 = .ok (.ldc 89, 2) := by decide +kernel
theorem dX9_isName_66 : decode cX9_isName 66 = .ok (.invokevirtual 74, 3) := by decide +kernel
theorem dX9_isName_69 : decode cX9_isName 69 = .ok (.ifCond .ne 120, 3) := by decide +kernel
theorem dX9_isName_72 : decode cX9_isName 72 = .ok (.aload_n 0, 1) := by decide +kernel
theorem dX9_isName_73 : decode cX9_isName 73 = .ok (.ldc 91, 2) := by decide +kernel
theorem dX9_isName_75 : decode cX9_isName 75 = .ok (.invokevirtual 74, 3) := by decide +kernel
theorem dX9_isName_78 : decode cX9_isName 78 = .ok (.ifCond .ne 111, 3) := by decide +kernel
theorem dX9_isName_81 : decode cX9_isName 81 = .ok (.aload_n 0, 1) := by decide +kernel
theorem dX9_isName_82 : decode cX9_isName 82 = .ok (.ldc 93, 2) := by decide +kernel
theorem dX9_isName_84 : decode cX9_isName 84 = .ok (.invokevirtual 74, 3) := by decide +kernel
theorem dX9_isName_87 : decode cX9_isName 87 = .ok (.ifCond .ne 102, 3) := by decide +kernel
theorem dX9_isName_90 : decode cX9_isName 90 = .ok (.aload_n 0, 1) := by decide +kernel
theorem dX9_isName_91 : decode cX9_isName 91 = .ok (.ldc 95, 2) := by decide +kernel
theorem dX9_isName_93 : decode cX9_isName 93 = .ok (.invokevirtual 74, 3) := by decide +kernel
theorem dX9_isName_96 : decode cX9_isName 96 = .ok (.ifCond .ne 93, 3) := by decide +kernel
theorem dX9_isName_99 : decode cX9_isName 99 = .ok (.aload_n 0, 1) := by decide +kernel
theorem dX9_isName_100 : decode cX9_isName 100 = .ok (.ldc 97, 2) := by decide +kernel
theorem dX9_isName_102 : decode cX9_isName 102 = .ok (.invokevirtual 74, 3) := by decide +kernel
theorem dX9_isName_105 : decode cX9_isName 105 = .ok (.ifCond .ne 84, 3) := by decide +kernel
theorem dX9_isName_108 : decode cX9_isName 108 = .ok (.aload_n 0, 1) := by decide +kernel
theorem dX9_isName_109 : decode cX9_isName 109 = .ok (.ldc 99, 2) := by decide +kernel
theorem dX9_isName_111 : decode cX9_isName 111 = .ok (.invokevirtual 74, 3) := by decide +kernel
theorem dX9_isName_114 : decode cX9_isName 114 = .ok (.ifCond .ne 75, 3) := by decide +kernel
theorem dX9_isName_117 : decode cX9_isName 117 = .ok (.aload_n 0, 1) := by decide +kernel
theorem dX9_isName_118 : decode cX9_isName 118 = .ok (.ldc 101, 2) := by decide +kernel
theorem dX9_isName_120 : decode cX9_isName 120 = .ok (.invokevirtual 74, 3) := by decide +kernel
theorem dX9_isName_123 : decode cX9_isName 123 = .ok (.ifCond .ne 66, 3) := by decide +kernel
theorem dX9_isName_126 : decode cX9_isName 126 = .ok (.aload_n 0, 1) := by decide +kernel
theorem dX9_isName_127 : decode cX9_isName 127 = .ok (.ldc 103, 2) := by decide +kernel
theorem dX9_isName_129 : decode cX9_isName 129 = .ok (.invokevirtual 74, 3) := by decide +kernel
theorem dX9_isName_132 : decode cX9_isName 132 = .ok (.ifCond .ne 57, 3) := by decide +kernel
theorem dX9_isName_135 : decode cX9_isName 135 = .ok (.aload_n 0, 1) := by decide +kernel
theorem dX9_isName_136 : decode cX9_isName 136 = .ok (.ldc 105, 2) := by decide +kernel
theorem dX9_isName_138 : decode cX9_isName 138 = .ok (.invokevirtual 74, 3) := by decide +kernel
theorem dX9_isName_141 : decode cX9_isName 141 = .ok (.ifCond .ne 48, 3) := by decide +kernel
theorem dX9_isName_144 : decode cX9_isName 144 = .ok (.aload_n 0, 1) := by decide +kernel
theorem dX9_isName_145 : decode cX9_isName 145 = .ok (.ldc 107, 2) := by decide +kernel
theorem dX9_isName_147 : decode cX9_isName 147 = .ok (.invokevirtual 74, 3) := by decide +kernel
theorem dX9_isName_150 : decode cX9_isName 150 = .ok (.ifCond .ne 39, 3) := by decide +kernel
theorem dX9_isName_153 : decode cX9_isName 153 = .ok (.aload_n 0, 1) := by decide +kernel
theorem dX9_isName_154 : decode cX9_isName 154 = .ok (.ldc 109, 2) := by decide +kernel
theorem dX9_isName_156 : decode cX9_isName 156 = .ok (.invokevirtual 74, 3) := by decide +kernel
theorem dX9_isName_159 : decode cX9_isName 159 = .ok (.ifCond .ne 30, 3) := by decide +kernel
theorem dX9_isName_162 : decode cX9_isName 162 = .ok (.aload_n 0, 1) := by decide +kernel
theorem dX9_isName_163 : decode cX9_isName 163 = .ok (.ldc 111, 2) := by decide +kernel
theorem dX9_isName_165 : decode cX9_isName 165 = .ok (.invokevirtual 74, 3) := by decide +kernel
theorem dX9_isName_168 : decode cX9_isName 168 = .ok (.ifCond .ne 21, 3) := by decide +kernel
theorem dX9_isName_171 : decode cX9_isName 171 = .ok (.aload_n 0, 1) := by decide +kernel
theorem dX9_isName_172 : decode cX9_isName 172 = .ok (.ldc 113, 2) := by decide +kernel
theorem dX9_isName_174 : decode cX9_isName 174 = .ok (.invokevirtual 74, 3) := by decide +kernel
theorem dX9_isName_177 : decode cX9_isName 177 = .ok (.ifCond .ne 12, 3) := by decide +kernel
theorem dX9_isName_180 : decode cX9_isName 180 = .ok (.aload_n 0, 1) := by decide +kernel
theorem dX9_isName_181 : decode cX9_isName 181 = .ok (.ldc 115, 2) := by decide +kernel
theorem dX9_isName_183 : decode cX9_isName 183 = .ok (.invokevirtual 74, 3) := by decide +kernel
theorem dX9_isName_186 : decode cX9_isName 186 = .ok (.ifCond .eq 7, 3) := by decide +kernel
theorem dX9_isName_189 : decode cX9_isName 189 = .ok (.iconst 1, 1) := by decide +kernel
theorem dX9_isName_190 : decode cX9_isName 190 = .ok (.goto 4, 3) := by decide +kernel
theorem dX9_isName_193 : decode cX9_isName 193 = .ok (.iconst 0, 1) := by decide +kernel
theorem dX9_isName_194 : decode cX9_isName 194 = .ok (.istore_n 1, 1) := by decide +kernel
theorem dX9_isName_195 : decode cX9_isName 195 = .ok (.aload_n 0, 1) := by decide +kernel
theorem dX9_isName_196 : decode cX9_isName 196 = .ok (.bipush 8, 2) := by decide +kernel
theorem dX9_isName_198 : decode cX9_isName 198 = .ok (.invokevirtual 117, 3) := by decide +kernel
theorem dX9_isName_201 : decode cX9_isName 201 = .ok (.ifCond .eq 11, 3) := by decide +kernel
theorem dX9_isName_204 : decode cX9_isName 204 = .ok (.iload_n 1, 1) := by decide +kernel
theorem dX9_isName_205 : decode cX9_isName 205 = .ok (.ifCond .ne 7, 3) := by decide +kernel
theorem dX9_isName_208 : decode cX9_isName 208 = .ok (.iconst 1, 1) := by decide +kernel
theorem dX9_isName_209 : decode cX9_isName 209 = .ok (.goto 4, 3) := by decide +kernel
theorem dX9_isName_212 : decode cX9_isName 212 = .ok (.iconst 0, 1) := by decide +kernel
theorem dX9_isName_213 : decode cX9_isName 213 = .ok (.ireturn, 1) := by decide +kernel
theorem dX9_skipWord_0 : decode cX9_skipWord 0 = .ok (.aload_n 0, 1) := by decide +kernel
theorem dX9_skipWord_1 : decode cX9_skipWord 1 = .ok (.getfield 15, 3) := by decide +kernel
theorem dX9_skipWord_4 : decode cX9_skipWord 4 = .ok (.ifCond .ne 15, 3) := by decide +kernel
theorem dX9_skipWord_7 : decode cX9_skipWord 7 = .ok (.aload_n 0, 1) := by decide +kernel
theorem dX9_skipWord_8 : decode cX9_skipWord 8 = .ok (.aload_n 1, 1) := by decide +kernel
theorem dX9_skipWord_9 : decode cX9_skipWord 9 = .ok (.invokevirtual 74, 3) := by decide +kernel
theorem dX9_skipWord_12 : decode cX9_skipWord 12 = .ok (.ifCond .eq 7, 3) := by decide +kernel
theorem dX9_skipWord_15 : decode cX9_skipWord 15 = .ok (.iconst 1, 1) := by decide +kernel
theorem dX9_skipWord_16 : decode cX9_skipWord 16 = .ok (.goto 4, 3) := by decide +kernel
theorem dX9_skipWord_19 : decode cX9_skipWord 19 = .ok (.iconst 0, 1) := by decide +kernel
theorem dX9_skipWord_20 : decode cX9_skipWord 20 = .ok (.istore_n 2, 1) := by decide +kernel
theorem dX9_skipWord_21 : decode cX9_skipWord 21 = .ok (.iload_n 2, 1) := by decide +kernel
theorem dX9_skipWord_22 : decode cX9_skipWord 22 = .ok (.ifCond .eq 7, 3) := by decide +kernel
theorem dX9_skipWord_25 : decode cX9_skipWord 25 = .ok (.aload_n 0, 1) := by decide +kernel
theorem dX9_skipWord_26 : decode cX9_skipWord 26 = .ok (.invokevirtual 37, 3) := by decide +kernel
theorem dX9_skipWord_29 : decode cX9_skipWord 29 = .ok (.iload_n 2, 1) := by decide +kernel
theorem dX9_skipWord_30 : decode cX9_skipWord 30 = .ok (.ireturn, 1) := by decide +kernel
theorem dX9_takeWord_0 : decode cX9_takeWord 0 = .ok (.aload_n 0, 1) := by decide +kernel
theorem dX9_takeWord_1 : decode cX9_takeWord 1 = .ok (.aload_n 1, 1) := by decide +kernel
theorem dX9_takeWord_2 : decode cX9_takeWord 2 = .ok (.invokevirtual 121, 3) := by decide +kernel
theorem dX9_takeWord_5 : decode cX9_takeWord 5 = .ok (.ifCond .ne 8, 3) := by decide +kernel
theorem dX9_takeWord_8 : decode cX9_takeWord 8 = .ok (.aload_n 0, 1) := by decide +kernel
theorem dX9_takeWord_9 : decode cX9_takeWord 9 = .ok (.iconst 2, 1) := by decide +kernel
theorem dX9_takeWord_10 : decode cX9_takeWord 10 = .ok (.invokevirtual 124, 3) := by decide +kernel
theorem dX9_takeWord_13 : decode cX9_takeWord 13 = .ok (.return_, 1) := by decide +kernel
theorem dX9_takeSign_0 : decode cX9_takeSign 0 = .ok (.aload_n 0, 1) := by decide +kernel
theorem dX9_takeSign_1 : decode cX9_takeSign 1 = .ok (.getfield 40, 3) := by decide +kernel
theorem dX9_takeSign_4 : decode cX9_takeSign 4 = .ok (.iconst 3, 1) := by decide +kernel
theorem dX9_takeSign_5 : decode cX9_takeSign 5 = .ok (.if_icmp .eq 8, 3) := by decide +kernel
theorem dX9_takeSign_8 : decode cX9_takeSign 8 = .ok (.aload_n 0, 1) := by decide +kernel
theorem dX9_takeSign_9 : decode cX9_takeSign 9 = .ok (.iconst 2, 1) := by decide +kernel
theorem dX9_takeSign_10 : decode cX9_takeSign 10 = .ok (.invokevirtual 124, 3) := by decide +kernel
theorem dX9_takeSign_13 : decode cX9_takeSign 13 = .ok (.aload_n 0, 1) := by decide +kernel
theorem dX9_takeSign_14 : decode cX9_takeSign 14 = .ok (.getfield 15, 3) := by decide +kernel
theorem dX9_takeSign_17 : decode cX9_takeSign 17 = .ok (.ifCond .ne 7, 3) := by decide +kernel
theorem dX9_takeSign_20 : decode cX9_takeSign 20 = .ok (.aload_n 0, 1) := by decide +kernel
theorem dX9_takeSign_21 : decode cX9_takeSign 21 = .ok (.invokevirtual 37, 3) := by decide +kernel
theorem dX9_takeSign_24 : decode cX9_takeSign 24 = .ok (.return_, 1) := by decide +kernel
theorem dX9_takeNumber_0 : decode cX9_takeNumber 0 = .ok (.aload_n 0, 1) := by decide +kernel
theorem dX9_takeNumber_1 : decode cX9_takeNumber 1 = .ok (.getfield 40, 3) := by decide +kernel
theorem dX9_takeNumber_4 : decode cX9_takeNumber 4 = .ok (.iconst 2, 1) := by decide +kernel
theorem dX9_takeNumber_5 : decode cX9_takeNumber 5 = .ok (.if_icmp .eq 8, 3) := by decide +kernel
theorem dX9_takeNumber_8 : decode cX9_takeNumber 8 = .ok (.aload_n 0, 1) := by decide +kernel
theorem dX9_takeNumber_9 : decode cX9_takeNumber 9 = .ok (.iconst 2, 1) := by decide +kernel
theorem dX9_takeNumber_10 : decode cX9_takeNumber 10 = .ok (.invokevirtual 124, 3) := by decide +kernel
theorem dX9_takeNumber_13 : decode cX9_takeNumber 13 = .ok (.aload_n 0, 1) := by decide +kernel
theorem dX9_takeNumber_14 : decode cX9_takeNumber 14 = .ok (.getfield 15, 3) := by decide +kernel
theorem dX9_takeNumber_17 : decode cX9_takeNumber 17 = .ok (.ifCond .eq 5, 3) := by decide +kernel
theorem dX9_takeNumber_20 : decode cX9_takeNumber 20 = .ok (.iconst 0, 1) := by decide +kernel
theorem dX9_takeNumber_21 : decode cX9_takeNumber 21 = .ok (.ireturn, 1) := by decide +kernel
theorem dX9_takeNumber_22 : decode cX9_takeNumber 22 = .ok (.iconst 0, 1) := by decide +kernel
theorem dX9_takeNumber_23 : decode cX9_takeNumber 23 = .ok (.istore_n 3, 1) := by decide +kernel
theorem dX9_takeNumber_24 : decode cX9_takeNumber 24 = .ok (.aload_n 0, 1) := by decide +kernel
theorem dX9_takeNumber_25 : decode cX9_takeNumber 25 = .ok (.getfield 43, 3) := by decide +kernel
theorem dX9_takeNumber_28 : decode cX9_takeNumber 28 = .ok (.istore 4, 2) := by decide +kernel
theorem dX9_takeNumber_30 : decode cX9_takeNumber 30 = .ok (.iload 4, 2) := by decide +kernel
theorem dX9_takeNumber_32 : decode cX9_takeNumber 32 = .ok (.aload_n 0, 1) := by decide +kernel
theorem dX9_takeNumber_33 : decode cX9_takeNumber 33 = .ok (.getfield 34, 3) := by decide +kernel
theorem dX9_takeNumber_36 : decode cX9_takeNumber 36 = .ok (.if_icmp .ge 25, 3) := by decide +kernel
theorem dX9_takeNumber_39 : decode cX9_takeNumber 39 = .ok (.iload_n 3, 1) := by decide +kernel
theorem dX9_takeNumber_40 : decode cX9_takeNumber 40 = .ok (.bipush 10, 2) := by decide +kernel
theorem dX9_takeNumber_42 : decode cX9_takeNumber 42 = .ok (.imul, 1) := by decide +kernel
theorem dX9_takeNumber_43 : decode cX9_takeNumber 43 = .ok (.aload_n 0, 1) := by decide +kernel
theorem dX9_takeNumber_44 : decode cX9_takeNumber 44 = .ok (.getfield 9, 3) := by decide +kernel
theorem dX9_takeNumber_47 : decode cX9_takeNumber 47 = .ok (.iload 4, 2) := by decide +kernel
theorem dX9_takeNumber_49 : decode cX9_takeNumber 49 = .ok (.baload, 1) := by decide +kernel
theorem dX9_takeNumber_50 : decode cX9_takeNumber 50 = .ok (.iadd, 1) := by decide +kernel
theorem dX9_takeNumber_51 : decode cX9_takeNumber 51 = .ok (.bipush 48, 2) := by decide +kernel
theorem dX9_takeNumber_53 : decode cX9_takeNumber 53 = .ok (.isub, 1) := by decide +kernel
theorem dX9_takeNumber_54 : decode cX9_takeNumber 54 = .ok (.istore_n 3, 1) := by decide +kernel
theorem dX9_takeNumber_55 : decode cX9_takeNumber 55 = .ok (.iinc 4 1, 3) := by decide +kernel
theorem dX9_takeNumber_58 : decode cX9_takeNumber 58 = .ok (.goto (-28), 3) := by decide +kernel
