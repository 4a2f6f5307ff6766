theorem dX9_takeNumber_61 : decode cX9_takeNumber 61 = .ok (.iload_n 3, 1) := by decide +kernel
theorem dX9_takeNumber_62 : decode cX9_takeNumber 62 = .ok (.i2l, 1) := by decide +kernel
theorem dX9_takeNumber_63 : decode cX9_takeNumber 63 = .ok (.iload_n 1, 1) := by decide +kernel
theorem dX9_takeNumber_64 : decode cX9_takeNumber 64 = .ok (.i2l, 1) := by decide +kernel
theorem dX9_takeNumber_65 : decode cX9_takeNumber 65 = .ok (.iload_n 2, 1) := by decide +kernel
theorem dX9_takeNumber_66 : decode cX9_takeNumber 66 = .ok (.i2l, 1) := by decide +kernel
theorem dX9_takeNumber_67 : decode cX9_takeNumber 67 = .ok (.invokestatic 128, 3) := by decide +kernel
theorem dX9_takeNumber_70 : decode cX9_takeNumber 70 = .ok (.ifCond .ne 10, 3) := by decide +kernel
theorem dX9_takeNumber_73 : decode cX9_takeNumber 73 = .ok (.aload_n 0, 1) := by decide +kernel
theorem dX9_takeNumber_74 : decode cX9_takeNumber 74 = .ok (.iconst 4, 1) := by decide +kernel
theorem dX9_takeNumber_75 : decode cX9_takeNumber 75 = .ok (.invokevirtual 124, 3) := by decide +kernel
theorem dX9_takeNumber_78 : decode cX9_takeNumber 78 = .ok (.iconst 0, 1) := by decide +kernel
theorem dX9_takeNumber_79 : decode cX9_takeNumber 79 = .ok (.ireturn, 1) := by decide +kernel
theorem dX9_takeNumber_80 : decode cX9_takeNumber 80 = .ok (.aload_n 0, 1) := by decide +kernel
theorem dX9_takeNumber_81 : decode cX9_takeNumber 81 = .ok (.invokevirtual 37, 3) := by decide +kernel
theorem dX9_takeNumber_84 : decode cX9_takeNumber 84 = .ok (.iload_n 3, 1) := by decide +kernel
theorem dX9_takeNumber_85 : decode cX9_takeNumber 85 = .ok (.ireturn, 1) := by decide +kernel
theorem dX10_init_0 : decode cX10_init 0 = .ok (.aload_n 0, 1) := by decide +kernel
theorem dX10_init_1 : decode cX10_init 1 = .ok (.invokespecial 3, 3) := by decide +kernel
theorem dX10_init_4 : decode cX10_init 4 = .ok (.aload_n 0, 1) := by decide +kernel
theorem dX10_init_5 : decode cX10_init 5 = .ok (.bipush 60, 2) := by decide +kernel
theorem dX10_init_7 : decode cX10_init 7 = .ok (.newarray .long, 2) := by decide +kernel
theorem dX10_init_9 : decode cX10_init 9 = .ok (.putfield 9, 3) := by decide +kernel
theorem dX10_init_12 : decode cX10_init 12 = .ok (.aload_n 0, 1) := by decide +kernel
theorem dX10_init_13 : decode cX10_init 13 = .ok (.iconst (-1), 1) := by decide +kernel
theorem dX10_init_14 : decode cX10_init 14 = .ok (.putfield 15, 3) := by decide +kernel
theorem dX10_init_17 : decode cX10_init 17 = .ok (.return_, 1) := by decide +kernel
theorem dX10_isMissing_0 : decode cX10_isMissing 0 = .ok (.aload_n 0, 1) := by decide +kernel
theorem dX10_isMissing_1 : decode cX10_isMissing 1 = .ok (.getfield 15, 3) := by decide +kernel
theorem dX10_isMissing_4 : decode cX10_isMissing 4 = .ok (.iconst (-1), 1) := by decide +kernel
theorem dX10_isMissing_5 : decode cX10_isMissing 5 = .ok (.if_icmp .ne 7, 3) := by decide +kernel
theorem dX10_isMissing_8 : decode cX10_isMissing 8 = .ok (.iconst 1, 1) := by decide +kernel
theorem dX10_isMissing_9 : decode cX10_isMissing 9 = .ok (.goto 4, 3) := by decide +kernel
theorem dX10_isMissing_12 : decode cX10_isMissing 12 = .ok (.iconst 0, 1) := by decide +kernel
theorem dX10_isMissing_13 : decode cX10_isMissing 13 = .ok (.ireturn, 1) := by decide +kernel
theorem dX10_lay_0 : decode cX10_lay 0 = .ok (.aload_n 0, 1) := by decide +kernel
theorem dX10_lay_1 : decode cX10_lay 1 = .ok (.iload_n 1, 1) := by decide +kernel
theorem dX10_lay_2 : decode cX10_lay 2 = .ok (.putfield 15, 3) := by decide +kernel
theorem dX10_lay_5 : decode cX10_lay 5 = .ok (.aload_n 0, 1) := by decide +kernel
theorem dX10_lay_6 : decode cX10_lay 6 = .ok (.iload_n 2, 1) := by decide +kernel
theorem dX10_lay_7 : decode cX10_lay 7 = .ok (.bipush 60, 2) := by decide +kernel
theorem dX10_lay_9 : decode cX10_lay 9 = .ok (.invokestatic 19, 3) := by decide +kernel
theorem dX10_lay_12 : decode cX10_lay 12 = .ok (.putfield 25, 3) := by decide +kernel
theorem dX10_lay_15 : decode cX10_lay 15 = .ok (.iconst 0, 1) := by decide +kernel
theorem dX10_lay_16 : decode cX10_lay 16 = .ok (.istore_n 3, 1) := by decide +kernel
theorem dX10_lay_17 : decode cX10_lay 17 = .ok (.iload_n 3, 1) := by decide +kernel
theorem dX10_lay_18 : decode cX10_lay 18 = .ok (.bipush 60, 2) := by decide +kernel
theorem dX10_lay_20 : decode cX10_lay 20 = .ok (.if_icmp .ge 16, 3) := by decide +kernel
theorem dX10_lay_23 : decode cX10_lay 23 = .ok (.aload_n 0, 1) := by decide +kernel
theorem dX10_lay_24 : decode cX10_lay 24 = .ok (.getfield 9, 3) := by decide +kernel
theorem dX10_lay_27 : decode cX10_lay 27 = .ok (.iload_n 3, 1) := by decide +kernel
theorem dX10_lay_28 : decode cX10_lay 28 = .ok (.lconst 0, 1) := by decide +kernel
theorem dX10_lay_29 : decode cX10_lay 29 = .ok (.lastore, 1) := by decide +kernel
theorem dX10_lay_30 : decode cX10_lay 30 = .ok (.iinc 3 1, 3) := by decide +kernel
theorem dX10_lay_33 : decode cX10_lay 33 = .ok (.goto (-16), 3) := by decide +kernel
theorem dX10_lay_36 : decode cX10_lay 36 = .ok (.return_, 1) := by decide +kernel
theorem dX10_hasRun_0 : decode cX10_hasRun 0 = .ok (.iload_n 1, 1) := by decide +kernel
theorem dX10_hasRun_1 : decode cX10_hasRun 1 = .ok (.ifCond .lt 25, 3) := by decide +kernel
theorem dX10_hasRun_4 : decode cX10_hasRun 4 = .ok (.iload_n 2, 1) := by decide +kernel
theorem dX10_hasRun_5 : decode cX10_hasRun 5 = .ok (.ifCond .lt 21, 3) := by decide +kernel
theorem dX10_hasRun_8 : decode cX10_hasRun 8 = .ok (.iload_n 1, 1) := by decide +kernel
theorem dX10_hasRun_9 : decode cX10_hasRun 9 = .ok (.i2l, 1) := by decide +kernel
theorem dX10_hasRun_10 : decode cX10_hasRun 10 = .ok (.iload_n 2, 1) := by decide +kernel
theorem dX10_hasRun_11 : decode cX10_hasRun 11 = .ok (.i2l, 1) := by decide +kernel
theorem dX10_hasRun_12 : decode cX10_hasRun 12 = .ok (.ladd, 1) := by decide +kernel
theorem dX10_hasRun_13 : decode cX10_hasRun 13 = .ok (.aload_n 0, 1) := by decide +kernel
theorem dX10_hasRun_14 : decode cX10_hasRun 14 = .ok (.getfield 25, 3) := by decide +kernel
theorem dX10_hasRun_17 : decode cX10_hasRun 17 = .ok (.i2l, 1) := by decide +kernel
theorem dX10_hasRun_18 : decode cX10_hasRun 18 = .ok (.lcmp, 1) := by decide +kernel
theorem dX10_hasRun_19 : decode cX10_hasRun 19 = .ok (.ifCond .gt 7, 3) := by decide +kernel
theorem dX10_hasRun_22 : decode cX10_hasRun 22 = .ok (.iconst 1, 1) := by decide +kernel
theorem dX10_hasRun_23 : decode cX10_hasRun 23 = .ok (.goto 4, 3) := by decide +kernel
theorem dX10_hasRun_26 : decode cX10_hasRun 26 = .ok (.iconst 0, 1) := by decide +kernel
theorem dX10_hasRun_27 : decode cX10_hasRun 27 = .ok (.ireturn, 1) := by decide +kernel
theorem dX10_get_0 : decode cX10_get 0 = .ok (.aload_n 0, 1) := by decide +kernel
theorem dX10_get_1 : decode cX10_get 1 = .ok (.iload_n 1, 1) := by decide +kernel
theorem dX10_get_2 : decode cX10_get 2 = .ok (.iconst 1, 1) := by decide +kernel
theorem dX10_get_3 : decode cX10_get 3 = .ok (.invokevirtual 28, 3) := by decide +kernel
theorem dX10_get_6 : decode cX10_get 6 = .ok (.ifCond .eq 12, 3) := by decide +kernel
theorem dX10_get_9 : decode cX10_get 9 = .ok (.aload_n 0, 1) := by decide +kernel
theorem dX10_get_10 : decode cX10_get 10 = .ok (.getfield 9, 3) := by decide +kernel
theorem dX10_get_13 : decode cX10_get 13 = .ok (.iload_n 1, 1) := by decide +kernel
theorem dX10_get_14 : decode cX10_get 14 = .ok (.laload, 1) := by decide +kernel
theorem dX10_get_15 : decode cX10_get 15 = .ok (.goto 6, 3) := by decide +kernel
theorem dX10_get_18 : decode cX10_get 18 = .ok (.ldc2_w 32, 3) := by decide +kernel
theorem dX10_get_21 : decode cX10_get 21 = .ok (.lreturn, 1) := by decide +kernel
theorem dX10_put_0 : decode cX10_put 0 = .ok (.aload_n 0, 1) := by decide +kernel
theorem dX10_put_1 : decode cX10_put 1 = .ok (.iload_n 1, 1) := by decide +kernel
theorem dX10_put_2 : decode cX10_put 2 = .ok (.iconst 1, 1) := by decide +kernel
theorem dX10_put_3 : decode cX10_put 3 = .ok (.invokevirtual 28, 3) := by decide +kernel
theorem dX10_put_6 : decode cX10_put 6 = .ok (.ifCond .eq 14, 3) := by decide +kernel
theorem dX10_put_9 : decode cX10_put 9 = .ok (.aload_n 0, 1) := by decide +kernel
theorem dX10_put_10 : decode cX10_put 10 = .ok (.getfield 9, 3) := by decide +kernel
theorem dX10_put_13 : decode cX10_put 13 = .ok (.iload_n 1, 1) := by decide +kernel
theorem dX10_put_14 : decode cX10_put 14 = .ok (.aload_n 0, 1) := by decide +kernel
theorem dX10_put_15 : decode cX10_put 15 = .ok (.lload_n 2, 1) := by decide +kernel
theorem dX10_put_16 : decode cX10_put 16 = .ok (.invokevirtual 34, 3) := by decide +kernel
theorem dX10_put_19 : decode cX10_put 19 = .ok (.lastore, 1) := by decide +kernel
theorem dX10_put_20 : decode cX10_put 20 = .ok (.return_, 1) := by decide +kernel
theorem dX10_cut_0 : decode cX10_cut 0 = .ok (.aload_n 0, 1) := by decide +kernel
theorem dX10_cut_1 : decode cX10_cut 1 = .ok (.getfield 15, 3) := by decide +kernel
theorem dX10_cut_4 : decode cX10_cut 4 = .ok (.tableswitch 42 0 2 #[28, 33, 38], 28) := by decide +kernel
theorem dX10_cut_32 : decode cX10_cut 32 = .ok (.lload_n 1, 1) := by decide +kernel
theorem dX10_cut_33 : decode cX10_cut 33 = .ok (.l2i, 1) := by decide +kernel
theorem dX10_cut_34 : decode cX10_cut 34 = .ok (.i2b, 1) := by decide +kernel
theorem dX10_cut_35 : decode cX10_cut 35 = .ok (.i2l, 1) := by decide +kernel
theorem dX10_cut_36 : decode cX10_cut 36 = .ok (.lreturn, 1) := by decide +kernel
theorem dX10_cut_37 : decode cX10_cut 37 = .ok (.lload_n 1, 1) := by decide +kernel
theorem dX10_cut_38 : decode cX10_cut 38 = .ok (.l2i, 1) := by decide +kernel
theorem dX10_cut_39 : decode cX10_cut 39 = .ok (.i2s, 1) := by decide +kernel
theorem dX10_cut_40 : decode cX10_cut 40 = .ok (.i2l, 1) := by decide +kernel
theorem dX10_cut_41 : decode cX10_cut 41 = .ok (.lreturn, 1) := by decide +kernel
theorem dX10_cut_42 : decode cX10_cut 42 = .ok (.lload_n 1, 1) := by decide +kernel
theorem dX10_cut_43 : decode cX10_cut 43 = .ok (.l2i, 1) := by decide +kernel
theorem dX10_cut_44 : decode cX10_cut 44 = .ok (.i2l, 1) := by decide +kernel
theorem dX10_cut_45 : decode cX10_cut 45 = .ok (.lreturn, 1) := by decide +kernel
theorem dX10_cut_46 : decode cX10_cut 46 = .ok (.lload_n 1, 1) := by decide +kernel
theorem dX10_cut_47 : decode cX10_cut 47 = .ok (.lreturn, 1) := by decide +kernel
theorem dX10_holdsOnly_0 : decode cX10_holdsOnly 0 = .ok (.iload_n 1, 1) := by decide +kernel
theorem dX10_holdsOnly_1 : decode cX10_holdsOnly 1 = .ok (.aload_n 0, 1) := by decide +kernel
theorem dX10_holdsOnly_2 : decode cX10_holdsOnly 2 = .ok (.getfield 25, 3) := by decide +kernel
theorem dX10_holdsOnly_5 : decode cX10_holdsOnly 5 = .ok (.if_icmp .gt 7, 3) := by decide +kernel
theorem dX10_holdsOnly_8 : decode cX10_holdsOnly 8 = .ok (.iconst 1, 1) := by decide +kernel
theorem dX10_holdsOnly_9 : decode cX10_holdsOnly 9 = .ok (.goto 4, 3) := by decide +kernel
theorem dX10_holdsOnly_12 : decode cX10_holdsOnly 12 = .ok (.iconst 0, 1) := by decide +kernel
theorem dX10_holdsOnly_13 : decode cX10_holdsOnly 13 = .ok (.istore 4, 2) := by decide +kernel
theorem dX10_holdsOnly_15 : decode cX10_holdsOnly 15 = .ok (.iconst 0, 1) := by decide +kernel
theorem dX10_holdsOnly_16 : decode cX10_holdsOnly 16 = .ok (.istore 5, 2) := by decide +kernel
theorem dX10_holdsOnly_18 : decode cX10_holdsOnly 18 = .ok (.iload 4, 2) := by decide +kernel
theorem dX10_holdsOnly_20 : decode cX10_holdsOnly 20 = .ok (.ifCond .eq 31, 3) := by decide +kernel
theorem dX10_holdsOnly_23 : decode cX10_holdsOnly 23 = .ok (.iload 5, 2) := by decide +kernel
theorem dX10_holdsOnly_25 : decode cX10_holdsOnly 25 = .ok (.iload_n 1, 1) := by decide +kernel
theorem dX10_holdsOnly_26 : decode cX10_holdsOnly 26 = .ok (.if_icmp .ge 25, 3) := by decide +kernel
theorem dX10_holdsOnly_29 : decode cX10_holdsOnly 29 = .ok (.aload_n 0, 1) := by decide +kernel
theorem dX10_holdsOnly_30 : decode cX10_holdsOnly 30 = .ok (.getfield 9, 3) := by decide +kernel
theorem dX10_holdsOnly_33 : decode cX10_holdsOnly 33 = .ok (.iload 5, 2) := by decide +kernel
theorem dX10_holdsOnly_35 : decode cX10_holdsOnly 35 = .ok (.laload, 1) := by decide +kernel
theorem dX10_holdsOnly_36 : decode cX10_holdsOnly 36 = .ok (.iload_n 2, 1) := by decide +kernel
theorem dX10_holdsOnly_37 : decode cX10_holdsOnly 37 = .ok (.i2l, 1) := by decide +kernel
theorem dX10_holdsOnly_38 : decode cX10_holdsOnly 38 = .ok (.iload_n 3, 1) := by decide +kernel
theorem dX10_holdsOnly_39 : decode cX10_holdsOnly 39 = .ok (.i2l, 1) := by decide +kernel
theorem dX10_holdsOnly_40 : decode cX10_holdsOnly 40 = .ok (.invokestatic 38, 3) := by decide +kernel
theorem dX10_holdsOnly_43 : decode cX10_holdsOnly 43 = .ok (.istore 4, 2) := by decide +kernel
theorem dX10_holdsOnly_45 : decode cX10_holdsOnly 45 = .ok (.iinc 5 1, 3) := by decide +kernel
theorem dX10_holdsOnly_48 : decode cX10_holdsOnly 48 = .ok (.goto (-30), 3) := by decide +kernel
theorem dX10_holdsOnly_51 : decode cX10_holdsOnly 51 = .ok (.iload 4, 2) := by decide +kernel
theorem dX10_holdsOnly_53 : decode cX10_holdsOnly 53 = .ok (.ireturn, 1) := by decide +kernel
theorem dX11_init_0 : decode cX11_init 0 = .ok (.aload_n 0, 1) := by decide +kernel
theorem dX11_init_1 : decode cX11_init 1 = .ok (.invokespecial 1, 3) := by decide +kernel
theorem dX11_init_4 : decode cX11_init 4 = .ok (.aload_n 0, 1) := by decide +kernel
theorem dX11_init_5 : decode cX11_init 5 = .ok (.iconst 4, 1) := by decide +kernel
theorem dX11_init_6 : decode cX11_init 6 = .ok (.anewarray 7, 3) := by decide +kernel
theorem dX11_init_9 : decode cX11_init 9 = .ok (.dup, 1) := by decide +kernel
theorem dX11_init_10 : decode cX11_init 10 = .ok (.iconst 0, 1) := by decide +kernel
theorem dX11_init_11 : decode cX11_init 11 = .ok (.new 7, 3) := by decide +kernel
theorem dX11_init_14 : decode cX11_init 14 = .ok (.dup, 1) := by decide +kernel
theorem dX11_init_15 : decode cX11_init 15 = .ok (.invokespecial 9, 3) := by decide +kernel
theorem dX11_init_18 : decode cX11_init 18 = .ok (.aastore, 1) := by decide +kernel
theorem dX11_init_19 : decode cX11_init 19 = .ok (.dup, 1) := by decide +kernel
theorem dX11_init_20 : decode cX11_init 20 = .ok (.iconst 1, 1) := by decide +kernel
theorem dX11_init_21 : decode cX11_init 21 = .ok (.new 7, 3) := by decide +kernel
theorem dX11_init_24 : decode cX11_init 24 = .ok (.dup, 1) := by decide +kernel
theorem dX11_init_25 : decode cX11_init 25 = .ok (.invokespecial 9, 3) := by decide +kernel
theorem dX11_init_28 : decode cX11_init 28 = .ok (.aastore, 1) := by decide +kernel
theorem dX11_init_29 : decode cX11_init 29 = .ok (.dup, 1) := by decide +kernel
theorem dX11_init_30 : decode cX11_init 30 = .ok (.iconst 2, 1) := by decide +kernel
theorem dX11_init_31 : decode cX11_init 31 = .ok (.new 7, 3) := by decide +kernel
theorem dX11_init_34 : decode cX11_init 34 = .ok (.dup, 1) := by decide +kernel
theorem dX11_init_35 : decode cX11_init 35 = .ok (.invokespecial 9, 3) := by decide +kernel
theorem dX11_init_38 : decode cX11_init 38 = .ok (.aastore, 1) := by decide +kernel
theorem dX11_init_39 : decode cX11_init 39 = .ok (.dup, 1) := by decide +kernel
theorem dX11_init_40 : decode cX11_init 40 = .ok (.iconst 3, 1) := by decide +kernel
theorem dX11_init_41 : decode cX11_init 41 = .ok (.new 7, 3) := by decide +kernel
theorem dX11_init_44 : decode cX11_init 44 = .ok (.dup, 1) := by decide +kernel
theorem dX11_init_45 : decode cX11_init 45 = .ok (.invokespecial 9, 3) := by decide +kernel
theorem dX11_init_48 : decode cX11_init 48 = .ok (.aastore, 1) := by decide +kernel
theorem dX11_init_49 : decode cX11_init 49 = .ok (.putfield 10, 3) := by decide +kernel
theorem dX11_init_52 : decode cX11_init 52 = .ok (.aload_n 0, 1) := by decide +kernel
theorem dX11_init_53 : decode cX11_init 53 = .ok (.new 16, 3) := by decide +kernel
theorem dX11_init_56 : decode cX11_init 56 = .ok (.dup, 1) := by decide +kernel
theorem dX11_init_57 : decode cX11_init 57 = .ok (.invokespecial 18, 3) := by decide +kernel
theorem dX11_init_60 : decode cX11_init 60 = .ok (.putfield 19, 3) := by decide +kernel
theorem dX11_init_63 : decode cX11_init 63 = .ok (.aload_n 0, 1) := by decide +kernel
theorem dX11_init_64 : decode cX11_init 64 = .ok (.new 23, 3) := by decide +kernel
theorem dX11_init_67 : decode cX11_init 67 = .ok (.dup, 1) := by decide +kernel
theorem dX11_init_68 : decode cX11_init 68 = .ok (.aload_n 0, 1) := by decide +kernel
theorem dX11_init_69 : decode cX11_init 69 = .ok (.getfield 19, 3) := by decide +kernel
theorem dX11_init_72 : decode cX11_init 72 = .ok (.invokespecial 25, 3) := by decide +kernel
theorem dX11_init_75 : decode cX11_init 75 = .ok (.putfield 28, 3) := by decide +kernel
theorem dX11_init_78 : decode cX11_init 78 = .ok (.aload_n 0, 1) := by decide +kernel
theorem dX11_init_79 : decode cX11_init 79 = .ok (.new 32, 3) := by decide +kernel
theorem dX11_init_82 : decode cX11_init 82 = .ok (.dup, 1) := by decide +kernel
theorem dX11_init_83 : decode cX11_init 83 = .ok (.aload_n 0, 1) := by decide +kernel
theorem dX11_init_84 : decode cX11_init 84 = .ok (.getfield 19, 3) := by decide +kernel
theorem dX11_init_87 : decode cX11_init 87 = .ok (.invokespecial 34, 3) := by decide +kernel
theorem dX11_init_90 : decode cX11_init 90 = .ok (.putfield 35, 3) := by decide +kernel
theorem dX11_init_93 : decode cX11_init 93 = .ok (.aload_n 0, 1) := by decide +kernel
theorem dX11_init_94 : decode cX11_init 94 = .ok (.new 39, 3) := by decide +kernel
theorem dX11_init_97 : decode cX11_init 97 = .ok (.dup, 1) := by decide +kernel
theorem dX11_init_98 : decode cX11_init 98 = .ok (.invokespecial 41, 3) := by decide +kernel
theorem dX11_init_101 : decode cX11_init 101 = .ok (.putfield 42, 3) := by decide +kernel
theorem dX11_init_104 : decode cX11_init 104 = .ok (.aload_n 0, 1) := by decide +kernel
theorem dX11_init_105 : decode cX11_init 105 = .ok (.new 46, 3) := by decide +kernel
theorem dX11_init_108 : decode cX11_init 108 = .ok (.dup, 1) := by decide +kernel
theorem dX11_init_109 : decode cX11_init 109 = .ok (.invokespecial 48, 3) := by decide +kernel
theorem dX11_init_112 : decode cX11_init 112 = .ok (.putfield 49, 3) := by decide +kernel
theorem dX11_init_115 : decode cX11_init 115 = .ok (.aload_n 0, 1) := by decide +kernel
theorem dX11_init_116 : decode cX11_init 116 = .ok (.iconst 3, 1) := by decide +kernel
theorem dX11_init_117 : decode cX11_init 117 = .ok (.anewarray 53, 3) := by decide +kernel
theorem dX11_init_120 : decode cX11_init 120 = .ok (.dup, 1) := by decide +kernel
theorem dX11_init_121 : decode cX11_init 121 = .ok (.iconst 0, 1) := by decide +kernel
theorem dX11_init_122 : decode cX11_init 122 = .ok (.new 53, 3) := by decide +kernel
theorem dX11_init_125 : decode cX11_init 125 = .ok (.dup, 1) := by decide +kernel
theorem dX11_init_126 : decode cX11_init 126 = .ok (.aload_n 0, 1) := by decide +kernel
theorem dX11_init_127 : decode cX11_init 127 = .ok (.getfield 42, 3) := by decide +kernel
theorem dX11_init_130 : decode cX11_init 130 = .ok (.aload_n 0, 1) := by decide +kernel
theorem dX11_init_131 : decode cX11_init 131 = .ok (.getfield 49, 3) := by decide +kernel
theorem dX11_init_134 : decode cX11_init 134 = .ok (.invokespecial 55, 3) := by decide +kernel
theorem dX11_init_137 : decode cX11_init 137 = .ok (.aastore, 1) := by decide +kernel
theorem dX11_init_138 : decode cX11_init 138 = .ok (.dup, 1) := by decide +kernel
theorem dX11_init_139 : decode cX11_init 139 = .ok (.iconst 1, 1) := by decide +kernel
theorem dX11_init_140 : decode cX11_init 140 = .ok (.new 53, 3) := by decide +kernel
theorem dX11_init_143 : decode cX11_init 143 = .ok (.dup, 1) := by decide +kernel
theorem dX11_init_144 : decode cX11_init 144 = .ok (.aload_n 0, 1) := by decide +kernel
theorem dX11_init_145 : decode cX11_init 145 = .ok (.getfield 42, 3) := by decide +kernel
theorem dX11_init_148 : decode cX11_init 148 = .ok (.aload_n 0, 1) := by decide +kernel
theorem dX11_init_149 : decode cX11_init 149 = .ok (.getfield 49, 3) := by decide +kernel
theorem dX11_init_152 : decode cX11_init 152 = .ok (.invokespecial 55, 3) := by decide +kernel
theorem dX11_init_155 : decode cX11_init 155 = .ok (.aastore, 1) := by decide +kernel
theorem dX11_init_156 : decode cX11_init 156 = .ok (.dup, 1) := by decide +kernel
theorem dX11_init_157 : decode cX11_init 157 = .ok (.iconst 2, 1) := by decide +kernel
theorem dX11_init_158 : decode cX11_init 158 = .ok (.new 53, 3) := by decide +kernel
theorem dX11_init_161 : decode cX11_init 161 = .ok (.dup, 1) := by decide +kernel
theorem dX11_init_162 : decode cX11_init 162 = .ok (.aload_n 0, 1) := by decide +kernel
theorem dX11_init_163 : decode cX11_init 163 = .ok (.getfield 42, 3) := by decide +kernel
theorem dX11_init_166 : decode cX11_init 166 = .ok (.aload_n 0, 1) := by decide +kernel
theorem dX11_init_167 : decode cX11_init 167 = .ok (.getfield 49, 3) := by decide +kernel
theorem dX11_init_170 : decode cX11_init 170 = .ok (.invokespecial 55, 3) := by decide +kernel
theorem dX11_init_173 : decode cX11_init 173 = .ok (.aastore, 1) := by decide +kernel
theorem dX11_init_174 : decode cX11_init 174 = .ok (.putfield 58, 3) := by decide +kernel
theorem dX11_init_177 : decode cX11_init 177 = .ok (.aload_n 0, 1) := by decide +kernel
theorem dX11_init_178 : decode cX11_init 178 = .ok (.bipush 8, 2) := by decide +kernel
theorem dX11_init_180 : decode cX11_init 180 = .ok (.anewarray 62, 3) := by decide +kernel
theorem dX11_init_183 : decode cX11_init 183 = .ok (.putfield 64, 3) := by decide +kernel
theorem dX11_init_186 : decode cX11_init 186 = .ok (.iconst 0, 1) := by decide +kernel
theorem dX11_init_187 : decode cX11_init 187 = .ok (.istore_n 1, 1) := by decide +kernel
theorem dX11_init_188 : decode cX11_init 188 = .ok (.iload_n 1, 1) := by decide +kernel
theorem dX11_init_189 : decode cX11_init 189 = .ok (.bipush 8, 2) := by decide +kernel
theorem dX11_init_191 : decode cX11_init 191 = .ok (.if_icmp .ge 25, 3) := by decide +kernel
theorem dX11_init_194 : decode cX11_init 194 = .ok (.aload_n 0, 1) := by decide +kernel
theorem dX11_init_195 : decode cX11_init 195 = .ok (.getfield 64, 3) := by decide +kernel
theorem dX11_init_198 : decode cX11_init 198 = .ok (.iload_n 1, 1) := by decide +kernel
theorem dX11_init_199 : decode cX11_init 199 = .ok (.new 62, 3) := by decide +kernel
theorem dX11_init_202 : decode cX11_init 202 = .ok (.dup, 1) := by decide +kernel
theorem dX11_init_203 : decode cX11_init 203 = .ok (.iconst 0, 1) := by decide +kernel
theorem dX11_init_204 : decode cX11_init 204 = .ok (.newarray .int, 2) := by decide +kernel
theorem dX11_init_206 : decode cX11_init 206 = .ok (.invokespecial 68, 3) := by decide +kernel
theorem dX11_init_209 : decode cX11_init 209 = .ok (.aastore, 1) := by decide +kernel
theorem dX11_init_210 : decode cX11_init 210 = .ok (.iinc 1 1, 3) := by decide +kernel
theorem dX11_init_213 : decode cX11_init 213 = .ok (.goto (-25), 3) := by decide +kernel
theorem dX11_init_216 : decode cX11_init 216 = .ok (.aload_n 0, 1) := by decide +kernel
theorem dX11_init_217 : decode cX11_init 217 = .ok (.new 62, 3) := by decide +kernel
theorem dX11_init_220 : decode cX11_init 220 = .ok (.dup, 1) := by decide +kernel
theorem dX11_init_221 : decode cX11_init 221 = .ok (.iconst 0, 1) := by decide +kernel
theorem dX11_init_222 : decode cX11_init 222 = .ok (.newarray .int, 2) := by decide +kernel
theorem dX11_init_224 : decode cX11_init 224 = .ok (.invokespecial 68, 3) := by decide +kernel
theorem dX11_init_227 : decode cX11_init 227 = .ok (.putfield 71, 3) := by decide +kernel
theorem dX11_init_230 : decode cX11_init 230 = .ok (.aload_n 0, 1) := by decide +kernel
theorem dX11_init_231 : decode cX11_init 231 = .ok (.new 62, 3) := by decide +kernel
theorem dX11_init_234 : decode cX11_init 234 = .ok (.dup, 1) := by decide +kernel
theorem dX11_init_235 : decode cX11_init 235 = .ok (.bipush 31, 2) := by decide +kernel
theorem dX11_init_237 : decode cX11_init 237 = .ok (.newarray .int, 2) := by decide +kernel
theorem dX11_init_239 : decode cX11_init 239 = .ok (.invokespecial 68, 3) := by decide +kernel
theorem dX11_init_242 : decode cX11_init 242 = .ok (.putfield 75, 3) := by decide +kernel
theorem dX11_init_245 : decode cX11_init 245 = .ok (.aload_n 0, 1) := by decide +kernel
theorem dX11_init_246 : decode cX11_init 246 = .ok (.bipush 27, 2) := by decide +kernel
theorem dX11_init_248 : decode cX11_init 248 = .ok (.newarray .int, 2) := by decide +kernel
theorem dX11_init_250 : decode cX11_init 250 = .ok (.putfield 78, 3) := by decide +kernel
theorem dX11_init_253 : decode cX11_init 253 = .ok (.aload_n 0, 1) := by decide +kernel
theorem dX11_init_254 : decode cX11_init 254 = .ok (.bipush 8, 2) := by decide +kernel
theorem dX11_init_256 : decode cX11_init 256 = .ok (.newarray .int, 2) := by decide +kernel
theorem dX11_init_258 : decode cX11_init 258 = .ok (.putfield 82, 3) := by decide +kernel
theorem dX11_init_261 : decode cX11_init 261 = .ok (.aload_n 0, 1) := by decide +kernel
theorem dX11_init_262 : decode cX11_init 262 = .ok (.bipush 8, 2) := by decide +kernel
theorem dX11_init_264 : decode cX11_init 264 = .ok (.newarray .int, 2) := by decide +kernel
theorem dX11_init_266 : decode cX11_init 266 = .ok (.putfield 85, 3) := by decide +kernel
theorem dX11_init_269 : decode cX11_init 269 = .ok (.aload_n 0, 1) := by decide +kernel
theorem dX11_init_270 : decode cX11_init 270 = .ok (.new 88, 3) := by decide +kernel
theorem dX11_init_273 : decode cX11_init 273 = .ok (.dup, 1) := by decide +kernel
theorem dX11_init_274 : decode cX11_init 274 = .ok (.invokespecial 90, 3) := by decide +kernel
theorem dX11_init_277 : decode cX11_init 277 = .ok (.putfield 91, 3) := by decide +kernel
theorem dX11_init_280 : decode cX11_init 280 = .ok (.aload_n 0, 1) := by decide +kernel
theorem dX11_init_281 : decode cX11_init 281 = .ok (.new 95, 3) := by decide +kernel
theorem dX11_init_284 : decode cX11_init 284 = .ok (.dup, 1) := by decide +kernel
theorem dX11_init_285 : decode cX11_init 285 = .ok (.invokespecial 97, 3) := by decide +kernel
theorem dX11_init_288 : decode cX11_init 288 = .ok (.putfield 98, 3) := by decide +kernel
theorem dX11_init_291 : decode cX11_init 291 = .ok (.aload_n 0, 1) := by decide +kernel
theorem dX11_init_292 : decode cX11_init 292 = .ok (.lconst 1, 1) := by decide +kernel
theorem dX11_init_293 : decode cX11_init 293 = .ok (.putfield 102, 3) := by decide +kernel
theorem dX11_init_296 : decode cX11_init 296 = .ok (.return_, 1) := by decide +kernel
theorem dX11_status_0 : decode cX11_status 0 = .ok (.aload_n 0, 1) := by decide +kernel
theorem dX11_status_1 : decode cX11_status 1 = .ok (.getfield 106, 3) := by decide +kernel
theorem dX11_status_4 : decode cX11_status 4 = .ok (.ireturn, 1) := by decide +kernel
theorem dX11_top_0 : decode cX11_top 0 = .ok (.aload_n 0, 1) := by decide +kernel
theorem dX11_top_1 : decode cX11_top 1 = .ok (.getfield 110, 3) := by decide +kernel
theorem dX11_top_4 : decode cX11_top 4 = .ok (.lreturn, 1) := by decide +kernel
theorem dX11_bottom_0 : decode cX11_bottom 0 = .ok (.aload_n 0, 1) := by decide +kernel
theorem dX11_bottom_1 : decode cX11_bottom 1 = .ok (.getfield 102, 3) := by decide +kernel
theorem dX11_bottom_4 : decode cX11_bottom 4 = .ok (.lreturn, 1) := by decide +kernel
theorem dX11_tray_0 : decode cX11_tray 0 = .ok (.iload_n 1, 1) := by decide +kernel
theorem dX11_tray_1 : decode cX11_tray 1 = .ok (.invokestatic 113, 3) := by decide +kernel
theorem dX11_tray_4 : decode cX11_tray 4 = .ok (.ifCond .eq 15, 3) := by decide +kernel
theorem dX11_tray_7 : decode cX11_tray 7 = .ok (.iload_n 2, 1) := by decide +kernel
theorem dX11_tray_8 : decode cX11_tray 8 = .ok (.i2l, 1) := by decide +kernel
theorem dX11_tray_9 : decode cX11_tray 9 = .ok (.lconst 0, 1) := by decide +kernel
theorem dX11_tray_10 : decode cX11_tray 10 = .ok (.ldc2_w 117, 3) := by decide +kernel
theorem dX11_tray_13 : decode cX11_tray 13 = .ok (.invokestatic 119, 3) := by decide +kernel
theorem dX11_tray_16 : decode cX11_tray 16 = .ok (.ifCond .ne 9, 3) := by decide +kernel
theorem dX11_tray_19 : decode cX11_tray 19 = .ok (.aload_n 0, 1) := by decide +kernel
theorem dX11_tray_20 : decode cX11_tray 20 = .ok (.iconst 1, 1) := by decide +kernel
theorem dX11_tray_21 : decode cX11_tray 21 = .ok (.invokevirtual 123, 3) := by decide +kernel
theorem dX11_tray_24 : decode cX11_tray 24 = .ok (.ireturn, 1) := by decide +kernel
theorem dX11_tray_25 : decode cX11_tray 25 = .ok (.iload_n 3, 1) := by decide +kernel
theorem dX11_tray_26 : decode cX11_tray 26 = .ok (.bipush 60, 2) := by decide +kernel
theorem dX11_tray_28 : decode cX11_tray 28 = .ok (.if_icmp .le 9, 3) := by decide +kernel
theorem dX11_tray_31 : decode cX11_tray 31 = .ok (.aload_n 0, 1) := by decide +kernel
theorem dX11_tray_32 : decode cX11_tray 32 = .ok (.iconst 5, 1) := by decide +kernel
theorem dX11_tray_33 : decode cX11_tray 33 = .ok (.invokevirtual 123, 3) := by decide +kernel
theorem dX11_tray_36 : decode cX11_tray 36 = .ok (.ireturn, 1) := by decide +kernel
theorem dX11_tray_37 : decode cX11_tray 37 = .ok (.iload_n 3, 1) := by decide +kernel
theorem dX11_tray_38 : decode cX11_tray 38 = .ok (.ifCond .ge 10, 3) := by decide +kernel
theorem dX11_tray_41 : decode cX11_tray 41 = .ok (.aload_n 0, 1) := by decide +kernel
theorem dX11_tray_42 : decode cX11_tray 42 = .ok (.bipush 6, 2) := by decide +kernel
theorem dX11_tray_44 : decode cX11_tray 44 = .ok (.invokevirtual 123, 3) := by decide +kernel
theorem dX11_tray_47 : decode cX11_tray 47 = .ok (.ireturn, 1) := by decide +kernel
theorem dX11_tray_48 : decode cX11_tray 48 = .ok (.aload_n 0, 1) := by decide +kernel
theorem dX11_tray_49 : decode cX11_tray 49 = .ok (.getfield 10, 3) := by decide +kernel
theorem dX11_tray_52 : decode cX11_tray 52 = .ok (.iload_n 1, 1) := by decide +kernel
theorem dX11_tray_53 : decode cX11_tray 53 = .ok (.aaload, 1) := by decide +kernel
theorem dX11_tray_54 : decode cX11_tray 54 = .ok (.iload_n 2, 1) := by decide +kernel
theorem dX11_tray_55 : decode cX11_tray 55 = .ok (.iload_n 3, 1) := by decide +kernel
theorem dX11_tray_56 : decode cX11_tray 56 = .ok (.invokevirtual 126, 3) := by decide +kernel
theorem dX11_tray_59 : decode cX11_tray 59 = .ok (.aload_n 0, 1) := by decide +kernel
theorem dX11_tray_60 : decode cX11_tray 60 = .ok (.invokevirtual 130, 3) := by decide +kernel
theorem dX11_tray_63 : decode cX11_tray 63 = .ok (.ireturn, 1) := by decide +kernel
theorem dX11_write_0 : decode cX11_write 0 = .ok (.aload_n 0, 1) := by decide +kernel
theorem dX11_write_1 : decode cX11_write 1 = .ok (.iload_n 1, 1) := by decide +kernel
theorem dX11_write_2 : decode cX11_write 2 = .ok (.iload_n 2, 1) := by decide +kernel
theorem dX11_write_3 : decode cX11_write 3 = .ok (.invokevirtual 134, 3) := by decide +kernel
theorem dX11_write_6 : decode cX11_write 6 = .ok (.istore 5, 2) := by decide +kernel
theorem dX11_write_8 : decode cX11_write 8 = .ok (.iload 5, 2) := by decide +kernel
theorem dX11_write_10 : decode cX11_write 10 = .ok (.ifCond .eq 10, 3) := by decide +kernel
theorem dX11_write_13 : decode cX11_write 13 = .ok (.aload_n 0, 1) := by decide +kernel
theorem dX11_write_14 : decode cX11_write 14 = .ok (.iload 5, 2) := by decide +kernel
theorem dX11_write_16 : decode cX11_write 16 = .ok (.invokevirtual 123, 3) := by decide +kernel
theorem dX11_write_19 : decode cX11_write 19 = .ok (.ireturn, 1) := by decide +kernel
theorem dX11_write_20 : decode cX11_write 20 = .ok (.aload_n 0, 1) := by decide +kernel
theorem dX11_write_21 : decode cX11_write 21 = .ok (.getfield 10, 3) := by decide +kernel
theorem dX11_write_24 : decode cX11_write 24 = .ok (.iload_n 1, 1) := by decide +kernel
theorem dX11_write_25 : decode cX11_write 25 = .ok (.aaload, 1) := by decide +kernel
theorem dX11_write_26 : decode cX11_write 26 = .ok (.iload_n 2, 1) := by decide +kernel
theorem dX11_write_27 : decode cX11_write 27 = .ok (.lload_n 3, 1) := by decide +kernel
theorem dX11_write_28 : decode cX11_write 28 = .ok (.invokevirtual 138, 3) := by decide +kernel
theorem dX11_write_31 : decode cX11_write 31 = .ok (.aload_n 0, 1) := by decide +kernel
theorem dX11_write_32 : decode cX11_write 32 = .ok (.invokevirtual 130, 3) := by decide +kernel
theorem dX11_write_35 : decode cX11_write 35 = .ok (.ireturn, 1) := by decide +kernel
theorem dX11_read_0 : decode cX11_read 0 = .ok (.aload_n 0, 1) := by decide +kernel
theorem dX11_read_1 : decode cX11_read 1 = .ok (.iload_n 1, 1) := by decide +kernel
theorem dX11_read_2 : decode cX11_read 2 = .ok (.iload_n 2, 1) := by decide +kernel
theorem dX11_read_3 : decode cX11_read 3 = .ok (.invokevirtual 134, 3) := by decide +kernel
theorem dX11_read_6 : decode cX11_read 6 = .ok (.istore_n 3, 1) := by decide +kernel
theorem dX11_read_7 : decode cX11_read 7 = .ok (.iload_n 3, 1) := by decide +kernel
theorem dX11_read_8 : decode cX11_read 8 = .ok (.ifCond .eq 10, 3) := by decide +kernel
theorem dX11_read_11 : decode cX11_read 11 = .ok (.aload_n 0, 1) := by decide +kernel
theorem dX11_read_12 : decode cX11_read 12 = .ok (.iload_n 3, 1) := by decide +kernel
theorem dX11_read_13 : decode cX11_read 13 = .ok (.invokevirtual 142, 3) := by decide +kernel
theorem dX11_read_16 : decode cX11_read 16 = .ok (.i2l, 1) := by decide +kernel
theorem dX11_read_17 : decode cX11_read 17 = .ok (.lreturn, 1) := by decide +kernel
theorem dX11_read_18 : decode cX11_read 18 = .ok (.aload_n 0, 1) := by decide +kernel
theorem dX11_read_19 : decode cX11_read 19 = .ok (.iconst 0, 1) := by decide +kernel
theorem dX11_read_20 : decode cX11_read 20 = .ok (.putfield 106, 3) := by decide +kernel
theorem dX11_read_23 : decode cX11_read 23 = .ok (.aload_n 0, 1) := by decide +kernel
theorem dX11_read_24 : decode cX11_read 24 = .ok (.getfield 10, 3) := by decide +kernel
theorem dX11_read_27 : decode cX11_read 27 = .ok (.iload_n 1, 1) := by decide +kernel
theorem dX11_read_28 : decode cX11_read 28 = .ok (.aaload, 1) := by decide +kernel
theorem dX11_read_29 : decode cX11_read 29 = .ok (.iload_n 2, 1) := by decide +kernel
theorem dX11_read_30 : decode cX11_read 30 = .ok (.invokevirtual 146, 3) := by decide +kernel
theorem dX11_read_33 : decode cX11_read 33 = .ok (.lreturn, 1) := by decide +kernel
theorem dX11_pour_0 : decode cX11_pour 0 = .ok (.iload_n 1, 1) := by decide +kernel
theorem dX11_pour_1 : decode cX11_pour 1 = .ok (.invokestatic 113, 3) := by decide +kernel
theorem dX11_pour_4 : decode cX11_pour 4 = .ok (.ifCond .eq 10, 3) := by decide +kernel
theorem dX11_pour_7 : decode cX11_pour 7 = .ok (.iload_n 3, 1) := by decide +kernel
theorem dX11_pour_8 : decode cX11_pour 8 = .ok (.invokestatic 113, 3) := by decide +kernel
theorem dX11_pour_11 : decode cX11_pour 11 = .ok (.ifCond .ne 9, 3) := by decide +kernel
theorem dX11_pour_14 : decode cX11_pour 14 = .ok (.aload_n 0, 1) := by decide +kernel
theorem dX11_pour_15 : decode cX11_pour 15 = .ok (.iconst 1, 1) := by decide +kernel
theorem dX11_pour_16 : decode cX11_pour 16 = .ok (.invokevirtual 123, 3) := by decide +kernel
theorem dX11_pour_19 : decode cX11_pour 19 = .ok (.ireturn, 1) := by decide +kernel
theorem dX11_pour_20 : decode cX11_pour 20 = .ok (.aload_n 0, 1) := by decide +kernel
theorem dX11_pour_21 : decode cX11_pour 21 = .ok (.getfield 10, 3) := by decide +kernel
theorem dX11_pour_24 : decode cX11_pour 24 = .ok (.iload_n 1, 1) := by decide +kernel
theorem dX11_pour_25 : decode cX11_pour 25 = .ok (.aaload, 1) := by decide +kernel
theorem dX11_pour_26 : decode cX11_pour 26 = .ok (.astore 6, 2) := by decide +kernel
theorem dX11_pour_28 : decode cX11_pour 28 = .ok (.aload_n 0, 1) := by decide +kernel
theorem dX11_pour_29 : decode cX11_pour 29 = .ok (.getfield 10, 3) := by decide +kernel
theorem dX11_pour_32 : decode cX11_pour 32 = .ok (.iload_n 3, 1) := by decide +kernel
theorem dX11_pour_33 : decode cX11_pour 33 = .ok (.aaload, 1) := by decide +kernel
theorem dX11_pour_34 : decode cX11_pour 34 = .ok (.astore 7, 2) := by decide +kernel
theorem dX11_pour_36 : decode cX11_pour 36 = .ok (.aload 6, 2) := by decide +kernel
theorem dX11_pour_38 : decode cX11_pour 38 = .ok (.invokevirtual 150, 3) := by decide +kernel
theorem dX11_pour_41 : decode cX11_pour 41 = .ok (.ifCond .ne 11, 3) := by decide +kernel
theorem dX11_pour_44 : decode cX11_pour 44 = .ok (.aload 7, 2) := by decide +kernel
theorem dX11_pour_46 : decode cX11_pour 46 = .ok (.invokevirtual 150, 3) := by decide +kernel
theorem dX11_pour_49 : decode cX11_pour 49 = .ok (.ifCond .eq 9, 3) := by decide +kernel
theorem dX11_pour_52 : decode cX11_pour 52 = .ok (.aload_n 0, 1) := by decide +kernel
theorem dX11_pour_53 : decode cX11_pour 53 = .ok (.iconst 3, 1) := by decide +kernel
theorem dX11_pour_54 : decode cX11_pour 54 = .ok (.invokevirtual 123, 3) := by decide +kernel
theorem dX11_pour_57 : decode cX11_pour 57 = .ok (.ireturn, 1) := by decide +kernel
theorem dX11_pour_58 : decode cX11_pour 58 = .ok (.aload 6, 2) := by decide +kernel
theorem dX11_pour_60 : decode cX11_pour 60 = .ok (.getfield 153, 3) := by decide +kernel
theorem dX11_pour_63 : decode cX11_pour 63 = .ok (.aload 7, 2) := by decide +kernel
theorem dX11_pour_65 : decode cX11_pour 65 = .ok (.getfield 153, 3) := by decide +kernel
theorem dX11_pour_68 : decode cX11_pour 68 = .ok (.if_icmp .eq 10, 3) := by decide +kernel
theorem dX11_pour_71 : decode cX11_pour 71 = .ok (.aload_n 0, 1) := by decide +kernel
theorem dX11_pour_72 : decode cX11_pour 72 = .ok (.bipush 11, 2) := by decide +kernel
theorem dX11_pour_74 : decode cX11_pour 74 = .ok (.invokevirtual 123, 3) := by decide +kernel
theorem dX11_pour_77 : decode cX11_pour 77 = .ok (.ireturn, 1) := by decide +kernel
theorem dX11_pour_78 : decode cX11_pour 78 = .ok (.iload 5, 2) := by decide +kernel
theorem dX11_pour_80 : decode cX11_pour 80 = .ok (.ifCond .ge 10, 3) := by decide +kernel
theorem dX11_pour_83 : decode cX11_pour 83 = .ok (.aload_n 0, 1) := by decide +kernel
theorem dX11_pour_84 : decode cX11_pour 84 = .ok (.bipush 6, 2) := by decide +kernel
theorem dX11_pour_86 : decode cX11_pour 86 = .ok (.invokevirtual 123, 3) := by decide +kernel
theorem dX11_pour_89 : decode cX11_pour 89 = .ok (.ireturn, 1) := by decide +kernel
theorem dX11_pour_90 : decode cX11_pour 90 = .ok (.aload 6, 2) := by decide +kernel
theorem dX11_pour_92 : decode cX11_pour 92 = .ok (.iload_n 2, 1) := by decide +kernel
theorem dX11_pour_93 : decode cX11_pour 93 = .ok (.iload 5, 2) := by decide +kernel
theorem dX11_pour_95 : decode cX11_pour 95 = .ok (.invokevirtual 156, 3) := by decide +kernel
theorem dX11_pour_98 : decode cX11_pour 98 = .ok (.ifCond .eq 15, 3) := by decide +kernel
theorem dX11_pour_101 : decode cX11_pour 101 = .ok (.aload 7, 2) := by decide +kernel
theorem dX11_pour_103 : decode cX11_pour 103 = .ok (.iload 4, 2) := by decide +kernel
theorem dX11_pour_105 : decode cX11_pour 105 = .ok (.iload 5, 2) := by decide +kernel
theorem dX11_pour_107 : decode cX11_pour 107 = .ok (.invokevirtual 156, 3) := by decide +kernel
theorem dX11_pour_110 : decode cX11_pour 110 = .ok (.ifCond .ne 9, 3) := by decide +kernel
theorem dX11_pour_113 : decode cX11_pour 113 = .ok (.aload_n 0, 1) := by decide +kernel
theorem dX11_pour_114 : decode cX11_pour 114 = .ok (.iconst 4, 1) := by decide +kernel
theorem dX11_pour_115 : decode cX11_pour 115 = .ok (.invokevirtual 123, 3) := by decide +kernel
theorem dX11_pour_118 : decode cX11_pour 118 = .ok (.ireturn, 1) := by decide +kernel
theorem dX11_pour_119 : decode cX11_pour 119 = .ok (.aload 6, 2) := by decide +kernel
theorem dX11_pour_121 : decode cX11_pour 121 = .ok (.getfield 160, 3) := by decide +kernel
theorem dX11_pour_124 : decode cX11_pour 124 = .ok (.iload_n 2, 1) := by decide +kernel
theorem dX11_pour_125 : decode cX11_pour 125 = .ok (.aload 7, 2) := by decide +kernel
theorem dX11_pour_127 : decode cX11_pour 127 = .ok (.getfield 160, 3) := by decide +kernel
theorem dX11_pour_130 : decode cX11_pour 130 = .ok (.iload 4, 2) := by decide +kernel
theorem dX11_pour_132 : decode cX11_pour 132 = .ok (.iload 5, 2) := by decide +kernel
theorem dX11_pour_134 : decode cX11_pour 134 = .ok (.invokestatic 164, 3) := by decide +kernel
theorem dX11_pour_137 : decode cX11_pour 137 = .ok (.aload_n 0, 1) := by decide +kernel
theorem dX11_pour_138 : decode cX11_pour 138 = .ok (.invokevirtual 130, 3) := by decide +kernel
theorem dX11_pour_141 : decode cX11_pour 141 = .ok (.ireturn, 1) := by decide +kernel
theorem dX11_feed_0 : decode cX11_feed 0 = .ok (.aload_n 0, 1) := by decide +kernel
theorem dX11_feed_1 : decode cX11_feed 1 = .ok (.getfield 19, 3) := by decide +kernel
theorem dX11_feed_4 : decode cX11_feed 4 = .ok (.bipush 20, 2) := by decide +kernel
theorem dX11_feed_6 : decode cX11_feed 6 = .ok (.invokevirtual 170, 3) := by decide +kernel
theorem dX11_feed_9 : decode cX11_feed 9 = .ok (.ifCond .ne 5, 3) := by decide +kernel
theorem dX11_feed_12 : decode cX11_feed 12 = .ok (.iconst (-1), 1) := by decide +kernel
theorem dX11_feed_13 : decode cX11_feed 13 = .ok (.ireturn, 1) := by decide +kernel
theorem dX11_feed_14 : decode cX11_feed 14 = .ok (.aload_n 0, 1) := by decide +kernel
theorem dX11_feed_15 : decode cX11_feed 15 = .ok (.getfield 19, 3) := by decide +kernel
theorem dX11_feed_18 : decode cX11_feed 18 = .ok (.iload_n 1, 1) := by decide +kernel
theorem dX11_feed_19 : decode cX11_feed 19 = .ok (.invokevirtual 173, 3) := by decide +kernel
theorem dX11_feed_22 : decode cX11_feed 22 = .ok (.aload_n 0, 1) := by decide +kernel
theorem dX11_feed_23 : decode cX11_feed 23 = .ok (.getfield 19, 3) := by decide +kernel
theorem dX11_feed_26 : decode cX11_feed 26 = .ok (.iload_n 2, 1) := by decide +kernel
theorem dX11_feed_27 : decode cX11_feed 27 = .ok (.invokevirtual 173, 3) := by decide +kernel
theorem dX11_feed_30 : decode cX11_feed 30 = .ok (.aload_n 0, 1) := by decide +kernel
theorem dX11_feed_31 : decode cX11_feed 31 = .ok (.getfield 19, 3) := by decide +kernel
theorem dX11_feed_34 : decode cX11_feed 34 = .ok (.iload_n 3, 1) := by decide +kernel
theorem dX11_feed_35 : decode cX11_feed 35 = .ok (.invokevirtual 173, 3) := by decide +kernel
theorem dX11_feed_38 : decode cX11_feed 38 = .ok (.aload_n 0, 1) := by decide +kernel
theorem dX11_feed_39 : decode cX11_feed 39 = .ok (.getfield 19, 3) := by decide +kernel
theorem dX11_feed_42 : decode cX11_feed 42 = .ok (.iload 4, 2) := by decide +kernel
theorem dX11_feed_44 : decode cX11_feed 44 = .ok (.invokevirtual 173, 3) := by decide +kernel
theorem dX11_feed_47 : decode cX11_feed 47 = .ok (.aload_n 0, 1) := by decide +kernel
theorem dX11_feed_48 : decode cX11_feed 48 = .ok (.getfield 19, 3) := by decide +kernel
theorem dX11_feed_51 : decode cX11_feed 51 = .ok (.iload 5, 2) := by decide +kernel
theorem dX11_feed_53 : decode cX11_feed 53 = .ok (.invokevirtual 173, 3) := by decide +kernel
theorem dX11_feed_56 : decode cX11_feed 56 = .ok (.aload_n 0, 1) := by decide +kernel
theorem dX11_feed_57 : decode cX11_feed 57 = .ok (.getfield 19, 3) := by decide +kernel
theorem dX11_feed_60 : decode cX11_feed 60 = .ok (.getfield 177, 3) := by decide +kernel
theorem dX11_feed_63 : decode cX11_feed 63 = .ok (.ireturn, 1) := by decide +kernel
theorem dX11_shop_0 : decode cX11_shop 0 = .ok (.iload_n 1, 1) := by decide +kernel
theorem dX11_shop_1 : decode cX11_shop 1 = .ok (.i2l, 1) := by decide +kernel
theorem dX11_shop_2 : decode cX11_shop 2 = .ok (.lconst 0, 1) := by decide +kernel
theorem dX11_shop_3 : decode cX11_shop 3 = .ok (.aload_n 0, 1) := by decide +kernel
theorem dX11_shop_4 : decode cX11_shop 4 = .ok (.getfield 19, 3) := by decide +kernel
theorem dX11_shop_7 : decode cX11_shop 7 = .ok (.getfield 177, 3) := by decide +kernel
theorem dX11_shop_10 : decode cX11_shop 10 = .ok (.i2l, 1) := by decide +kernel
theorem dX11_shop_11 : decode cX11_shop 11 = .ok (.invokestatic 119, 3) := by decide +kernel
theorem dX11_shop_14 : decode cX11_shop 14 = .ok (.ifCond .ne 9, 3) := by decide +kernel
theorem dX11_shop_17 : decode cX11_shop 17 = .ok (.aload_n 0, 1) := by decide +kernel
theorem dX11_shop_18 : decode cX11_shop 18 = .ok (.iconst 5, 1) := by decide +kernel
theorem dX11_shop_19 : decode cX11_shop 19 = .ok (.invokevirtual 142, 3) := by decide +kernel
theorem dX11_shop_22 : decode cX11_shop 22 = .ok (.ireturn, 1) := by decide +kernel
theorem dX11_shop_23 : decode cX11_shop 23 = .ok (.aload_n 0, 1) := by decide +kernel
theorem dX11_shop_24 : decode cX11_shop 24 = .ok (.getfield 28, 3) := by decide +kernel
theorem dX11_shop_27 : decode cX11_shop 27 = .ok (.iload_n 1, 1) := by decide +kernel
theorem dX11_shop_28 : decode cX11_shop 28 = .ok (.invokevirtual 180, 3) := by decide +kernel
theorem dX11_shop_31 : decode cX11_shop 31 = .ok (.astore_n 2, 1) := by decide +kernel
theorem dX11_shop_32 : decode cX11_shop 32 = .ok (.aload_n 0, 1) := by decide +kernel
theorem dX11_shop_33 : decode cX11_shop 33 = .ok (.getfield 19, 3) := by decide +kernel
theorem dX11_shop_36 : decode cX11_shop 36 = .ok (.invokevirtual 184, 3) := by decide +kernel
theorem dX11_shop_39 : decode cX11_shop 39 = .ok (.aload_n 0, 1) := by decide +kernel
theorem dX11_shop_40 : decode cX11_shop 40 = .ok (.getfield 19, 3) := by decide +kernel
theorem dX11_shop_43 : decode cX11_shop 43 = .ok (.invokevirtual 187, 3) := by decide +kernel
theorem dX11_shop_46 : decode cX11_shop 46 = .ok (.ifCond .eq 10, 3) := by decide +kernel
theorem dX11_shop_49 : decode cX11_shop 49 = .ok (.aload_n 0, 1) := by decide +kernel
theorem dX11_shop_50 : decode cX11_shop 50 = .ok (.bipush 10, 2) := by decide +kernel
theorem dX11_shop_52 : decode cX11_shop 52 = .ok (.invokevirtual 142, 3) := by decide +kernel
theorem dX11_shop_55 : decode cX11_shop 55 = .ok (.ireturn, 1) := by decide +kernel
theorem dX11_shop_56 : decode cX11_shop 56 = .ok (.aload_n 0, 1) := by decide +kernel
theorem dX11_shop_57 : decode cX11_shop 57 = .ok (.aload_n 2, 1) := by decide +kernel
theorem dX11_shop_58 : decode cX11_shop 58 = .ok (.putfield 42, 3) := by decide +kernel
theorem dX11_shop_61 : decode cX11_shop 61 = .ok (.aload_n 0, 1) := by decide +kernel
theorem dX11_shop_62 : decode cX11_shop 62 = .ok (.new 46, 3) := by decide +kernel
theorem dX11_shop_65 : decode cX11_shop 65 = .ok (.dup, 1) := by decide +kernel
theorem dX11_shop_66 : decode cX11_shop 66 = .ok (.invokespecial 48, 3) := by decide +kernel
theorem dX11_shop_69 : decode cX11_shop 69 = .ok (.putfield 49, 3) := by decide +kernel
theorem dX11_shop_72 : decode cX11_shop 72 = .ok (.aload_n 0, 1) := by decide +kernel
theorem dX11_shop_73 : decode cX11_shop 73 = .ok (.iconst 0, 1) := by decide +kernel
theorem dX11_shop_74 : decode cX11_shop 74 = .ok (.putfield 190, 3) := by decide +kernel
theorem dX11_shop_77 : decode cX11_shop 77 = .ok (.iconst 0, 1) := by decide +kernel
theorem dX11_shop_78 : decode cX11_shop 78 = .ok (.istore_n 3, 1) := by decide +kernel
theorem dX11_shop_79 : decode cX11_shop 79 = .ok (.iload_n 3, 1) := by decide +kernel
theorem dX11_shop_80 : decode cX11_shop 80 = .ok (.bipush 8, 2) := by decide +kernel
theorem dX11_shop_82 : decode cX11_shop 82 = .ok (.if_icmp .ge 16, 3) := by decide +kernel
theorem dX11_shop_85 : decode cX11_shop 85 = .ok (.aload_n 0, 1) := by decide +kernel
theorem dX11_shop_86 : decode cX11_shop 86 = .ok (.getfield 82, 3) := by decide +kernel
theorem dX11_shop_89 : decode cX11_shop 89 = .ok (.iload_n 3, 1) := by decide +kernel
theorem dX11_shop_90 : decode cX11_shop 90 = .ok (.iconst 0, 1) := by decide +kernel
theorem dX11_shop_91 : decode cX11_shop 91 = .ok (.iastore, 1) := by decide +kernel
theorem dX11_shop_92 : decode cX11_shop 92 = .ok (.iinc 3 1, 3) := by decide +kernel
theorem dX11_shop_95 : decode cX11_shop 95 = .ok (.goto (-16), 3) := by decide +kernel
theorem dX11_shop_98 : decode cX11_shop 98 = .ok (.aload_n 0, 1) := by decide +kernel
theorem dX11_shop_99 : decode cX11_shop 99 = .ok (.aload_n 0, 1) := by decide +kernel
theorem dX11_shop_100 : decode cX11_shop 100 = .ok (.getfield 42, 3) := by decide +kernel
theorem dX11_shop_103 : decode cX11_shop 103 = .ok (.getfield 193, 3) := by decide +kernel
theorem dX11_shop_106 : decode cX11_shop 106 = .ok (.invokevirtual 196, 3) := by decide +kernel
theorem dX11_shop_109 : decode cX11_shop 109 = .ok (.ireturn, 1) := by decide +kernel
theorem dX11_law_0 : decode cX11_law 0 = .ok (.iload_n 1, 1) := by decide +kernel
theorem dX11_law_1 : decode cX11_law 1 = .ok (.i2l, 1) := by decide +kernel
theorem dX11_law_2 : decode cX11_law 2 = .ok (.lconst 0, 1) := by decide +kernel
theorem dX11_law_3 : decode cX11_law 3 = .ok (.aload_n 0, 1) := by decide +kernel
theorem dX11_law_4 : decode cX11_law 4 = .ok (.getfield 19, 3) := by decide +kernel
theorem dX11_law_7 : decode cX11_law 7 = .ok (.getfield 177, 3) := by decide +kernel
theorem dX11_law_10 : decode cX11_law 10 = .ok (.sipush 300, 3) := by decide +kernel
theorem dX11_law_13 : decode cX11_law 13 = .ok (.invokestatic 199, 3) := by decide +kernel
theorem dX11_law_16 : decode cX11_law 16 = .ok (.i2l, 1) := by decide +kernel
theorem dX11_law_17 : decode cX11_law 17 = .ok (.invokestatic 119, 3) := by decide +kernel
theorem dX11_law_20 : decode cX11_law 20 = .ok (.ifCond .ne 9, 3) := by decide +kernel
theorem dX11_law_23 : decode cX11_law 23 = .ok (.aload_n 0, 1) := by decide +kernel
theorem dX11_law_24 : decode cX11_law 24 = .ok (.iconst 5, 1) := by decide +kernel
theorem dX11_law_25 : decode cX11_law 25 = .ok (.invokevirtual 142, 3) := by decide +kernel
theorem dX11_law_28 : decode cX11_law 28 = .ok (.ireturn, 1) := by decide +kernel
theorem dX11_law_29 : decode cX11_law 29 = .ok (.aload_n 0, 1) := by decide +kernel
theorem dX11_law_30 : decode cX11_law 30 = .ok (.getfield 35, 3) := by decide +kernel
theorem dX11_law_33 : decode cX11_law 33 = .ok (.iload_n 1, 1) := by decide +kernel
theorem dX11_law_34 : decode cX11_law 34 = .ok (.invokevirtual 204, 3) := by decide +kernel
theorem dX11_law_37 : decode cX11_law 37 = .ok (.astore_n 2, 1) := by decide +kernel
theorem dX11_law_38 : decode cX11_law 38 = .ok (.aload_n 0, 1) := by decide +kernel
theorem dX11_law_39 : decode cX11_law 39 = .ok (.getfield 19, 3) := by decide +kernel
theorem dX11_law_42 : decode cX11_law 42 = .ok (.invokevirtual 184, 3) := by decide +kernel
theorem dX11_law_45 : decode cX11_law 45 = .ok (.aload_n 0, 1) := by decide +kernel
theorem dX11_law_46 : decode cX11_law 46 = .ok (.getfield 19, 3) := by decide +kernel
theorem dX11_law_49 : decode cX11_law 49 = .ok (.invokevirtual 187, 3) := by decide +kernel
theorem dX11_law_52 : decode cX11_law 52 = .ok (.ifCond .eq 10, 3) := by decide +kernel
theorem dX11_law_55 : decode cX11_law 55 = .ok (.aload_n 0, 1) := by decide +kernel
theorem dX11_law_56 : decode cX11_law 56 = .ok (.bipush 10, 2) := by decide +kernel
theorem dX11_law_58 : decode cX11_law 58 = .ok (.invokevirtual 142, 3) := by decide +kernel
theorem dX11_law_61 : decode cX11_law 61 = .ok (.ireturn, 1) := by decide +kernel
theorem dX11_law_62 : decode cX11_law 62 = .ok (.aload_n 0, 1) := by decide +kernel
theorem dX11_law_63 : decode cX11_law 63 = .ok (.aload_n 2, 1) := by decide +kernel
theorem dX11_law_64 : decode cX11_law 64 = .ok (.putfield 49, 3) := by decide +kernel
theorem dX11_law_67 : decode cX11_law 67 = .ok (.aload_n 0, 1) := by decide +kernel
theorem dX11_law_68 : decode cX11_law 68 = .ok (.aload_n 0, 1) := by decide +kernel
theorem dX11_law_69 : decode cX11_law 69 = .ok (.getfield 49, 3) := by decide +kernel
theorem dX11_law_72 : decode cX11_law 72 = .ok (.getfield 208, 3) := by decide +kernel
theorem dX11_law_75 : decode cX11_law 75 = .ok (.invokevirtual 196, 3) := by decide +kernel
theorem dX11_law_78 : decode cX11_law 78 = .ok (.ireturn, 1) := by decide +kernel
theorem dX11_fault_0 : decode cX11_fault 0 = .ok (.iload_n 1, 1) := by decide +kernel
theorem dX11_fault_1 : decode cX11_fault 1 = .ok (.ifCond .ne 11, 3) := by decide +kernel
theorem dX11_fault_4 : decode cX11_fault 4 = .ok (.aload_n 0, 1) := by decide +kernel
theorem dX11_fault_5 : decode cX11_fault 5 = .ok (.getfield 19, 3) := by decide +kernel
theorem dX11_fault_8 : decode cX11_fault 8 = .ok (.getfield 211, 3) := by decide +kernel
theorem dX11_fault_11 : decode cX11_fault 11 = .ok (.ireturn, 1) := by decide +kernel
theorem dX11_fault_12 : decode cX11_fault 12 = .ok (.iload_n 1, 1) := by decide +kernel
theorem dX11_fault_13 : decode cX11_fault 13 = .ok (.iconst 1, 1) := by decide +kernel
theorem dX11_fault_14 : decode cX11_fault 14 = .ok (.if_icmp .ne 13, 3) := by decide +kernel
theorem dX11_fault_17 : decode cX11_fault 17 = .ok (.aload_n 0, 1) := by decide +kernel
theorem dX11_fault_18 : decode cX11_fault 18 = .ok (.getfield 19, 3) := by decide +kernel
theorem dX11_fault_21 : decode cX11_fault 21 = .ok (.getfield 214, 3) := by decide +kernel
theorem dX11_fault_24 : decode cX11_fault 24 = .ok (.goto 4, 3) := by decide +kernel
theorem dX11_fault_27 : decode cX11_fault 27 = .ok (.iconst (-1), 1) := by decide +kernel
theorem dX11_fault_28 : decode cX11_fault 28 = .ok (.ireturn, 1) := by decide +kernel
theorem dX11_many_0 : decode cX11_many 0 = .ok (.iload_n 1, 1) := by decide +kernel
theorem dX11_many_1 : decode cX11_many 1 = .ok (.tableswitch 103 0 4 #[35, 47, 59, 71, 80], 35) := by decide +kernel
theorem dX11_many_36 : decode cX11_many 36 = .ok (.aload_n 0, 1) := by decide +kernel
theorem dX11_many_37 : decode cX11_many 37 = .ok (.aload_n 0, 1) := by decide +kernel
theorem dX11_many_38 : decode cX11_many 38 = .ok (.getfield 42, 3) := by decide +kernel
theorem dX11_many_41 : decode cX11_many 41 = .ok (.getfield 217, 3) := by decide +kernel
theorem dX11_many_44 : decode cX11_many 44 = .ok (.invokevirtual 196, 3) := by decide +kernel
theorem dX11_many_47 : decode cX11_many 47 = .ok (.ireturn, 1) := by decide +kernel
theorem dX11_many_48 : decode cX11_many 48 = .ok (.aload_n 0, 1) := by decide +kernel
theorem dX11_many_49 : decode cX11_many 49 = .ok (.aload_n 0, 1) := by decide +kernel
theorem dX11_many_50 : decode cX11_many 50 = .ok (.getfield 42, 3) := by decide +kernel
theorem dX11_many_53 : decode cX11_many 53 = .ok (.getfield 193, 3) := by decide +kernel
theorem dX11_many_56 : decode cX11_many 56 = .ok (.invokevirtual 196, 3) := by decide +kernel
theorem dX11_many_59 : decode cX11_many 59 = .ok (.ireturn, 1) := by decide +kernel
theorem dX11_many_60 : decode cX11_many 60 = .ok (.aload_n 0, 1) := by decide +kernel
theorem dX11_many_61 : decode cX11_many 61 = .ok (.aload_n 0, 1) := by decide +kernel
theorem dX11_many_62 : decode cX11_many 62 = .ok (.getfield 49, 3) := by decide +kernel
theorem dX11_many_65 : decode cX11_many 65 = .ok (.getfield 208, 3) := by decide +kernel
theorem dX11_many_68 : decode cX11_many 68 = .ok (.invokevirtual 196, 3) := by decide +kernel
theorem dX11_many_71 : decode cX11_many 71 = .ok (.ireturn, 1) := by decide +kernel
theorem dX11_many_72 : decode cX11_many 72 = .ok (.aload_n 0, 1) := by decide +kernel
theorem dX11_many_73 : decode cX11_many 73 = .ok (.aload_n 0, 1) := by decide +kernel
theorem dX11_many_74 : decode cX11_many 74 = .ok (.getfield 190, 3) := by decide +kernel
theorem dX11_many_77 : decode cX11_many 77 = .ok (.invokevirtual 196, 3) := by decide +kernel
theorem dX11_many_80 : decode cX11_many 80 = .ok (.ireturn, 1) := by decide +kernel
theorem dX11_many_81 : decode cX11_many 81 = .ok (.aload_n 0, 1) := by decide +kernel
theorem dX11_many_82 : decode cX11_many 82 = .ok (.aload_n 0, 1) := by decide +kernel
theorem dX11_many_83 : decode cX11_many 83 = .ok (.getfield 42, 3) := by decide +kernel
theorem dX11_many_86 : decode cX11_many 86 = .ok (.getfield 193, 3) := by decide +kernel
theorem dX11_many_89 : decode cX11_many 89 = .ok (.aload_n 0, 1) := by decide +kernel
theorem dX11_many_90 : decode cX11_many 90 = .ok (.getfield 42, 3) := by decide +kernel
theorem dX11_many_93 : decode cX11_many 93 = .ok (.invokevirtual 220, 3) := by decide +kernel
theorem dX11_many_96 : decode cX11_many 96 = .ok (.invokestatic 224, 3) := by decide +kernel
theorem dX11_many_99 : decode cX11_many 99 = .ok (.isub, 1) := by decide +kernel
theorem dX11_many_100 : decode cX11_many 100 = .ok (.invokevirtual 196, 3) := by decide +kernel
theorem dX11_many_103 : decode cX11_many 103 = .ok (.ireturn, 1) := by decide +kernel
theorem dX11_many_104 : decode cX11_many 104 = .ok (.aload_n 0, 1) := by decide +kernel
theorem dX11_many_105 : decode cX11_many 105 = .ok (.iconst 5, 1) := by decide +kernel
theorem dX11_many_106 : decode cX11_many 106 = .ok (.invokevirtual 142, 3) := by decide +kernel
theorem dX11_many_109 : decode cX11_many 109 = .ok (.ireturn, 1) := by decide +kernel
theorem dX11_letter_0 : decode cX11_letter 0 = .ok (.aload_n 0, 1) := by decide +kernel
theorem dX11_letter_1 : decode cX11_letter 1 = .ok (.iload_n 1, 1) := by decide +kernel
theorem dX11_letter_2 : decode cX11_letter 2 = .ok (.invokevirtual 229, 3) := by decide +kernel
theorem dX11_letter_5 : decode cX11_letter 5 = .ok (.ifCond .ne 9, 3) := by decide +kernel
theorem dX11_letter_8 : decode cX11_letter 8 = .ok (.aload_n 0, 1) := by decide +kernel
theorem dX11_letter_9 : decode cX11_letter 9 = .ok (.iconst 2, 1) := by decide +kernel
theorem dX11_letter_10 : decode cX11_letter 10 = .ok (.invokevirtual 142, 3) := by decide +kernel
theorem dX11_letter_13 : decode cX11_letter 13 = .ok (.ireturn, 1) := by decide +kernel
theorem dX11_letter_14 : decode cX11_letter 14 = .ok (.aload_n 0, 1) := by decide +kernel
theorem dX11_letter_15 : decode cX11_letter 15 = .ok (.aload_n 0, 1) := by decide +kernel
theorem dX11_letter_16 : decode cX11_letter 16 = .ok (.getfield 42, 3) := by decide +kernel
theorem dX11_letter_19 : decode cX11_letter 19 = .ok (.getfield 232, 3) := by decide +kernel
theorem dX11_letter_22 : decode cX11_letter 22 = .ok (.iload_n 1, 1) := by decide +kernel
theorem dX11_letter_23 : decode cX11_letter 23 = .ok (.aaload, 1) := by decide +kernel
theorem dX11_letter_24 : decode cX11_letter 24 = .ok (.iload_n 2, 1) := by decide +kernel
theorem dX11_letter_25 : decode cX11_letter 25 = .ok (.invokevirtual 235, 3) := by decide +kernel
theorem dX11_letter_28 : decode cX11_letter 28 = .ok (.ireturn, 1) := by decide +kernel
theorem dX11_jar_0 : decode cX11_jar 0 = .ok (.aload_n 0, 1) := by decide +kernel
theorem dX11_jar_1 : decode cX11_jar 1 = .ok (.iload_n 1, 1) := by decide +kernel
theorem dX11_jar_2 : decode cX11_jar 2 = .ok (.invokevirtual 239, 3) := by decide +kernel
theorem dX11_jar_5 : decode cX11_jar 5 = .ok (.ifCond .ne 9, 3) := by decide +kernel
theorem dX11_jar_8 : decode cX11_jar 8 = .ok (.aload_n 0, 1) := by decide +kernel
theorem dX11_jar_9 : decode cX11_jar 9 = .ok (.iconst 2, 1) := by decide +kernel
theorem dX11_jar_10 : decode cX11_jar 10 = .ok (.invokevirtual 142, 3) := by decide +kernel
theorem dX11_jar_13 : decode cX11_jar 13 = .ok (.ireturn, 1) := by decide +kernel
theorem dX11_jar_14 : decode cX11_jar 14 = .ok (.iload_n 2, 1) := by decide +kernel
theorem dX11_jar_15 : decode cX11_jar 15 = .ok (.i2l, 1) := by decide +kernel
theorem dX11_jar_16 : decode cX11_jar 16 = .ok (.lconst 0, 1) := by decide +kernel
theorem dX11_jar_17 : decode cX11_jar 17 = .ok (.ldc2_w 244, 3) := by decide +kernel
theorem dX11_jar_20 : decode cX11_jar 20 = .ok (.invokestatic 119, 3) := by decide +kernel
theorem dX11_jar_23 : decode cX11_jar 23 = .ok (.ifCond .ne 9, 3) := by decide +kernel
theorem dX11_jar_26 : decode cX11_jar 26 = .ok (.aload_n 0, 1) := by decide +kernel
theorem dX11_jar_27 : decode cX11_jar 27 = .ok (.iconst 5, 1) := by decide +kernel
theorem dX11_jar_28 : decode cX11_jar 28 = .ok (.invokevirtual 142, 3) := by decide +kernel
theorem dX11_jar_31 : decode cX11_jar 31 = .ok (.ireturn, 1) := by decide +kernel
theorem dX11_jar_32 : decode cX11_jar 32 = .ok (.aload_n 0, 1) := by decide +kernel
theorem dX11_jar_33 : decode cX11_jar 33 = .ok (.getfield 42, 3) := by decide +kernel
theorem dX11_jar_36 : decode cX11_jar 36 = .ok (.getfield 246, 3) := by decide +kernel
theorem dX11_jar_39 : decode cX11_jar 39 = .ok (.iload_n 1, 1) := by decide +kernel
theorem dX11_jar_40 : decode cX11_jar 40 = .ok (.aaload, 1) := by decide +kernel
theorem dX11_jar_41 : decode cX11_jar 41 = .ok (.astore_n 3, 1) := by decide +kernel
theorem dX11_jar_42 : decode cX11_jar 42 = .ok (.iload_n 2, 1) := by decide +kernel
theorem dX11_jar_43 : decode cX11_jar 43 = .ok (.bipush 7, 2) := by decide +kernel
theorem dX11_jar_45 : decode cX11_jar 45 = .ok (.if_icmp .lt 17, 3) := by decide +kernel
theorem dX11_jar_48 : decode cX11_jar 48 = .ok (.aload_n 3, 1) := by decide +kernel
theorem dX11_jar_49 : decode cX11_jar 49 = .ok (.invokevirtual 250, 3) := by decide +kernel
theorem dX11_jar_52 : decode cX11_jar 52 = .ok (.ifCond .eq 10, 3) := by decide +kernel
theorem dX11_jar_55 : decode cX11_jar 55 = .ok (.aload_n 0, 1) := by decide +kernel
theorem dX11_jar_56 : decode cX11_jar 56 = .ok (.bipush 8, 2) := by decide +kernel
theorem dX11_jar_58 : decode cX11_jar 58 = .ok (.invokevirtual 142, 3) := by decide +kernel
theorem dX11_jar_61 : decode cX11_jar 61 = .ok (.ireturn, 1) := by decide +kernel
theorem dX11_jar_62 : decode cX11_jar 62 = .ok (.aload_n 0, 1) := by decide +kernel
theorem dX11_jar_63 : decode cX11_jar 63 = .ok (.aload_n 3, 1) := by decide +kernel
theorem dX11_jar_64 : decode cX11_jar 64 = .ok (.iload_n 2, 1) := by decide +kernel
theorem dX11_jar_65 : decode cX11_jar 65 = .ok (.invokevirtual 253, 3) := by decide +kernel
theorem dX11_jar_68 : decode cX11_jar 68 = .ok (.invokevirtual 196, 3) := by decide +kernel
theorem dX11_jar_71 : decode cX11_jar 71 = .ok (.ireturn, 1) := by decide +kernel
theorem dX11_day_0 : decode cX11_day 0 = .ok (.iload_n 1, 1) := by decide +kernel
theorem dX11_day_1 : decode cX11_day 1 = .ok (.i2l, 1) := by decide +kernel
theorem dX11_day_2 : decode cX11_day 2 = .ok (.lconst 0, 1) := by decide +kernel
theorem dX11_day_3 : decode cX11_day 3 = .ok (.ldc2_w 256, 3) := by decide +kernel
theorem dX11_day_6 : decode cX11_day 6 = .ok (.invokestatic 119, 3) := by decide +kernel
theorem dX11_day_9 : decode cX11_day 9 = .ok (.ifCond .ne 9, 3) := by decide +kernel
theorem dX11_day_12 : decode cX11_day 12 = .ok (.aload_n 0, 1) := by decide +kernel
theorem dX11_day_13 : decode cX11_day 13 = .ok (.iconst 5, 1) := by decide +kernel
theorem dX11_day_14 : decode cX11_day 14 = .ok (.invokevirtual 123, 3) := by decide +kernel
theorem dX11_day_17 : decode cX11_day 17 = .ok (.ireturn, 1) := by decide +kernel
theorem dX11_day_18 : decode cX11_day 18 = .ok (.aload_n 0, 1) := by decide +kernel
theorem dX11_day_19 : decode cX11_day 19 = .ok (.iload_n 1, 1) := by decide +kernel
theorem dX11_day_20 : decode cX11_day 20 = .ok (.putfield 190, 3) := by decide +kernel
theorem dX11_day_23 : decode cX11_day 23 = .ok (.aload_n 0, 1) := by decide +kernel
theorem dX11_day_24 : decode cX11_day 24 = .ok (.invokevirtual 130, 3) := by decide +kernel
theorem dX11_day_27 : decode cX11_day 27 = .ok (.ireturn, 1) := by decide +kernel
theorem dX11_heard_0 : decode cX11_heard 0 = .ok (.aload_n 0, 1) := by decide +kernel
theorem dX11_heard_1 : decode cX11_heard 1 = .ok (.iload_n 1, 1) := by decide +kernel
theorem dX11_heard_2 : decode cX11_heard 2 = .ok (.invokevirtual 239, 3) := by decide +kernel
theorem dX11_heard_5 : decode cX11_heard 5 = .ok (.ifCond .ne 9, 3) := by decide +kernel
theorem dX11_heard_8 : decode cX11_heard 8 = .ok (.aload_n 0, 1) := by decide +kernel
theorem dX11_heard_9 : decode cX11_heard 9 = .ok (.iconst 2, 1) := by decide +kernel
theorem dX11_heard_10 : decode cX11_heard 10 = .ok (.invokevirtual 142, 3) := by decide +kernel
theorem dX11_heard_13 : decode cX11_heard 13 = .ok (.ireturn, 1) := by decide +kernel
theorem dX11_heard_14 : decode cX11_heard 14 = .ok (.aload_n 0, 1) := by decide +kernel
theorem dX11_heard_15 : decode cX11_heard 15 = .ok (.aload_n 0, 1) := by decide +kernel
theorem dX11_heard_16 : decode cX11_heard 16 = .ok (.iload_n 1, 1) := by decide +kernel
theorem dX11_heard_17 : decode cX11_heard 17 = .ok (.invokevirtual 258, 3) := by decide +kernel
theorem dX11_heard_20 : decode cX11_heard 20 = .ok (.getfield 262, 3) := by decide +kernel
theorem dX11_heard_23 : decode cX11_heard 23 = .ok (.invokevirtual 196, 3) := by decide +kernel
theorem dX11_heard_26 : decode cX11_heard 26 = .ok (.ireturn, 1) := by decide +kernel
theorem dX11_heardAt_0 : decode cX11_heardAt 0 = .ok (.aload_n 0, 1) := by decide +kernel
theorem dX11_heardAt_1 : decode cX11_heardAt 1 = .ok (.iload_n 1, 1) := by decide +kernel
theorem dX11_heardAt_2 : decode cX11_heardAt 2 = .ok (.invokevirtual 239, 3) := by decide +kernel
theorem dX11_heardAt_5 : decode cX11_heardAt 5 = .ok (.ifCond .ne 9, 3) := by decide +kernel
theorem dX11_heardAt_8 : decode cX11_heardAt 8 = .ok (.aload_n 0, 1) := by decide +kernel
theorem dX11_heardAt_9 : decode cX11_heardAt 9 = .ok (.iconst 2, 1) := by decide +kernel
theorem dX11_heardAt_10 : decode cX11_heardAt 10 = .ok (.invokevirtual 142, 3) := by decide +kernel
theorem dX11_heardAt_13 : decode cX11_heardAt 13 = .ok (.ireturn, 1) := by decide +kernel
theorem dX11_heardAt_14 : decode cX11_heardAt 14 = .ok (.aload_n 0, 1) := by decide +kernel
theorem dX11_heardAt_15 : decode cX11_heardAt 15 = .ok (.aload_n 0, 1) := by decide +kernel
theorem dX11_heardAt_16 : decode cX11_heardAt 16 = .ok (.iload_n 1, 1) := by decide +kernel
theorem dX11_heardAt_17 : decode cX11_heardAt 17 = .ok (.invokevirtual 258, 3) := by decide +kernel
theorem dX11_heardAt_20 : decode cX11_heardAt 20 = .ok (.iload_n 2, 1) := by decide +kernel
theorem dX11_heardAt_21 : decode cX11_heardAt 21 = .ok (.invokevirtual 235, 3) := by decide +kernel
theorem dX11_heardAt_24 : decode cX11_heardAt 24 = .ok (.ireturn, 1) := by decide +kernel
theorem dX11_pourOut_0 : decode cX11_pourOut 0 = .ok (.iload_n 2, 1) := by decide +kernel
theorem dX11_pourOut_1 : decode cX11_pourOut 1 = .ok (.invokestatic 113, 3) := by decide +kernel
theorem dX11_pourOut_4 : decode cX11_pourOut 4 = .ok (.ifCond .ne 9, 3) := by decide +kernel
theorem dX11_pourOut_7 : decode cX11_pourOut 7 = .ok (.aload_n 0, 1) := by decide +kernel
theorem dX11_pourOut_8 : decode cX11_pourOut 8 = .ok (.iconst 1, 1) := by decide +kernel
theorem dX11_pourOut_9 : decode cX11_pourOut 9 = .ok (.invokevirtual 142, 3) := by decide +kernel
theorem dX11_pourOut_12 : decode cX11_pourOut 12 = .ok (.ireturn, 1) := by decide +kernel
theorem dX11_pourOut_13 : decode cX11_pourOut 13 = .ok (.aload_n 0, 1) := by decide +kernel
theorem dX11_pourOut_14 : decode cX11_pourOut 14 = .ok (.iload_n 1, 1) := by decide +kernel
theorem dX11_pourOut_15 : decode cX11_pourOut 15 = .ok (.invokevirtual 239, 3) := by decide +kernel
theorem dX11_pourOut_18 : decode cX11_pourOut 18 = .ok (.ifCond .ne 9, 3) := by decide +kernel
theorem dX11_pourOut_21 : decode cX11_pourOut 21 = .ok (.aload_n 0, 1) := by decide +kernel
theorem dX11_pourOut_22 : decode cX11_pourOut 22 = .ok (.iconst 2, 1) := by decide +kernel
theorem dX11_pourOut_23 : decode cX11_pourOut 23 = .ok (.invokevirtual 142, 3) := by decide +kernel
theorem dX11_pourOut_26 : decode cX11_pourOut 26 = .ok (.ireturn, 1) := by decide +kernel
theorem dX11_pourOut_27 : decode cX11_pourOut 27 = .ok (.aload_n 0, 1) := by decide +kernel
theorem dX11_pourOut_28 : decode cX11_pourOut 28 = .ok (.aload_n 0, 1) := by decide +kernel
theorem dX11_pourOut_29 : decode cX11_pourOut 29 = .ok (.iload_n 1, 1) := by decide +kernel
theorem dX11_pourOut_30 : decode cX11_pourOut 30 = .ok (.invokevirtual 258, 3) := by decide +kernel
theorem dX11_pourOut_33 : decode cX11_pourOut 33 = .ok (.iload_n 2, 1) := by decide +kernel
theorem dX11_pourOut_34 : decode cX11_pourOut 34 = .ok (.invokevirtual 265, 3) := by decide +kernel
theorem dX11_pourOut_37 : decode cX11_pourOut 37 = .ok (.ireturn, 1) := by decide +kernel
theorem dX11_lost_0 : decode cX11_lost 0 = .ok (.aload_n 0, 1) := by decide +kernel
theorem dX11_lost_1 : decode cX11_lost 1 = .ok (.iload_n 1, 1) := by decide +kernel
theorem dX11_lost_2 : decode cX11_lost 2 = .ok (.invokevirtual 239, 3) := by decide +kernel
theorem dX11_lost_5 : decode cX11_lost 5 = .ok (.ifCond .ne 9, 3) := by decide +kernel
theorem dX11_lost_8 : decode cX11_lost 8 = .ok (.aload_n 0, 1) := by decide +kernel
theorem dX11_lost_9 : decode cX11_lost 9 = .ok (.iconst 2, 1) := by decide +kernel
theorem dX11_lost_10 : decode cX11_lost 10 = .ok (.invokevirtual 142, 3) := by decide +kernel
theorem dX11_lost_13 : decode cX11_lost 13 = .ok (.ireturn, 1) := by decide +kernel
theorem dX11_lost_14 : decode cX11_lost 14 = .ok (.aload_n 0, 1) := by decide +kernel
theorem dX11_lost_15 : decode cX11_lost 15 = .ok (.aload_n 0, 1) := by decide +kernel
theorem dX11_lost_16 : decode cX11_lost 16 = .ok (.getfield 42, 3) := by decide +kernel
theorem dX11_lost_19 : decode cX11_lost 19 = .ok (.getfield 246, 3) := by decide +kernel
theorem dX11_lost_22 : decode cX11_lost 22 = .ok (.iload_n 1, 1) := by decide +kernel
theorem dX11_lost_23 : decode cX11_lost 23 = .ok (.aaload, 1) := by decide +kernel
theorem dX11_lost_24 : decode cX11_lost 24 = .ok (.aload_n 0, 1) := by decide +kernel
theorem dX11_lost_25 : decode cX11_lost 25 = .ok (.getfield 190, 3) := by decide +kernel
theorem dX11_lost_28 : decode cX11_lost 28 = .ok (.invokevirtual 268, 3) := by decide +kernel
theorem dX11_lost_31 : decode cX11_lost 31 = .ok (.invokevirtual 196, 3) := by decide +kernel
theorem dX11_lost_34 : decode cX11_lost 34 = .ok (.ireturn, 1) := by decide +kernel
theorem dX11_silent_0 : decode cX11_silent 0 = .ok (.aload_n 0, 1) := by decide +kernel
theorem dX11_silent_1 : decode cX11_silent 1 = .ok (.iload_n 1, 1) := by decide +kernel
theorem dX11_silent_2 : decode cX11_silent 2 = .ok (.invokevirtual 239, 3) := by decide +kernel
theorem dX11_silent_5 : decode cX11_silent 5 = .ok (.ifCond .ne 9, 3) := by decide +kernel
theorem dX11_silent_8 : decode cX11_silent 8 = .ok (.aload_n 0, 1) := by decide +kernel
theorem dX11_silent_9 : decode cX11_silent 9 = .ok (.iconst 2, 1) := by decide +kernel
theorem dX11_silent_10 : decode cX11_silent 10 = .ok (.invokevirtual 142, 3) := by decide +kernel
theorem dX11_silent_13 : decode cX11_silent 13 = .ok (.ireturn, 1) := by decide +kernel
theorem dX11_silent_14 : decode cX11_silent 14 = .ok (.aload_n 0, 1) := by decide +kernel
theorem dX11_silent_15 : decode cX11_silent 15 = .ok (.aload_n 0, 1) := by decide +kernel
theorem dX11_silent_16 : decode cX11_silent 16 = .ok (.getfield 42, 3) := by decide +kernel
theorem dX11_silent_19 : decode cX11_silent 19 = .ok (.getfield 246, 3) := by decide +kernel
theorem dX11_silent_22 : decode cX11_silent 22 = .ok (.iload_n 1, 1) := by decide +kernel
theorem dX11_silent_23 : decode cX11_silent 23 = .ok (.aaload, 1) := by decide +kernel
theorem dX11_silent_24 : decode cX11_silent 24 = .ok (.iconst 0, 1) := by decide +kernel
theorem dX11_silent_25 : decode cX11_silent 25 = .ok (.invokevirtual 271, 3) := by decide +kernel
theorem dX11_silent_28 : decode cX11_silent 28 = .ok (.invokevirtual 274, 3) := by decide +kernel
theorem dX11_silent_31 : decode cX11_silent 31 = .ok (.ireturn, 1) := by decide +kernel
theorem dX11_loudest_0 : decode cX11_loudest 0 = .ok (.iload_n 1, 1) := by decide +kernel
theorem dX11_loudest_1 : decode cX11_loudest 1 = .ok (.i2l, 1) := by decide +kernel
theorem dX11_loudest_2 : decode cX11_loudest 2 = .ok (.lconst 0, 1) := by decide +kernel
theorem dX11_loudest_3 : decode cX11_loudest 3 = .ok (.ldc2_w 277, 3) := by decide +kernel
theorem dX11_loudest_6 : decode cX11_loudest 6 = .ok (.invokestatic 119, 3) := by decide +kernel
theorem dX11_loudest_9 : decode cX11_loudest 9 = .ok (.ifCond .eq 13, 3) := by decide +kernel
theorem dX11_loudest_12 : decode cX11_loudest 12 = .ok (.iload_n 2, 1) := by decide +kernel
theorem dX11_loudest_13 : decode cX11_loudest 13 = .ok (.i2l, 1) := by decide +kernel
theorem dX11_loudest_14 : decode cX11_loudest 14 = .ok (.lconst 0, 1) := by decide +kernel
theorem dX11_loudest_15 : decode cX11_loudest 15 = .ok (.lconst 1, 1) := by decide +kernel
theorem dX11_loudest_16 : decode cX11_loudest 16 = .ok (.invokestatic 119, 3) := by decide +kernel
theorem dX11_loudest_19 : decode cX11_loudest 19 = .ok (.ifCond .ne 9, 3) := by decide +kernel
theorem dX11_loudest_22 : decode cX11_loudest 22 = .ok (.aload_n 0, 1) := by decide +kernel
theorem dX11_loudest_23 : decode cX11_loudest 23 = .ok (.iconst 5, 1) := by decide +kernel
theorem dX11_loudest_24 : decode cX11_loudest 24 = .ok (.invokevirtual 142, 3) := by decide +kernel
theorem dX11_loudest_27 : decode cX11_loudest 27 = .ok (.ireturn, 1) := by decide +kernel
theorem dX11_loudest_28 : decode cX11_loudest 28 = .ok (.aload_n 0, 1) := by decide +kernel
theorem dX11_loudest_29 : decode cX11_loudest 29 = .ok (.getfield 42, 3) := by decide +kernel
theorem dX11_loudest_32 : decode cX11_loudest 32 = .ok (.aload_n 0, 1) := by decide +kernel
theorem dX11_loudest_33 : decode cX11_loudest 33 = .ok (.getfield 190, 3) := by decide +kernel
theorem dX11_loudest_36 : decode cX11_loudest 36 = .ok (.aload_n 0, 1) := by decide +kernel
theorem dX11_loudest_37 : decode cX11_loudest 37 = .ok (.getfield 190, 3) := by decide +kernel
theorem dX11_loudest_40 : decode cX11_loudest 40 = .ok (.iload_n 1, 1) := by decide +kernel
theorem dX11_loudest_41 : decode cX11_loudest 41 = .ok (.iadd, 1) := by decide +kernel
theorem dX11_loudest_42 : decode cX11_loudest 42 = .ok (.invokevirtual 279, 3) := by decide +kernel
theorem dX11_loudest_45 : decode cX11_loudest 45 = .ok (.istore_n 3, 1) := by decide +kernel
theorem dX11_loudest_46 : decode cX11_loudest 46 = .ok (.aload_n 0, 1) := by decide +kernel
theorem dX11_loudest_47 : decode cX11_loudest 47 = .ok (.iload_n 2, 1) := by decide +kernel
theorem dX11_loudest_48 : decode cX11_loudest 48 = .ok (.ifCond .ne 7, 3) := by decide +kernel
theorem dX11_loudest_51 : decode cX11_loudest 51 = .ok (.iload_n 3, 1) := by decide +kernel
theorem dX11_loudest_52 : decode cX11_loudest 52 = .ok (.goto 11, 3) := by decide +kernel
theorem dX11_loudest_55 : decode cX11_loudest 55 = .ok (.aload_n 0, 1) := by decide +kernel
theorem dX11_loudest_56 : decode cX11_loudest 56 = .ok (.getfield 42, 3) := by decide +kernel
theorem dX11_loudest_59 : decode cX11_loudest 59 = .ok (.iload_n 3, 1) := by decide +kernel
theorem dX11_loudest_60 : decode cX11_loudest 60 = .ok (.invokevirtual 282, 3) := by decide +kernel
theorem dX11_loudest_63 : decode cX11_loudest 63 = .ok (.invokevirtual 196, 3) := by decide +kernel
theorem dX11_loudest_66 : decode cX11_loudest 66 = .ok (.ireturn, 1) := by decide +kernel
theorem dX11_atOnce_0 : decode cX11_atOnce 0 = .ok (.iload_n 3, 1) := by decide +kernel
theorem dX11_atOnce_1 : decode cX11_atOnce 1 = .ok (.invokestatic 113, 3) := by decide +kernel
theorem dX11_atOnce_4 : decode cX11_atOnce 4 = .ok (.ifCond .ne 9, 3) := by decide +kernel
theorem dX11_atOnce_7 : decode cX11_atOnce 7 = .ok (.aload_n 0, 1) := by decide +kernel
theorem dX11_atOnce_8 : decode cX11_atOnce 8 = .ok (.iconst 1, 1) := by decide +kernel
theorem dX11_atOnce_9 : decode cX11_atOnce 9 = .ok (.invokevirtual 142, 3) := by decide +kernel
theorem dX11_atOnce_12 : decode cX11_atOnce 12 = .ok (.ireturn, 1) := by decide +kernel
theorem dX11_atOnce_13 : decode cX11_atOnce 13 = .ok (.aload_n 0, 1) := by decide +kernel
theorem dX11_atOnce_14 : decode cX11_atOnce 14 = .ok (.iload_n 1, 1) := by decide +kernel
theorem dX11_atOnce_15 : decode cX11_atOnce 15 = .ok (.invokevirtual 239, 3) := by decide +kernel
theorem dX11_atOnce_18 : decode cX11_atOnce 18 = .ok (.ifCond .eq 11, 3) := by decide +kernel
theorem dX11_atOnce_21 : decode cX11_atOnce 21 = .ok (.aload_n 0, 1) := by decide +kernel
theorem dX11_atOnce_22 : decode cX11_atOnce 22 = .ok (.iload_n 2, 1) := by decide +kernel
theorem dX11_atOnce_23 : decode cX11_atOnce 23 = .ok (.invokevirtual 239, 3) := by decide +kernel
theorem dX11_atOnce_26 : decode cX11_atOnce 26 = .ok (.ifCond .ne 9, 3) := by decide +kernel
theorem dX11_atOnce_29 : decode cX11_atOnce 29 = .ok (.aload_n 0, 1) := by decide +kernel
theorem dX11_atOnce_30 : decode cX11_atOnce 30 = .ok (.iconst 2, 1) := by decide +kernel
theorem dX11_atOnce_31 : decode cX11_atOnce 31 = .ok (.invokevirtual 142, 3) := by decide +kernel
theorem dX11_atOnce_34 : decode cX11_atOnce 34 = .ok (.ireturn, 1) := by decide +kernel
theorem dX11_atOnce_35 : decode cX11_atOnce 35 = .ok (.aload_n 0, 1) := by decide +kernel
theorem dX11_atOnce_36 : decode cX11_atOnce 36 = .ok (.aload_n 0, 1) := by decide +kernel
theorem dX11_atOnce_37 : decode cX11_atOnce 37 = .ok (.aload_n 0, 1) := by decide +kernel
theorem dX11_atOnce_38 : decode cX11_atOnce 38 = .ok (.iload_n 1, 1) := by decide +kernel
theorem dX11_atOnce_39 : decode cX11_atOnce 39 = .ok (.invokevirtual 258, 3) := by decide +kernel
theorem dX11_atOnce_42 : decode cX11_atOnce 42 = .ok (.aload_n 0, 1) := by decide +kernel
theorem dX11_atOnce_43 : decode cX11_atOnce 43 = .ok (.iload_n 2, 1) := by decide +kernel
theorem dX11_atOnce_44 : decode cX11_atOnce 44 = .ok (.invokevirtual 258, 3) := by decide +kernel
theorem dX11_atOnce_47 : decode cX11_atOnce 47 = .ok (.iconst 0, 1) := by decide +kernel
theorem dX11_atOnce_48 : decode cX11_atOnce 48 = .ok (.invokevirtual 285, 3) := by decide +kernel
theorem dX11_atOnce_51 : decode cX11_atOnce 51 = .ok (.iload_n 3, 1) := by decide +kernel
theorem dX11_atOnce_52 : decode cX11_atOnce 52 = .ok (.invokevirtual 265, 3) := by decide +kernel
theorem dX11_atOnce_55 : decode cX11_atOnce 55 = .ok (.ireturn, 1) := by decide +kernel
theorem dX11_couples_0 : decode cX11_couples 0 = .ok (.aload_n 0, 1) := by decide +kernel
theorem dX11_couples_1 : decode cX11_couples 1 = .ok (.iload_n 1, 1) := by decide +kernel
theorem dX11_couples_2 : decode cX11_couples 2 = .ok (.iload_n 2, 1) := by decide +kernel
theorem dX11_couples_3 : decode cX11_couples 3 = .ok (.bipush 6, 2) := by decide +kernel
theorem dX11_couples_5 : decode cX11_couples 5 = .ok (.iconst 0, 1) := by decide +kernel
theorem dX11_couples_6 : decode cX11_couples 6 = .ok (.invokevirtual 289, 3) := by decide +kernel
theorem dX11_couples_9 : decode cX11_couples 9 = .ok (.istore_n 3, 1) := by decide +kernel
theorem dX11_couples_10 : decode cX11_couples 10 = .ok (.iload_n 3, 1) := by decide +kernel
theorem dX11_couples_11 : decode cX11_couples 11 = .ok (.ifCond .eq 10, 3) := by decide +kernel
theorem dX11_couples_14 : decode cX11_couples 14 = .ok (.aload_n 0, 1) := by decide +kernel
theorem dX11_couples_15 : decode cX11_couples 15 = .ok (.iload_n 3, 1) := by decide +kernel
theorem dX11_couples_16 : decode cX11_couples 16 = .ok (.invokevirtual 142, 3) := by decide +kernel
theorem dX11_couples_19 : decode cX11_couples 19 = .ok (.i2l, 1) := by decide +kernel
theorem dX11_couples_20 : decode cX11_couples 20 = .ok (.lreturn, 1) := by decide +kernel
theorem dX11_couples_21 : decode cX11_couples 21 = .ok (.aload_n 0, 1) := by decide +kernel
theorem dX11_couples_22 : decode cX11_couples 22 = .ok (.invokevirtual 293, 3) := by decide +kernel
theorem dX11_couples_25 : decode cX11_couples 25 = .ok (.lconst 1, 1) := by decide +kernel
theorem dX11_couples_26 : decode cX11_couples 26 = .ok (.lstore 4, 2) := by decide +kernel
theorem dX11_couples_28 : decode cX11_couples 28 = .ok (.iconst 0, 1) := by decide +kernel
theorem dX11_couples_29 : decode cX11_couples 29 = .ok (.istore 6, 2) := by decide +kernel
theorem dX11_couples_31 : decode cX11_couples 31 = .ok (.iload 6, 2) := by decide +kernel
theorem dX11_couples_33 : decode cX11_couples 33 = .ok (.iload_n 2, 1) := by decide +kernel
theorem dX11_couples_34 : decode cX11_couples 34 = .ok (.if_icmp .ge 32, 3) := by decide +kernel
theorem dX11_couples_37 : decode cX11_couples 37 = .ok (.lload 4, 2) := by decide +kernel
theorem dX11_couples_39 : decode cX11_couples 39 = .ok (.aload_n 0, 1) := by decide +kernel
theorem dX11_couples_40 : decode cX11_couples 40 = .ok (.getfield 78, 3) := by decide +kernel
theorem dX11_couples_43 : decode cX11_couples 43 = .ok (.aload_n 0, 1) := by decide +kernel
theorem dX11_couples_44 : decode cX11_couples 44 = .ok (.getfield 10, 3) := by decide +kernel
theorem dX11_couples_47 : decode cX11_couples 47 = .ok (.iload_n 1, 1) := by decide +kernel
theorem dX11_couples_48 : decode cX11_couples 48 = .ok (.aaload, 1) := by decide +kernel
theorem dX11_couples_49 : decode cX11_couples 49 = .ok (.iload 6, 2) := by decide +kernel
theorem dX11_couples_51 : decode cX11_couples 51 = .ok (.invokevirtual 146, 3) := by decide +kernel
theorem dX11_couples_54 : decode cX11_couples 54 = .ok (.l2i, 1) := by decide +kernel
theorem dX11_couples_55 : decode cX11_couples 55 = .ok (.iaload, 1) := by decide +kernel
theorem dX11_couples_56 : decode cX11_couples 56 = .ok (.i2l, 1) := by decide +kernel
theorem dX11_couples_57 : decode cX11_couples 57 = .ok (.lmul, 1) := by decide +kernel
theorem dX11_couples_58 : decode cX11_couples 58 = .ok (.lstore 4, 2) := by decide +kernel
theorem dX11_couples_60 : decode cX11_couples 60 = .ok (.iinc 6 1, 3) := by decide +kernel
theorem dX11_couples_63 : decode cX11_couples 63 = .ok (.goto (-32), 3) := by decide +kernel
theorem dX11_couples_66 : decode cX11_couples 66 = .ok (.aload_n 0, 1) := by decide +kernel
theorem dX11_couples_67 : decode cX11_couples 67 = .ok (.iconst 0, 1) := by decide +kernel
theorem dX11_couples_68 : decode cX11_couples 68 = .ok (.putfield 106, 3) := by decide +kernel
theorem dX11_couples_71 : decode cX11_couples 71 = .ok (.lload 4, 2) := by decide +kernel
theorem dX11_couples_73 : decode cX11_couples 73 = .ok (.lreturn, 1) := by decide +kernel
theorem dX11_mixes_0 : decode cX11_mixes 0 = .ok (.iload_n 1, 1) := by decide +kernel
theorem dX11_mixes_1 : decode cX11_mixes 1 = .ok (.invokestatic 296, 3) := by decide +kernel
theorem dX11_mixes_4 : decode cX11_mixes 4 = .ok (.ifCond .eq 10, 3) := by decide +kernel
theorem dX11_mixes_7 : decode cX11_mixes 7 = .ok (.iload_n 2, 1) := by decide +kernel
theorem dX11_mixes_8 : decode cX11_mixes 8 = .ok (.invokestatic 296, 3) := by decide +kernel
theorem dX11_mixes_11 : decode cX11_mixes 11 = .ok (.ifCond .ne 9, 3) := by decide +kernel
theorem dX11_mixes_14 : decode cX11_mixes 14 = .ok (.aload_n 0, 1) := by decide +kernel
theorem dX11_mixes_15 : decode cX11_mixes 15 = .ok (.iconst 5, 1) := by decide +kernel
theorem dX11_mixes_16 : decode cX11_mixes 16 = .ok (.invokevirtual 142, 3) := by decide +kernel
theorem dX11_mixes_19 : decode cX11_mixes 19 = .ok (.ireturn, 1) := by decide +kernel
theorem dX11_mixes_20 : decode cX11_mixes 20 = .ok (.aload_n 0, 1) := by decide +kernel
theorem dX11_mixes_21 : decode cX11_mixes 21 = .ok (.aload_n 0, 1) := by decide +kernel
theorem dX11_mixes_22 : decode cX11_mixes 22 = .ok (.getfield 49, 3) := by decide +kernel
theorem dX11_mixes_25 : decode cX11_mixes 25 = .ok (.iload_n 1, 1) := by decide +kernel
theorem dX11_mixes_26 : decode cX11_mixes 26 = .ok (.iload_n 2, 1) := by decide +kernel
theorem dX11_mixes_27 : decode cX11_mixes 27 = .ok (.invokevirtual 299, 3) := by decide +kernel
theorem dX11_mixes_30 : decode cX11_mixes 30 = .ok (.invokevirtual 196, 3) := by decide +kernel
theorem dX11_mixes_33 : decode cX11_mixes 33 = .ok (.ireturn, 1) := by decide +kernel
theorem dX11_others_0 : decode cX11_others 0 = .ok (.iload_n 1, 1) := by decide +kernel
theorem dX11_others_1 : decode cX11_others 1 = .ok (.invokestatic 296, 3) := by decide +kernel
theorem dX11_others_4 : decode cX11_others 4 = .ok (.ifCond .eq 10, 3) := by decide +kernel
theorem dX11_others_7 : decode cX11_others 7 = .ok (.iload_n 2, 1) := by decide +kernel
theorem dX11_others_8 : decode cX11_others 8 = .ok (.invokestatic 296, 3) := by decide +kernel
theorem dX11_others_11 : decode cX11_others 11 = .ok (.ifCond .ne 9, 3) := by decide +kernel
theorem dX11_others_14 : decode cX11_others 14 = .ok (.aload_n 0, 1) := by decide +kernel
theorem dX11_others_15 : decode cX11_others 15 = .ok (.iconst 5, 1) := by decide +kernel
theorem dX11_others_16 : decode cX11_others 16 = .ok (.invokevirtual 142, 3) := by decide +kernel
theorem dX11_others_19 : decode cX11_others 19 = .ok (.ireturn, 1) := by decide +kernel
theorem dX11_others_20 : decode cX11_others 20 = .ok (.aload_n 0, 1) := by decide +kernel
theorem dX11_others_21 : decode cX11_others 21 = .ok (.aload_n 0, 1) := by decide +kernel
theorem dX11_others_22 : decode cX11_others 22 = .ok (.getfield 49, 3) := by decide +kernel
theorem dX11_others_25 : decode cX11_others 25 = .ok (.iload_n 1, 1) := by decide +kernel
theorem dX11_others_26 : decode cX11_others 26 = .ok (.iload_n 2, 1) := by decide +kernel
theorem dX11_others_27 : decode cX11_others 27 = .ok (.invokevirtual 302, 3) := by decide +kernel
theorem dX11_others_30 : decode cX11_others 30 = .ok (.invokevirtual 196, 3) := by decide +kernel
theorem dX11_others_33 : decode cX11_others 33 = .ok (.ireturn, 1) := by decide +kernel
theorem dX11_echoed_0 : decode cX11_echoed 0 = .ok (.iload_n 3, 1) := by decide +kernel
theorem dX11_echoed_1 : decode cX11_echoed 1 = .ok (.invokestatic 113, 3) := by decide +kernel
theorem dX11_echoed_4 : decode cX11_echoed 4 = .ok (.ifCond .ne 9, 3) := by decide +kernel
theorem dX11_echoed_7 : decode cX11_echoed 7 = .ok (.aload_n 0, 1) := by decide +kernel
theorem dX11_echoed_8 : decode cX11_echoed 8 = .ok (.iconst 1, 1) := by decide +kernel
theorem dX11_echoed_9 : decode cX11_echoed 9 = .ok (.invokevirtual 142, 3) := by decide +kernel
theorem dX11_echoed_12 : decode cX11_echoed 12 = .ok (.ireturn, 1) := by decide +kernel
theorem dX11_echoed_13 : decode cX11_echoed 13 = .ok (.aload_n 0, 1) := by decide +kernel
theorem dX11_echoed_14 : decode cX11_echoed 14 = .ok (.iload_n 1, 1) := by decide +kernel
theorem dX11_echoed_15 : decode cX11_echoed 15 = .ok (.invokevirtual 229, 3) := by decide +kernel
theorem dX11_echoed_18 : decode cX11_echoed 18 = .ok (.ifCond .ne 9, 3) := by decide +kernel
theorem dX11_echoed_21 : decode cX11_echoed 21 = .ok (.aload_n 0, 1) := by decide +kernel
theorem dX11_echoed_22 : decode cX11_echoed 22 = .ok (.iconst 2, 1) := by decide +kernel
theorem dX11_echoed_23 : decode cX11_echoed 23 = .ok (.invokevirtual 142, 3) := by decide +kernel
theorem dX11_echoed_26 : decode cX11_echoed 26 = .ok (.ireturn, 1) := by decide +kernel
theorem dX11_echoed_27 : decode cX11_echoed 27 = .ok (.iload_n 2, 1) := by decide +kernel
theorem dX11_echoed_28 : decode cX11_echoed 28 = .ok (.i2l, 1) := by decide +kernel
theorem dX11_echoed_29 : decode cX11_echoed 29 = .ok (.lconst 0, 1) := by decide +kernel
theorem dX11_echoed_30 : decode cX11_echoed 30 = .ok (.ldc2_w 305, 3) := by decide +kernel
theorem dX11_echoed_33 : decode cX11_echoed 33 = .ok (.invokestatic 119, 3) := by decide +kernel
theorem dX11_echoed_36 : decode cX11_echoed 36 = .ok (.ifCond .ne 9, 3) := by decide +kernel
theorem dX11_echoed_39 : decode cX11_echoed 39 = .ok (.aload_n 0, 1) := by decide +kernel
theorem dX11_echoed_40 : decode cX11_echoed 40 = .ok (.iconst 5, 1) := by decide +kernel
theorem dX11_echoed_41 : decode cX11_echoed 41 = .ok (.invokevirtual 142, 3) := by decide +kernel
theorem dX11_echoed_44 : decode cX11_echoed 44 = .ok (.ireturn, 1) := by decide +kernel
theorem dX11_echoed_45 : decode cX11_echoed 45 = .ok (.aload_n 0, 1) := by decide +kernel
theorem dX11_echoed_46 : decode cX11_echoed 46 = .ok (.getfield 42, 3) := by decide +kernel
theorem dX11_echoed_49 : decode cX11_echoed 49 = .ok (.getfield 232, 3) := by decide +kernel
theorem dX11_echoed_52 : decode cX11_echoed 52 = .ok (.iload_n 1, 1) := by decide +kernel
theorem dX11_echoed_53 : decode cX11_echoed 53 = .ok (.aaload, 1) := by decide +kernel
theorem dX11_echoed_54 : decode cX11_echoed 54 = .ok (.astore 4, 2) := by decide +kernel
theorem dX11_echoed_56 : decode cX11_echoed 56 = .ok (.aload_n 0, 1) := by decide +kernel
theorem dX11_echoed_57 : decode cX11_echoed 57 = .ok (.aload_n 0, 1) := by decide +kernel
theorem dX11_echoed_58 : decode cX11_echoed 58 = .ok (.aload 4, 2) := by decide +kernel
theorem dX11_echoed_60 : decode cX11_echoed 60 = .ok (.aload 4, 2) := by decide +kernel
theorem dX11_echoed_62 : decode cX11_echoed 62 = .ok (.iload_n 2, 1) := by decide +kernel
theorem dX11_echoed_63 : decode cX11_echoed 63 = .ok (.invokevirtual 285, 3) := by decide +kernel
theorem dX11_echoed_66 : decode cX11_echoed 66 = .ok (.iload_n 3, 1) := by decide +kernel
theorem dX11_echoed_67 : decode cX11_echoed 67 = .ok (.invokevirtual 265, 3) := by decide +kernel
theorem dX11_echoed_70 : decode cX11_echoed 70 = .ok (.ireturn, 1) := by decide +kernel
theorem dX11_clearest_0 : decode cX11_clearest 0 = .ok (.aload_n 0, 1) := by decide +kernel
theorem dX11_clearest_1 : decode cX11_clearest 1 = .ok (.iload_n 1, 1) := by decide +kernel
theorem dX11_clearest_2 : decode cX11_clearest 2 = .ok (.invokevirtual 239, 3) := by decide +kernel
theorem dX11_clearest_5 : decode cX11_clearest 5 = .ok (.ifCond .eq 11, 3) := by decide +kernel
theorem dX11_clearest_8 : decode cX11_clearest 8 = .ok (.aload_n 0, 1) := by decide +kernel
theorem dX11_clearest_9 : decode cX11_clearest 9 = .ok (.iload_n 2, 1) := by decide +kernel
theorem dX11_clearest_10 : decode cX11_clearest 10 = .ok (.invokevirtual 239, 3) := by decide +kernel
theorem dX11_clearest_13 : decode cX11_clearest 13 = .ok (.ifCond .ne 9, 3) := by decide +kernel
theorem dX11_clearest_16 : decode cX11_clearest 16 = .ok (.aload_n 0, 1) := by decide +kernel
theorem dX11_clearest_17 : decode cX11_clearest 17 = .ok (.iconst 2, 1) := by decide +kernel
theorem dX11_clearest_18 : decode cX11_clearest 18 = .ok (.invokevirtual 142, 3) := by decide +kernel
theorem dX11_clearest_21 : decode cX11_clearest 21 = .ok (.ireturn, 1) := by decide +kernel
theorem dX11_clearest_22 : decode cX11_clearest 22 = .ok (.iload_n 3, 1) := by decide +kernel
theorem dX11_clearest_23 : decode cX11_clearest 23 = .ok (.i2l, 1) := by decide +kernel
theorem dX11_clearest_24 : decode cX11_clearest 24 = .ok (.lconst 0, 1) := by decide +kernel
theorem dX11_clearest_25 : decode cX11_clearest 25 = .ok (.lconst 1, 1) := by decide +kernel
theorem dX11_clearest_26 : decode cX11_clearest 26 = .ok (.invokestatic 119, 3) := by decide +kernel
theorem dX11_clearest_29 : decode cX11_clearest 29 = .ok (.ifCond .ne 9, 3) := by decide +kernel
theorem dX11_clearest_32 : decode cX11_clearest 32 = .ok (.aload_n 0, 1) := by decide +kernel
theorem dX11_clearest_33 : decode cX11_clearest 33 = .ok (.iconst 5, 1) := by decide +kernel
theorem dX11_clearest_34 : decode cX11_clearest 34 = .ok (.invokevirtual 142, 3) := by decide +kernel
theorem dX11_clearest_37 : decode cX11_clearest 37 = .ok (.ireturn, 1) := by decide +kernel
theorem dX11_clearest_38 : decode cX11_clearest 38 = .ok (.aload_n 0, 1) := by decide +kernel
theorem dX11_clearest_39 : decode cX11_clearest 39 = .ok (.iload_n 1, 1) := by decide +kernel
theorem dX11_clearest_40 : decode cX11_clearest 40 = .ok (.invokevirtual 258, 3) := by decide +kernel
theorem dX11_clearest_43 : decode cX11_clearest 43 = .ok (.astore 4, 2) := by decide +kernel
theorem dX11_clearest_45 : decode cX11_clearest 45 = .ok (.aload_n 0, 1) := by decide +kernel
theorem dX11_clearest_46 : decode cX11_clearest 46 = .ok (.iload_n 2, 1) := by decide +kernel
theorem dX11_clearest_47 : decode cX11_clearest 47 = .ok (.invokevirtual 258, 3) := by decide +kernel
theorem dX11_clearest_50 : decode cX11_clearest 50 = .ok (.astore 5, 2) := by decide +kernel
theorem dX11_clearest_52 : decode cX11_clearest 52 = .ok (.iconst (-1), 1) := by decide +kernel
theorem dX11_clearest_53 : decode cX11_clearest 53 = .ok (.istore 6, 2) := by decide +kernel
theorem dX11_clearest_55 : decode cX11_clearest 55 = .ok (.iconst 0, 1) := by decide +kernel
theorem dX11_clearest_56 : decode cX11_clearest 56 = .ok (.istore 7, 2) := by decide +kernel
theorem dX11_clearest_58 : decode cX11_clearest 58 = .ok (.iconst 0, 1) := by decide +kernel
theorem dX11_clearest_59 : decode cX11_clearest 59 = .ok (.istore 8, 2) := by decide +kernel
theorem dX11_clearest_61 : decode cX11_clearest 61 = .ok (.iload 8, 2) := by decide +kernel
theorem dX11_clearest_63 : decode cX11_clearest 63 = .ok (.bipush 12, 2) := by decide +kernel
theorem dX11_clearest_65 : decode cX11_clearest 65 = .ok (.if_icmp .gt 39, 3) := by decide +kernel
theorem dX11_clearest_68 : decode cX11_clearest 68 = .ok (.aload_n 0, 1) := by decide +kernel
theorem dX11_clearest_69 : decode cX11_clearest 69 = .ok (.aload 4, 2) := by decide +kernel
theorem dX11_clearest_71 : decode cX11_clearest 71 = .ok (.aload 5, 2) := by decide +kernel
theorem dX11_clearest_73 : decode cX11_clearest 73 = .ok (.iload 8, 2) := by decide +kernel
theorem dX11_clearest_75 : decode cX11_clearest 75 = .ok (.invokevirtual 285, 3) := by decide +kernel
theorem dX11_clearest_78 : decode cX11_clearest 78 = .ok (.invokevirtual 307, 3) := by decide +kernel
theorem dX11_clearest_81 : decode cX11_clearest 81 = .ok (.istore 9, 2) := by decide +kernel
theorem dX11_clearest_83 : decode cX11_clearest 83 = .ok (.iload 9, 2) := by decide +kernel
theorem dX11_clearest_85 : decode cX11_clearest 85 = .ok (.iload 6, 2) := by decide +kernel
theorem dX11_clearest_87 : decode cX11_clearest 87 = .ok (.if_icmp .le 11, 3) := by decide +kernel
theorem dX11_clearest_90 : decode cX11_clearest 90 = .ok (.iload 9, 2) := by decide +kernel
theorem dX11_clearest_92 : decode cX11_clearest 92 = .ok (.istore 6, 2) := by decide +kernel
theorem dX11_clearest_94 : decode cX11_clearest 94 = .ok (.iload 8, 2) := by decide +kernel
theorem dX11_clearest_96 : decode cX11_clearest 96 = .ok (.istore 7, 2) := by decide +kernel
theorem dX11_clearest_98 : decode cX11_clearest 98 = .ok (.iinc 8 1, 3) := by decide +kernel
theorem dX11_clearest_101 : decode cX11_clearest 101 = .ok (.goto (-40), 3) := by decide +kernel
theorem dX11_clearest_104 : decode cX11_clearest 104 = .ok (.aload_n 0, 1) := by decide +kernel
theorem dX11_clearest_105 : decode cX11_clearest 105 = .ok (.iload_n 3, 1) := by decide +kernel
theorem dX11_clearest_106 : decode cX11_clearest 106 = .ok (.ifCond .ne 8, 3) := by decide +kernel
theorem dX11_clearest_109 : decode cX11_clearest 109 = .ok (.iload 7, 2) := by decide +kernel
theorem dX11_clearest_111 : decode cX11_clearest 111 = .ok (.goto 5, 3) := by decide +kernel
theorem dX11_clearest_114 : decode cX11_clearest 114 = .ok (.iload 6, 2) := by decide +kernel
theorem dX11_clearest_116 : decode cX11_clearest 116 = .ok (.invokevirtual 196, 3) := by decide +kernel
theorem dX11_clearest_119 : decode cX11_clearest 119 = .ok (.ireturn, 1) := by decide +kernel
theorem dX11_beside_0 : decode cX11_beside 0 = .ok (.iload_n 1, 1) := by decide +kernel
theorem dX11_beside_1 : decode cX11_beside 1 = .ok (.invokestatic 113, 3) := by decide +kernel
theorem dX11_beside_4 : decode cX11_beside 4 = .ok (.ifCond .ne 10, 3) := by decide +kernel
theorem dX11_beside_7 : decode cX11_beside 7 = .ok (.aload_n 0, 1) := by decide +kernel
theorem dX11_beside_8 : decode cX11_beside 8 = .ok (.iconst 1, 1) := by decide +kernel
theorem dX11_beside_9 : decode cX11_beside 9 = .ok (.invokevirtual 142, 3) := by decide +kernel
theorem dX11_beside_12 : decode cX11_beside 12 = .ok (.i2l, 1) := by decide +kernel
theorem dX11_beside_13 : decode cX11_beside 13 = .ok (.lreturn, 1) := by decide +kernel
theorem dX11_beside_14 : decode cX11_beside 14 = .ok (.aload_n 0, 1) := by decide +kernel
theorem dX11_beside_15 : decode cX11_beside 15 = .ok (.iload_n 3, 1) := by decide +kernel
theorem dX11_beside_16 : decode cX11_beside 16 = .ok (.invokevirtual 229, 3) := by decide +kernel
theorem dX11_beside_19 : decode cX11_beside 19 = .ok (.ifCond .ne 10, 3) := by decide +kernel
theorem dX11_beside_22 : decode cX11_beside 22 = .ok (.aload_n 0, 1) := by decide +kernel
theorem dX11_beside_23 : decode cX11_beside 23 = .ok (.iconst 2, 1) := by decide +kernel
theorem dX11_beside_24 : decode cX11_beside 24 = .ok (.invokevirtual 142, 3) := by decide +kernel
theorem dX11_beside_27 : decode cX11_beside 27 = .ok (.i2l, 1) := by decide +kernel
theorem dX11_beside_28 : decode cX11_beside 28 = .ok (.lreturn, 1) := by decide +kernel
theorem dX11_beside_29 : decode cX11_beside 29 = .ok (.aload_n 0, 1) := by decide +kernel
theorem dX11_beside_30 : decode cX11_beside 30 = .ok (.iload_n 1, 1) := by decide +kernel
theorem dX11_beside_31 : decode cX11_beside 31 = .ok (.iload_n 2, 1) := by decide +kernel
theorem dX11_beside_32 : decode cX11_beside 32 = .ok (.bipush 8, 2) := by decide +kernel
theorem dX11_beside_34 : decode cX11_beside 34 = .ok (.iconst 0, 1) := by decide +kernel
theorem dX11_beside_35 : decode cX11_beside 35 = .ok (.invokevirtual 289, 3) := by decide +kernel
theorem dX11_beside_38 : decode cX11_beside 38 = .ok (.istore 5, 2) := by decide +kernel
theorem dX11_beside_40 : decode cX11_beside 40 = .ok (.iload 5, 2) := by decide +kernel
theorem dX11_beside_42 : decode cX11_beside 42 = .ok (.ifCond .ne 19, 3) := by decide +kernel
theorem dX11_beside_45 : decode cX11_beside 45 = .ok (.iload 4, 2) := by decide +kernel
theorem dX11_beside_47 : decode cX11_beside 47 = .ok (.i2l, 1) := by decide +kernel
theorem dX11_beside_48 : decode cX11_beside 48 = .ok (.lconst 0, 1) := by decide +kernel
theorem dX11_beside_49 : decode cX11_beside 49 = .ok (.ldc2_w 305, 3) := by decide +kernel
theorem dX11_beside_52 : decode cX11_beside 52 = .ok (.invokestatic 119, 3) := by decide +kernel
theorem dX11_beside_55 : decode cX11_beside 55 = .ok (.ifCond .ne 6, 3) := by decide +kernel
theorem dX11_beside_58 : decode cX11_beside 58 = .ok (.iconst 5, 1) := by decide +kernel
theorem dX11_beside_59 : decode cX11_beside 59 = .ok (.istore 5, 2) := by decide +kernel
theorem dX11_beside_61 : decode cX11_beside 61 = .ok (.iload 5, 2) := by decide +kernel
theorem dX11_beside_63 : decode cX11_beside 63 = .ok (.ifCond .eq 11, 3) := by decide +kernel
theorem dX11_beside_66 : decode cX11_beside 66 = .ok (.aload_n 0, 1) := by decide +kernel
theorem dX11_beside_67 : decode cX11_beside 67 = .ok (.iload 5, 2) := by decide +kernel
theorem dX11_beside_69 : decode cX11_beside 69 = .ok (.invokevirtual 142, 3) := by decide +kernel
theorem dX11_beside_72 : decode cX11_beside 72 = .ok (.i2l, 1) := by decide +kernel
theorem dX11_beside_73 : decode cX11_beside 73 = .ok (.lreturn, 1) := by decide +kernel
theorem dX11_beside_74 : decode cX11_beside 74 = .ok (.lconst 1, 1) := by decide +kernel
theorem dX11_beside_75 : decode cX11_beside 75 = .ok (.lstore 6, 2) := by decide +kernel
theorem dX11_beside_77 : decode cX11_beside 77 = .ok (.iconst 0, 1) := by decide +kernel
theorem dX11_beside_78 : decode cX11_beside 78 = .ok (.istore 8, 2) := by decide +kernel
theorem dX11_beside_80 : decode cX11_beside 80 = .ok (.iload 8, 2) := by decide +kernel
theorem dX11_beside_82 : decode cX11_beside 82 = .ok (.iload_n 2, 1) := by decide +kernel
theorem dX11_beside_83 : decode cX11_beside 83 = .ok (.if_icmp .ge 58, 3) := by decide +kernel
theorem dX11_beside_86 : decode cX11_beside 86 = .ok (.aload_n 0, 1) := by decide +kernel
theorem dX11_beside_87 : decode cX11_beside 87 = .ok (.getfield 42, 3) := by decide +kernel
theorem dX11_beside_90 : decode cX11_beside 90 = .ok (.getfield 232, 3) := by decide +kernel
theorem dX11_beside_93 : decode cX11_beside 93 = .ok (.iload_n 3, 1) := by decide +kernel
theorem dX11_beside_94 : decode cX11_beside 94 = .ok (.aaload, 1) := by decide +kernel
theorem dX11_beside_95 : decode cX11_beside 95 = .ok (.iload 4, 2) := by decide +kernel
theorem dX11_beside_97 : decode cX11_beside 97 = .ok (.iload 8, 2) := by decide +kernel
theorem dX11_beside_99 : decode cX11_beside 99 = .ok (.iadd, 1) := by decide +kernel
theorem dX11_beside_100 : decode cX11_beside 100 = .ok (.invokevirtual 310, 3) := by decide +kernel
theorem dX11_beside_103 : decode cX11_beside 103 = .ok (.istore 9, 2) := by decide +kernel
theorem dX11_beside_105 : decode cX11_beside 105 = .ok (.lload 6, 2) := by decide +kernel
theorem dX11_beside_107 : decode cX11_beside 107 = .ok (.aload_n 0, 1) := by decide +kernel
theorem dX11_beside_108 : decode cX11_beside 108 = .ok (.getfield 49, 3) := by decide +kernel
theorem dX11_beside_111 : decode cX11_beside 111 = .ok (.iload 9, 2) := by decide +kernel
theorem dX11_beside_113 : decode cX11_beside 113 = .ok (.aload_n 0, 1) := by decide +kernel
theorem dX11_beside_114 : decode cX11_beside 114 = .ok (.getfield 10, 3) := by decide +kernel
theorem dX11_beside_117 : decode cX11_beside 117 = .ok (.iload_n 1, 1) := by decide +kernel
theorem dX11_beside_118 : decode cX11_beside 118 = .ok (.aaload, 1) := by decide +kernel
theorem dX11_beside_119 : decode cX11_beside 119 = .ok (.iload 8, 2) := by decide +kernel
theorem dX11_beside_121 : decode cX11_beside 121 = .ok (.invokevirtual 146, 3) := by decide +kernel
theorem dX11_beside_124 : decode cX11_beside 124 = .ok (.l2i, 1) := by decide +kernel
theorem dX11_beside_125 : decode cX11_beside 125 = .ok (.invokevirtual 302, 3) := by decide +kernel
theorem dX11_beside_128 : decode cX11_beside 128 = .ok (.invokestatic 224, 3) := by decide +kernel
theorem dX11_beside_131 : decode cX11_beside 131 = .ok (.i2l, 1) := by decide +kernel
theorem dX11_beside_132 : decode cX11_beside 132 = .ok (.lmul, 1) := by decide +kernel
theorem dX11_beside_133 : decode cX11_beside 133 = .ok (.lstore 6, 2) := by decide +kernel
theorem dX11_beside_135 : decode cX11_beside 135 = .ok (.iinc 8 1, 3) := by decide +kernel
theorem dX11_beside_138 : decode cX11_beside 138 = .ok (.goto (-58), 3) := by decide +kernel
theorem dX11_beside_141 : decode cX11_beside 141 = .ok (.aload_n 0, 1) := by decide +kernel
theorem dX11_beside_142 : decode cX11_beside 142 = .ok (.iconst 0, 1) := by decide +kernel
theorem dX11_beside_143 : decode cX11_beside 143 = .ok (.putfield 106, 3) := by decide +kernel
theorem dX11_beside_146 : decode cX11_beside 146 = .ok (.lload 6, 2) := by decide +kernel
theorem dX11_beside_148 : decode cX11_beside 148 = .ok (.lreturn, 1) := by decide +kernel
theorem dX11_fits_0 : decode cX11_fits 0 = .ok (.aload_n 0, 1) := by decide +kernel
theorem dX11_fits_1 : decode cX11_fits 1 = .ok (.iload_n 1, 1) := by decide +kernel
theorem dX11_fits_2 : decode cX11_fits 2 = .ok (.invokevirtual 313, 3) := by decide +kernel
theorem dX11_fits_5 : decode cX11_fits 5 = .ok (.ifCond .ne 9, 3) := by decide +kernel
theorem dX11_fits_8 : decode cX11_fits 8 = .ok (.aload_n 0, 1) := by decide +kernel
theorem dX11_fits_9 : decode cX11_fits 9 = .ok (.iconst 2, 1) := by decide +kernel
theorem dX11_fits_10 : decode cX11_fits 10 = .ok (.invokevirtual 142, 3) := by decide +kernel
theorem dX11_fits_13 : decode cX11_fits 13 = .ok (.ireturn, 1) := by decide +kernel
theorem dX11_fits_14 : decode cX11_fits 14 = .ok (.aload_n 0, 1) := by decide +kernel
theorem dX11_fits_15 : decode cX11_fits 15 = .ok (.getfield 42, 3) := by decide +kernel
theorem dX11_fits_18 : decode cX11_fits 18 = .ok (.invokevirtual 316, 3) := by decide +kernel
theorem dX11_fits_21 : decode cX11_fits 21 = .ok (.istore_n 2, 1) := by decide +kernel
theorem dX11_fits_22 : decode cX11_fits 22 = .ok (.iconst 0, 1) := by decide +kernel
theorem dX11_fits_23 : decode cX11_fits 23 = .ok (.istore_n 3, 1) := by decide +kernel
theorem dX11_fits_24 : decode cX11_fits 24 = .ok (.iload_n 3, 1) := by decide +kernel
theorem dX11_fits_25 : decode cX11_fits 25 = .ok (.aload_n 0, 1) := by decide +kernel
theorem dX11_fits_26 : decode cX11_fits 26 = .ok (.getfield 42, 3) := by decide +kernel
theorem dX11_fits_29 : decode cX11_fits 29 = .ok (.getfield 193, 3) := by decide +kernel
theorem dX11_fits_32 : decode cX11_fits 32 = .ok (.if_icmp .ge 32, 3) := by decide +kernel
theorem dX11_fits_35 : decode cX11_fits 35 = .ok (.iload_n 1, 1) := by decide +kernel
theorem dX11_fits_36 : decode cX11_fits 36 = .ok (.iload_n 3, 1) := by decide +kernel
theorem dX11_fits_37 : decode cX11_fits 37 = .ok (.invokestatic 319, 3) := by decide +kernel
theorem dX11_fits_40 : decode cX11_fits 40 = .ok (.ifCond .eq 18, 3) := by decide +kernel
theorem dX11_fits_43 : decode cX11_fits 43 = .ok (.iload_n 2, 1) := by decide +kernel
theorem dX11_fits_44 : decode cX11_fits 44 = .ok (.aload_n 0, 1) := by decide +kernel
theorem dX11_fits_45 : decode cX11_fits 45 = .ok (.getfield 42, 3) := by decide +kernel
theorem dX11_fits_48 : decode cX11_fits 48 = .ok (.aload_n 0, 1) := by decide +kernel
theorem dX11_fits_49 : decode cX11_fits 49 = .ok (.iload_n 3, 1) := by decide +kernel
theorem dX11_fits_50 : decode cX11_fits 50 = .ok (.invokevirtual 258, 3) := by decide +kernel
theorem dX11_fits_53 : decode cX11_fits 53 = .ok (.invokevirtual 322, 3) := by decide +kernel
theorem dX11_fits_56 : decode cX11_fits 56 = .ok (.iand, 1) := by decide +kernel
theorem dX11_fits_57 : decode cX11_fits 57 = .ok (.istore_n 2, 1) := by decide +kernel
theorem dX11_fits_58 : decode cX11_fits 58 = .ok (.iinc 3 1, 3) := by decide +kernel
theorem dX11_fits_61 : decode cX11_fits 61 = .ok (.goto (-37), 3) := by decide +kernel
theorem dX11_fits_64 : decode cX11_fits 64 = .ok (.aload_n 0, 1) := by decide +kernel
theorem dX11_fits_65 : decode cX11_fits 65 = .ok (.iload_n 2, 1) := by decide +kernel
theorem dX11_fits_66 : decode cX11_fits 66 = .ok (.invokevirtual 196, 3) := by decide +kernel
theorem dX11_fits_69 : decode cX11_fits 69 = .ok (.ireturn, 1) := by decide +kernel
theorem dX11_places_0 : decode cX11_places 0 = .ok (.aload_n 0, 1) := by decide +kernel
theorem dX11_places_1 : decode cX11_places 1 = .ok (.iload_n 1, 1) := by decide +kernel
theorem dX11_places_2 : decode cX11_places 2 = .ok (.invokevirtual 239, 3) := by decide +kernel
theorem dX11_places_5 : decode cX11_places 5 = .ok (.ifCond .eq 11, 3) := by decide +kernel
theorem dX11_places_8 : decode cX11_places 8 = .ok (.aload_n 0, 1) := by decide +kernel
theorem dX11_places_9 : decode cX11_places 9 = .ok (.iload_n 2, 1) := by decide +kernel
theorem dX11_places_10 : decode cX11_places 10 = .ok (.invokevirtual 229, 3) := by decide +kernel
theorem dX11_places_13 : decode cX11_places 13 = .ok (.ifCond .ne 9, 3) := by decide +kernel
theorem dX11_places_16 : decode cX11_places 16 = .ok (.aload_n 0, 1) := by decide +kernel
theorem dX11_places_17 : decode cX11_places 17 = .ok (.iconst 2, 1) := by decide +kernel
theorem dX11_places_18 : decode cX11_places 18 = .ok (.invokevirtual 142, 3) := by decide +kernel
theorem dX11_places_21 : decode cX11_places 21 = .ok (.ireturn, 1) := by decide +kernel
theorem dX11_places_22 : decode cX11_places 22 = .ok (.aload_n 0, 1) := by decide +kernel
theorem dX11_places_23 : decode cX11_places 23 = .ok (.aload_n 0, 1) := by decide +kernel
theorem dX11_places_24 : decode cX11_places 24 = .ok (.iload_n 1, 1) := by decide +kernel
theorem dX11_places_25 : decode cX11_places 25 = .ok (.invokevirtual 258, 3) := by decide +kernel
theorem dX11_places_28 : decode cX11_places 28 = .ok (.aload_n 0, 1) := by decide +kernel
theorem dX11_places_29 : decode cX11_places 29 = .ok (.getfield 42, 3) := by decide +kernel
theorem dX11_places_32 : decode cX11_places 32 = .ok (.getfield 232, 3) := by decide +kernel
theorem dX11_places_35 : decode cX11_places 35 = .ok (.iload_n 2, 1) := by decide +kernel
theorem dX11_places_36 : decode cX11_places 36 = .ok (.aaload, 1) := by decide +kernel
theorem dX11_places_37 : decode cX11_places 37 = .ok (.invokevirtual 326, 3) := by decide +kernel
theorem dX11_places_40 : decode cX11_places 40 = .ok (.invokevirtual 196, 3) := by decide +kernel
theorem dX11_places_43 : decode cX11_places 43 = .ok (.ireturn, 1) := by decide +kernel
theorem dX11_speaks_0 : decode cX11_speaks 0 = .ok (.aload_n 0, 1) := by decide +kernel
theorem dX11_speaks_1 : decode cX11_speaks 1 = .ok (.iload_n 1, 1) := by decide +kernel
theorem dX11_speaks_2 : decode cX11_speaks 2 = .ok (.invokevirtual 229, 3) := by decide +kernel
theorem dX11_speaks_5 : decode cX11_speaks 5 = .ok (.ifCond .ne 9, 3) := by decide +kernel
theorem dX11_speaks_8 : decode cX11_speaks 8 = .ok (.aload_n 0, 1) := by decide +kernel
theorem dX11_speaks_9 : decode cX11_speaks 9 = .ok (.iconst 2, 1) := by decide +kernel
theorem dX11_speaks_10 : decode cX11_speaks 10 = .ok (.invokevirtual 142, 3) := by decide +kernel
theorem dX11_speaks_13 : decode cX11_speaks 13 = .ok (.ireturn, 1) := by decide +kernel
theorem dX11_speaks_14 : decode cX11_speaks 14 = .ok (.aload_n 0, 1) := by decide +kernel
theorem dX11_speaks_15 : decode cX11_speaks 15 = .ok (.aload_n 0, 1) := by decide +kernel
theorem dX11_speaks_16 : decode cX11_speaks 16 = .ok (.iload_n 1, 1) := by decide +kernel
theorem dX11_speaks_17 : decode cX11_speaks 17 = .ok (.invokevirtual 329, 3) := by decide +kernel
theorem dX11_speaks_20 : decode cX11_speaks 20 = .ok (.invokevirtual 196, 3) := by decide +kernel
theorem dX11_speaks_23 : decode cX11_speaks 23 = .ok (.ireturn, 1) := by decide +kernel
theorem dX11_kinds_0 : decode cX11_kinds 0 = .ok (.aload_n 0, 1) := by decide +kernel
theorem dX11_kinds_1 : decode cX11_kinds 1 = .ok (.iload_n 1, 1) := by decide +kernel
theorem dX11_kinds_2 : decode cX11_kinds 2 = .ok (.invokevirtual 313, 3) := by decide +kernel
theorem dX11_kinds_5 : decode cX11_kinds 5 = .ok (.ifCond .ne 9, 3) := by decide +kernel
theorem dX11_kinds_8 : decode cX11_kinds 8 = .ok (.aload_n 0, 1) := by decide +kernel
theorem dX11_kinds_9 : decode cX11_kinds 9 = .ok (.iconst 2, 1) := by decide +kernel
theorem dX11_kinds_10 : decode cX11_kinds 10 = .ok (.invokevirtual 142, 3) := by decide +kernel
theorem dX11_kinds_13 : decode cX11_kinds 13 = .ok (.ireturn, 1) := by decide +kernel
theorem dX11_kinds_14 : decode cX11_kinds 14 = .ok (.iconst 0, 1) := by decide +kernel
theorem dX11_kinds_15 : decode cX11_kinds 15 = .ok (.istore_n 2, 1) := by decide +kernel
theorem dX11_kinds_16 : decode cX11_kinds 16 = .ok (.iconst 0, 1) := by decide +kernel
theorem dX11_kinds_17 : decode cX11_kinds 17 = .ok (.istore_n 3, 1) := by decide +kernel
theorem dX11_kinds_18 : decode cX11_kinds 18 = .ok (.iload_n 3, 1) := by decide +kernel
theorem dX11_kinds_19 : decode cX11_kinds 19 = .ok (.aload_n 0, 1) := by decide +kernel
theorem dX11_kinds_20 : decode cX11_kinds 20 = .ok (.getfield 42, 3) := by decide +kernel
theorem dX11_kinds_23 : decode cX11_kinds 23 = .ok (.getfield 193, 3) := by decide +kernel
theorem dX11_kinds_26 : decode cX11_kinds 26 = .ok (.if_icmp .ge 28, 3) := by decide +kernel
theorem dX11_kinds_29 : decode cX11_kinds 29 = .ok (.iload_n 1, 1) := by decide +kernel
theorem dX11_kinds_30 : decode cX11_kinds 30 = .ok (.iload_n 3, 1) := by decide +kernel
theorem dX11_kinds_31 : decode cX11_kinds 31 = .ok (.invokestatic 319, 3) := by decide +kernel
theorem dX11_kinds_34 : decode cX11_kinds 34 = .ok (.ifCond .eq 14, 3) := by decide +kernel
theorem dX11_kinds_37 : decode cX11_kinds 37 = .ok (.iload_n 2, 1) := by decide +kernel
theorem dX11_kinds_38 : decode cX11_kinds 38 = .ok (.aload_n 0, 1) := by decide +kernel
theorem dX11_kinds_39 : decode cX11_kinds 39 = .ok (.iload_n 3, 1) := by decide +kernel
theorem dX11_kinds_40 : decode cX11_kinds 40 = .ok (.invokevirtual 258, 3) := by decide +kernel
theorem dX11_kinds_43 : decode cX11_kinds 43 = .ok (.invokevirtual 332, 3) := by decide +kernel
theorem dX11_kinds_46 : decode cX11_kinds 46 = .ok (.ior, 1) := by decide +kernel
theorem dX11_kinds_47 : decode cX11_kinds 47 = .ok (.istore_n 2, 1) := by decide +kernel
theorem dX11_kinds_48 : decode cX11_kinds 48 = .ok (.iinc 3 1, 3) := by decide +kernel
theorem dX11_kinds_51 : decode cX11_kinds 51 = .ok (.goto (-33), 3) := by decide +kernel
theorem dX11_kinds_54 : decode cX11_kinds 54 = .ok (.aload_n 0, 1) := by decide +kernel
theorem dX11_kinds_55 : decode cX11_kinds 55 = .ok (.iload_n 2, 1) := by decide +kernel
theorem dX11_kinds_56 : decode cX11_kinds 56 = .ok (.invokestatic 224, 3) := by decide +kernel
theorem dX11_kinds_59 : decode cX11_kinds 59 = .ok (.invokevirtual 196, 3) := by decide +kernel
theorem dX11_kinds_62 : decode cX11_kinds 62 = .ok (.ireturn, 1) := by decide +kernel
theorem dX11_laps_0 : decode cX11_laps 0 = .ok (.aload_n 0, 1) := by decide +kernel
theorem dX11_laps_1 : decode cX11_laps 1 = .ok (.iload_n 1, 1) := by decide +kernel
theorem dX11_laps_2 : decode cX11_laps 2 = .ok (.invokevirtual 239, 3) := by decide +kernel
theorem dX11_laps_5 : decode cX11_laps 5 = .ok (.ifCond .eq 11, 3) := by decide +kernel
theorem dX11_laps_8 : decode cX11_laps 8 = .ok (.aload_n 0, 1) := by decide +kernel
theorem dX11_laps_9 : decode cX11_laps 9 = .ok (.iload_n 2, 1) := by decide +kernel
theorem dX11_laps_10 : decode cX11_laps 10 = .ok (.invokevirtual 239, 3) := by decide +kernel
theorem dX11_laps_13 : decode cX11_laps 13 = .ok (.ifCond .ne 9, 3) := by decide +kernel
theorem dX11_laps_16 : decode cX11_laps 16 = .ok (.aload_n 0, 1) := by decide +kernel
theorem dX11_laps_17 : decode cX11_laps 17 = .ok (.iconst 2, 1) := by decide +kernel
theorem dX11_laps_18 : decode cX11_laps 18 = .ok (.invokevirtual 142, 3) := by decide +kernel
theorem dX11_laps_21 : decode cX11_laps 21 = .ok (.ireturn, 1) := by decide +kernel
theorem dX11_laps_22 : decode cX11_laps 22 = .ok (.aload_n 0, 1) := by decide +kernel
theorem dX11_laps_23 : decode cX11_laps 23 = .ok (.aload_n 0, 1) := by decide +kernel
theorem dX11_laps_24 : decode cX11_laps 24 = .ok (.iload_n 1, 1) := by decide +kernel
theorem dX11_laps_25 : decode cX11_laps 25 = .ok (.invokevirtual 258, 3) := by decide +kernel
theorem dX11_laps_28 : decode cX11_laps 28 = .ok (.aload_n 0, 1) := by decide +kernel
theorem dX11_laps_29 : decode cX11_laps 29 = .ok (.iload_n 2, 1) := by decide +kernel
theorem dX11_laps_30 : decode cX11_laps 30 = .ok (.invokevirtual 258, 3) := by decide +kernel
theorem dX11_laps_33 : decode cX11_laps 33 = .ok (.invokevirtual 335, 3) := by decide +kernel
theorem dX11_laps_36 : decode cX11_laps 36 = .ok (.invokevirtual 196, 3) := by decide +kernel
theorem dX11_laps_39 : decode cX11_laps 39 = .ok (.ireturn, 1) := by decide +kernel
theorem dX11_merged_0 : decode cX11_merged 0 = .ok (.aload_n 0, 1) := by decide +kernel
theorem dX11_merged_1 : decode cX11_merged 1 = .ok (.iload_n 1, 1) := by decide +kernel
theorem dX11_merged_2 : decode cX11_merged 2 = .ok (.invokevirtual 313, 3) := by decide +kernel
theorem dX11_merged_5 : decode cX11_merged 5 = .ok (.ifCond .ne 9, 3) := by decide +kernel
theorem dX11_merged_8 : decode cX11_merged 8 = .ok (.aload_n 0, 1) := by decide +kernel
theorem dX11_merged_9 : decode cX11_merged 9 = .ok (.iconst 2, 1) := by decide +kernel
theorem dX11_merged_10 : decode cX11_merged 10 = .ok (.invokevirtual 142, 3) := by decide +kernel
theorem dX11_merged_13 : decode cX11_merged 13 = .ok (.ireturn, 1) := by decide +kernel
theorem dX11_merged_14 : decode cX11_merged 14 = .ok (.iload_n 1, 1) := by decide +kernel
theorem dX11_merged_15 : decode cX11_merged 15 = .ok (.invokestatic 224, 3) := by decide +kernel
theorem dX11_merged_18 : decode cX11_merged 18 = .ok (.bipush 6, 2) := by decide +kernel
theorem dX11_merged_20 : decode cX11_merged 20 = .ok (.if_icmp .le 9, 3) := by decide +kernel
theorem dX11_merged_23 : decode cX11_merged 23 = .ok (.aload_n 0, 1) := by decide +kernel
theorem dX11_merged_24 : decode cX11_merged 24 = .ok (.iconst 5, 1) := by decide +kernel
theorem dX11_merged_25 : decode cX11_merged 25 = .ok (.invokevirtual 142, 3) := by decide +kernel
theorem dX11_merged_28 : decode cX11_merged 28 = .ok (.ireturn, 1) := by decide +kernel
theorem dX11_merged_29 : decode cX11_merged 29 = .ok (.aload_n 0, 1) := by decide +kernel
theorem dX11_merged_30 : decode cX11_merged 30 = .ok (.getfield 91, 3) := by decide +kernel
theorem dX11_merged_33 : decode cX11_merged 33 = .ok (.invokevirtual 338, 3) := by decide +kernel
theorem dX11_merged_36 : decode cX11_merged 36 = .ok (.iconst 0, 1) := by decide +kernel
theorem dX11_merged_37 : decode cX11_merged 37 = .ok (.istore_n 2, 1) := by decide +kernel
theorem dX11_merged_38 : decode cX11_merged 38 = .ok (.iload_n 2, 1) := by decide +kernel
theorem dX11_merged_39 : decode cX11_merged 39 = .ok (.aload_n 0, 1) := by decide +kernel
theorem dX11_merged_40 : decode cX11_merged 40 = .ok (.getfield 42, 3) := by decide +kernel
theorem dX11_merged_43 : decode cX11_merged 43 = .ok (.getfield 193, 3) := by decide +kernel
theorem dX11_merged_46 : decode cX11_merged 46 = .ok (.if_icmp .ge 29, 3) := by decide +kernel
theorem dX11_merged_49 : decode cX11_merged 49 = .ok (.iload_n 1, 1) := by decide +kernel
theorem dX11_merged_50 : decode cX11_merged 50 = .ok (.iload_n 2, 1) := by decide +kernel
theorem dX11_merged_51 : decode cX11_merged 51 = .ok (.invokestatic 319, 3) := by decide +kernel
theorem dX11_merged_54 : decode cX11_merged 54 = .ok (.ifCond .eq 15, 3) := by decide +kernel
theorem dX11_merged_57 : decode cX11_merged 57 = .ok (.aload_n 0, 1) := by decide +kernel
theorem dX11_merged_58 : decode cX11_merged 58 = .ok (.getfield 91, 3) := by decide +kernel
theorem dX11_merged_61 : decode cX11_merged 61 = .ok (.aload_n 0, 1) := by decide +kernel
theorem dX11_merged_62 : decode cX11_merged 62 = .ok (.iload_n 2, 1) := by decide +kernel
theorem dX11_merged_63 : decode cX11_merged 63 = .ok (.invokevirtual 258, 3) := by decide +kernel
theorem dX11_merged_66 : decode cX11_merged 66 = .ok (.invokevirtual 341, 3) := by decide +kernel
theorem dX11_merged_69 : decode cX11_merged 69 = .ok (.iinc 2 1, 3) := by decide +kernel
theorem dX11_merged_72 : decode cX11_merged 72 = .ok (.goto (-34), 3) := by decide +kernel
theorem dX11_merged_75 : decode cX11_merged 75 = .ok (.aload_n 0, 1) := by decide +kernel
theorem dX11_merged_76 : decode cX11_merged 76 = .ok (.getfield 91, 3) := by decide +kernel
theorem dX11_merged_79 : decode cX11_merged 79 = .ok (.invokevirtual 345, 3) := by decide +kernel
theorem dX11_merged_82 : decode cX11_merged 82 = .ok (.aload_n 0, 1) := by decide +kernel
theorem dX11_merged_83 : decode cX11_merged 83 = .ok (.aload_n 0, 1) := by decide +kernel
theorem dX11_merged_84 : decode cX11_merged 84 = .ok (.getfield 91, 3) := by decide +kernel
theorem dX11_merged_87 : decode cX11_merged 87 = .ok (.getfield 348, 3) := by decide +kernel
theorem dX11_merged_90 : decode cX11_merged 90 = .ok (.getfield 262, 3) := by decide +kernel
theorem dX11_merged_93 : decode cX11_merged 93 = .ok (.invokevirtual 196, 3) := by decide +kernel
theorem dX11_merged_96 : decode cX11_merged 96 = .ok (.ireturn, 1) := by decide +kernel
theorem dX11_mergedAt_0 : decode cX11_mergedAt 0 = .ok (.aload_n 0, 1) := by decide +kernel
theorem dX11_mergedAt_1 : decode cX11_mergedAt 1 = .ok (.aload_n 0, 1) := by decide +kernel
theorem dX11_mergedAt_2 : decode cX11_mergedAt 2 = .ok (.getfield 91, 3) := by decide +kernel
theorem dX11_mergedAt_5 : decode cX11_mergedAt 5 = .ok (.getfield 348, 3) := by decide +kernel
theorem dX11_mergedAt_8 : decode cX11_mergedAt 8 = .ok (.iload_n 1, 1) := by decide +kernel
theorem dX11_mergedAt_9 : decode cX11_mergedAt 9 = .ok (.invokevirtual 235, 3) := by decide +kernel
theorem dX11_mergedAt_12 : decode cX11_mergedAt 12 = .ok (.ireturn, 1) := by decide +kernel
theorem dX11_since_0 : decode cX11_since 0 = .ok (.aload_n 0, 1) := by decide +kernel
theorem dX11_since_1 : decode cX11_since 1 = .ok (.iload_n 1, 1) := by decide +kernel
theorem dX11_since_2 : decode cX11_since 2 = .ok (.invokevirtual 239, 3) := by decide +kernel
theorem dX11_since_5 : decode cX11_since 5 = .ok (.ifCond .ne 9, 3) := by decide +kernel
theorem dX11_since_8 : decode cX11_since 8 = .ok (.aload_n 0, 1) := by decide +kernel
theorem dX11_since_9 : decode cX11_since 9 = .ok (.iconst 2, 1) := by decide +kernel
theorem dX11_since_10 : decode cX11_since 10 = .ok (.invokevirtual 142, 3) := by decide +kernel
theorem dX11_since_13 : decode cX11_since 13 = .ok (.ireturn, 1) := by decide +kernel
theorem dX11_since_14 : decode cX11_since 14 = .ok (.iload_n 2, 1) := by decide +kernel
theorem dX11_since_15 : decode cX11_since 15 = .ok (.i2l, 1) := by decide +kernel
theorem dX11_since_16 : decode cX11_since 16 = .ok (.lconst 0, 1) := by decide +kernel
theorem dX11_since_17 : decode cX11_since 17 = .ok (.ldc2_w 351, 3) := by decide +kernel
theorem dX11_since_20 : decode cX11_since 20 = .ok (.invokestatic 119, 3) := by decide +kernel
theorem dX11_since_23 : decode cX11_since 23 = .ok (.ifCond .eq 13, 3) := by decide +kernel
theorem dX11_since_26 : decode cX11_since 26 = .ok (.iload_n 3, 1) := by decide +kernel
theorem dX11_since_27 : decode cX11_since 27 = .ok (.i2l, 1) := by decide +kernel
theorem dX11_since_28 : decode cX11_since 28 = .ok (.lconst 0, 1) := by decide +kernel
theorem dX11_since_29 : decode cX11_since 29 = .ok (.lconst 1, 1) := by decide +kernel
theorem dX11_since_30 : decode cX11_since 30 = .ok (.invokestatic 119, 3) := by decide +kernel
theorem dX11_since_33 : decode cX11_since 33 = .ok (.ifCond .ne 9, 3) := by decide +kernel
theorem dX11_since_36 : decode cX11_since 36 = .ok (.aload_n 0, 1) := by decide +kernel
theorem dX11_since_37 : decode cX11_since 37 = .ok (.iconst 5, 1) := by decide +kernel
theorem dX11_since_38 : decode cX11_since 38 = .ok (.invokevirtual 142, 3) := by decide +kernel
theorem dX11_since_41 : decode cX11_since 41 = .ok (.ireturn, 1) := by decide +kernel
theorem dX11_since_42 : decode cX11_since 42 = .ok (.aload_n 0, 1) := by decide +kernel
theorem dX11_since_43 : decode cX11_since 43 = .ok (.getfield 42, 3) := by decide +kernel
theorem dX11_since_46 : decode cX11_since 46 = .ok (.getfield 246, 3) := by decide +kernel
theorem dX11_since_49 : decode cX11_since 49 = .ok (.iload_n 1, 1) := by decide +kernel
theorem dX11_since_50 : decode cX11_since 50 = .ok (.aaload, 1) := by decide +kernel
theorem dX11_since_51 : decode cX11_since 51 = .ok (.astore 4, 2) := by decide +kernel
theorem dX11_since_53 : decode cX11_since 53 = .ok (.aload_n 0, 1) := by decide +kernel
theorem dX11_since_54 : decode cX11_since 54 = .ok (.iload_n 3, 1) := by decide +kernel
theorem dX11_since_55 : decode cX11_since 55 = .ok (.ifCond .ne 12, 3) := by decide +kernel
theorem dX11_since_58 : decode cX11_since 58 = .ok (.aload 4, 2) := by decide +kernel
theorem dX11_since_60 : decode cX11_since 60 = .ok (.iload_n 2, 1) := by decide +kernel
theorem dX11_since_61 : decode cX11_since 61 = .ok (.invokevirtual 271, 3) := by decide +kernel
theorem dX11_since_64 : decode cX11_since 64 = .ok (.goto 9, 3) := by decide +kernel
theorem dX11_since_67 : decode cX11_since 67 = .ok (.aload 4, 2) := by decide +kernel
theorem dX11_since_69 : decode cX11_since 69 = .ok (.iload_n 2, 1) := by decide +kernel
theorem dX11_since_70 : decode cX11_since 70 = .ok (.invokevirtual 353, 3) := by decide +kernel
theorem dX11_since_73 : decode cX11_since 73 = .ok (.invokevirtual 274, 3) := by decide +kernel
theorem dX11_since_76 : decode cX11_since 76 = .ok (.ireturn, 1) := by decide +kernel
theorem dX11_far_0 : decode cX11_far 0 = .ok (.aload_n 0, 1) := by decide +kernel
theorem dX11_far_1 : decode cX11_far 1 = .ok (.iload_n 1, 1) := by decide +kernel
theorem dX11_far_2 : decode cX11_far 2 = .ok (.invokevirtual 239, 3) := by decide +kernel
theorem dX11_far_5 : decode cX11_far 5 = .ok (.ifCond .eq 11, 3) := by decide +kernel
theorem dX11_far_8 : decode cX11_far 8 = .ok (.aload_n 0, 1) := by decide +kernel
theorem dX11_far_9 : decode cX11_far 9 = .ok (.iload_n 2, 1) := by decide +kernel
theorem dX11_far_10 : decode cX11_far 10 = .ok (.invokevirtual 229, 3) := by decide +kernel
theorem dX11_far_13 : decode cX11_far 13 = .ok (.ifCond .ne 9, 3) := by decide +kernel
theorem dX11_far_16 : decode cX11_far 16 = .ok (.aload_n 0, 1) := by decide +kernel
theorem dX11_far_17 : decode cX11_far 17 = .ok (.iconst 2, 1) := by decide +kernel
theorem dX11_far_18 : decode cX11_far 18 = .ok (.invokevirtual 142, 3) := by decide +kernel
theorem dX11_far_21 : decode cX11_far 21 = .ok (.ireturn, 1) := by decide +kernel
theorem dX11_far_22 : decode cX11_far 22 = .ok (.aload_n 0, 1) := by decide +kernel
theorem dX11_far_23 : decode cX11_far 23 = .ok (.aload_n 0, 1) := by decide +kernel
theorem dX11_far_24 : decode cX11_far 24 = .ok (.iload_n 1, 1) := by decide +kernel
theorem dX11_far_25 : decode cX11_far 25 = .ok (.invokevirtual 258, 3) := by decide +kernel
theorem dX11_far_28 : decode cX11_far 28 = .ok (.aload_n 0, 1) := by decide +kernel
theorem dX11_far_29 : decode cX11_far 29 = .ok (.getfield 42, 3) := by decide +kernel
theorem dX11_far_32 : decode cX11_far 32 = .ok (.getfield 232, 3) := by decide +kernel
theorem dX11_far_35 : decode cX11_far 35 = .ok (.iload_n 2, 1) := by decide +kernel
theorem dX11_far_36 : decode cX11_far 36 = .ok (.aaload, 1) := by decide +kernel
theorem dX11_far_37 : decode cX11_far 37 = .ok (.aload_n 0, 1) := by decide +kernel
theorem dX11_far_38 : decode cX11_far 38 = .ok (.getfield 78, 3) := by decide +kernel
theorem dX11_far_41 : decode cX11_far 41 = .ok (.invokevirtual 356, 3) := by decide +kernel
theorem dX11_far_44 : decode cX11_far 44 = .ok (.invokevirtual 196, 3) := by decide +kernel
theorem dX11_far_47 : decode cX11_far 47 = .ok (.ireturn, 1) := by decide +kernel
theorem dX11_common_0 : decode cX11_common 0 = .ok (.aload_n 0, 1) := by decide +kernel
theorem dX11_common_1 : decode cX11_common 1 = .ok (.iload_n 1, 1) := by decide +kernel
theorem dX11_common_2 : decode cX11_common 2 = .ok (.invokevirtual 239, 3) := by decide +kernel
theorem dX11_common_5 : decode cX11_common 5 = .ok (.ifCond .eq 11, 3) := by decide +kernel
theorem dX11_common_8 : decode cX11_common 8 = .ok (.aload_n 0, 1) := by decide +kernel
theorem dX11_common_9 : decode cX11_common 9 = .ok (.iload_n 2, 1) := by decide +kernel
theorem dX11_common_10 : decode cX11_common 10 = .ok (.invokevirtual 239, 3) := by decide +kernel
theorem dX11_common_13 : decode cX11_common 13 = .ok (.ifCond .ne 9, 3) := by decide +kernel
theorem dX11_common_16 : decode cX11_common 16 = .ok (.aload_n 0, 1) := by decide +kernel
theorem dX11_common_17 : decode cX11_common 17 = .ok (.iconst 2, 1) := by decide +kernel
theorem dX11_common_18 : decode cX11_common 18 = .ok (.invokevirtual 142, 3) := by decide +kernel
theorem dX11_common_21 : decode cX11_common 21 = .ok (.ireturn, 1) := by decide +kernel
theorem dX11_common_22 : decode cX11_common 22 = .ok (.aload_n 0, 1) := by decide +kernel
theorem dX11_common_23 : decode cX11_common 23 = .ok (.iload_n 1, 1) := by decide +kernel
theorem dX11_common_24 : decode cX11_common 24 = .ok (.invokevirtual 258, 3) := by decide +kernel
theorem dX11_common_27 : decode cX11_common 27 = .ok (.astore_n 3, 1) := by decide +kernel
theorem dX11_common_28 : decode cX11_common 28 = .ok (.aload_n 0, 1) := by decide +kernel
theorem dX11_common_29 : decode cX11_common 29 = .ok (.iload_n 2, 1) := by decide +kernel
theorem dX11_common_30 : decode cX11_common 30 = .ok (.invokevirtual 258, 3) := by decide +kernel
theorem dX11_common_33 : decode cX11_common 33 = .ok (.astore 4, 2) := by decide +kernel
theorem dX11_common_35 : decode cX11_common 35 = .ok (.iconst 0, 1) := by decide +kernel
theorem dX11_common_36 : decode cX11_common 36 = .ok (.istore 5, 2) := by decide +kernel
theorem dX11_common_38 : decode cX11_common 38 = .ok (.iconst 0, 1) := by decide +kernel
theorem dX11_common_39 : decode cX11_common 39 = .ok (.istore 6, 2) := by decide +kernel
theorem dX11_common_41 : decode cX11_common 41 = .ok (.iload 6, 2) := by decide +kernel
theorem dX11_common_43 : decode cX11_common 43 = .ok (.aload_n 3, 1) := by decide +kernel
theorem dX11_common_44 : decode cX11_common 44 = .ok (.getfield 262, 3) := by decide +kernel
theorem dX11_common_47 : decode cX11_common 47 = .ok (.if_icmp .ge 24, 3) := by decide +kernel
theorem dX11_common_50 : decode cX11_common 50 = .ok (.iload 5, 2) := by decide +kernel
theorem dX11_common_52 : decode cX11_common 52 = .ok (.aload_n 3, 1) := by decide +kernel
theorem dX11_common_53 : decode cX11_common 53 = .ok (.aload 4, 2) := by decide +kernel
theorem dX11_common_55 : decode cX11_common 55 = .ok (.iload 6, 2) := by decide +kernel
theorem dX11_common_57 : decode cX11_common 57 = .ok (.invokevirtual 360, 3) := by decide +kernel
theorem dX11_common_60 : decode cX11_common 60 = .ok (.invokestatic 363, 3) := by decide +kernel
theorem dX11_common_63 : decode cX11_common 63 = .ok (.istore 5, 2) := by decide +kernel
theorem dX11_common_65 : decode cX11_common 65 = .ok (.iinc 6 1, 3) := by decide +kernel
theorem dX11_common_68 : decode cX11_common 68 = .ok (.goto (-27), 3) := by decide +kernel
theorem dX11_common_71 : decode cX11_common 71 = .ok (.aload_n 0, 1) := by decide +kernel
theorem dX11_common_72 : decode cX11_common 72 = .ok (.iload 5, 2) := by decide +kernel
theorem dX11_common_74 : decode cX11_common 74 = .ok (.invokevirtual 196, 3) := by decide +kernel
theorem dX11_common_77 : decode cX11_common 77 = .ok (.ireturn, 1) := by decide +kernel
theorem dX11_chain_0 : decode cX11_chain 0 = .ok (.iload_n 1, 1) := by decide +kernel
theorem dX11_chain_1 : decode cX11_chain 1 = .ok (.i2l, 1) := by decide +kernel
theorem dX11_chain_2 : decode cX11_chain 2 = .ok (.lconst 1, 1) := by decide +kernel
theorem dX11_chain_3 : decode cX11_chain 3 = .ok (.ldc2_w 366, 3) := by decide +kernel
theorem dX11_chain_6 : decode cX11_chain 6 = .ok (.invokestatic 119, 3) := by decide +kernel
theorem dX11_chain_9 : decode cX11_chain 9 = .ok (.ifCond .ne 9, 3) := by decide +kernel
theorem dX11_chain_12 : decode cX11_chain 12 = .ok (.aload_n 0, 1) := by decide +kernel
theorem dX11_chain_13 : decode cX11_chain 13 = .ok (.iconst 5, 1) := by decide +kernel
theorem dX11_chain_14 : decode cX11_chain 14 = .ok (.invokevirtual 142, 3) := by decide +kernel
theorem dX11_chain_17 : decode cX11_chain 17 = .ok (.ireturn, 1) := by decide +kernel
theorem dX11_chain_18 : decode cX11_chain 18 = .ok (.aload_n 0, 1) := by decide +kernel
theorem dX11_chain_19 : decode cX11_chain 19 = .ok (.getfield 42, 3) := by decide +kernel
theorem dX11_chain_22 : decode cX11_chain 22 = .ok (.getfield 193, 3) := by decide +kernel
theorem dX11_chain_25 : decode cX11_chain 25 = .ok (.ifCond .ne 10, 3) := by decide +kernel
theorem dX11_chain_28 : decode cX11_chain 28 = .ok (.aload_n 0, 1) := by decide +kernel
theorem dX11_chain_29 : decode cX11_chain 29 = .ok (.bipush 8, 2) := by decide +kernel
theorem dX11_chain_31 : decode cX11_chain 31 = .ok (.invokevirtual 142, 3) := by decide +kernel
theorem dX11_chain_34 : decode cX11_chain 34 = .ok (.ireturn, 1) := by decide +kernel
theorem dX11_chain_35 : decode cX11_chain 35 = .ok (.iconst 0, 1) := by decide +kernel
theorem dX11_chain_36 : decode cX11_chain 36 = .ok (.istore_n 2, 1) := by decide +kernel
theorem dX11_chain_37 : decode cX11_chain 37 = .ok (.iload_n 2, 1) := by decide +kernel
theorem dX11_chain_38 : decode cX11_chain 38 = .ok (.aload_n 0, 1) := by decide +kernel
theorem dX11_chain_39 : decode cX11_chain 39 = .ok (.getfield 42, 3) := by decide +kernel
theorem dX11_chain_42 : decode cX11_chain 42 = .ok (.getfield 193, 3) := by decide +kernel
theorem dX11_chain_45 : decode cX11_chain 45 = .ok (.if_icmp .ge 23, 3) := by decide +kernel
theorem dX11_chain_48 : decode cX11_chain 48 = .ok (.aload_n 0, 1) := by decide +kernel
theorem dX11_chain_49 : decode cX11_chain 49 = .ok (.getfield 98, 3) := by decide +kernel
theorem dX11_chain_52 : decode cX11_chain 52 = .ok (.iload_n 2, 1) := by decide +kernel
theorem dX11_chain_53 : decode cX11_chain 53 = .ok (.aload_n 0, 1) := by decide +kernel
theorem dX11_chain_54 : decode cX11_chain 54 = .ok (.iload_n 2, 1) := by decide +kernel
theorem dX11_chain_55 : decode cX11_chain 55 = .ok (.iload_n 1, 1) := by decide +kernel
theorem dX11_chain_56 : decode cX11_chain 56 = .ok (.invokevirtual 368, 3) := by decide +kernel
theorem dX11_chain_59 : decode cX11_chain 59 = .ok (.invokevirtual 371, 3) := by decide +kernel
theorem dX11_chain_62 : decode cX11_chain 62 = .ok (.iinc 2 1, 3) := by decide +kernel
theorem dX11_chain_65 : decode cX11_chain 65 = .ok (.goto (-28), 3) := by decide +kernel
theorem dX11_chain_68 : decode cX11_chain 68 = .ok (.aload_n 0, 1) := by decide +kernel
theorem dX11_chain_69 : decode cX11_chain 69 = .ok (.getfield 98, 3) := by decide +kernel
theorem dX11_chain_72 : decode cX11_chain 72 = .ok (.aload_n 0, 1) := by decide +kernel
theorem dX11_chain_73 : decode cX11_chain 73 = .ok (.getfield 42, 3) := by decide +kernel
theorem dX11_chain_76 : decode cX11_chain 76 = .ok (.getfield 193, 3) := by decide +kernel
theorem dX11_chain_79 : decode cX11_chain 79 = .ok (.invokevirtual 374, 3) := by decide +kernel
theorem dX11_chain_82 : decode cX11_chain 82 = .ok (.aload_n 0, 1) := by decide +kernel
theorem dX11_chain_83 : decode cX11_chain 83 = .ok (.aload_n 0, 1) := by decide +kernel
theorem dX11_chain_84 : decode cX11_chain 84 = .ok (.getfield 98, 3) := by decide +kernel
theorem dX11_chain_87 : decode cX11_chain 87 = .ok (.getfield 377, 3) := by decide +kernel
theorem dX11_chain_90 : decode cX11_chain 90 = .ok (.getfield 262, 3) := by decide +kernel
theorem dX11_chain_93 : decode cX11_chain 93 = .ok (.invokevirtual 196, 3) := by decide +kernel
theorem dX11_chain_96 : decode cX11_chain 96 = .ok (.ireturn, 1) := by decide +kernel
theorem dX11_chainAt_0 : decode cX11_chainAt 0 = .ok (.aload_n 0, 1) := by decide +kernel
theorem dX11_chainAt_1 : decode cX11_chainAt 1 = .ok (.aload_n 0, 1) := by decide +kernel
theorem dX11_chainAt_2 : decode cX11_chainAt 2 = .ok (.getfield 98, 3) := by decide +kernel
theorem dX11_chainAt_5 : decode cX11_chainAt 5 = .ok (.getfield 377, 3) := by decide +kernel
theorem dX11_chainAt_8 : decode cX11_chainAt 8 = .ok (.iload_n 1, 1) := by decide +kernel
theorem dX11_chainAt_9 : decode cX11_chainAt 9 = .ok (.invokevirtual 235, 3) := by decide +kernel
theorem dX11_chainAt_12 : decode cX11_chainAt 12 = .ok (.ireturn, 1) := by decide +kernel
theorem dX11_witness_0 : decode cX11_witness 0 = .ok (.aload_n 0, 1) := by decide +kernel
theorem dX11_witness_1 : decode cX11_witness 1 = .ok (.iload_n 1, 1) := by decide +kernel
theorem dX11_witness_2 : decode cX11_witness 2 = .ok (.invokevirtual 229, 3) := by decide +kernel
theorem dX11_witness_5 : decode cX11_witness 5 = .ok (.ifCond .ne 9, 3) := by decide +kernel
theorem dX11_witness_8 : decode cX11_witness 8 = .ok (.aload_n 0, 1) := by decide +kernel
theorem dX11_witness_9 : decode cX11_witness 9 = .ok (.iconst 2, 1) := by decide +kernel
theorem dX11_witness_10 : decode cX11_witness 10 = .ok (.invokevirtual 142, 3) := by decide +kernel
theorem dX11_witness_13 : decode cX11_witness 13 = .ok (.ireturn, 1) := by decide +kernel
theorem dX11_witness_14 : decode cX11_witness 14 = .ok (.aload_n 0, 1) := by decide +kernel
theorem dX11_witness_15 : decode cX11_witness 15 = .ok (.aload_n 0, 1) := by decide +kernel
theorem dX11_witness_16 : decode cX11_witness 16 = .ok (.iconst 1, 1) := by decide +kernel
theorem dX11_witness_17 : decode cX11_witness 17 = .ok (.iload_n 1, 1) := by decide +kernel
theorem dX11_witness_18 : decode cX11_witness 18 = .ok (.ishl, 1) := by decide +kernel
theorem dX11_witness_19 : decode cX11_witness 19 = .ok (.invokevirtual 380, 3) := by decide +kernel
theorem dX11_witness_22 : decode cX11_witness 22 = .ok (.invokevirtual 274, 3) := by decide +kernel
theorem dX11_witness_25 : decode cX11_witness 25 = .ok (.ireturn, 1) := by decide +kernel
theorem dX11_fillFrom_0 : decode cX11_fillFrom 0 = .ok (.aload_n 0, 1) := by decide +kernel
theorem dX11_fillFrom_1 : decode cX11_fillFrom 1 = .ok (.iload_n 1, 1) := by decide +kernel
theorem dX11_fillFrom_2 : decode cX11_fillFrom 2 = .ok (.invokevirtual 239, 3) := by decide +kernel
theorem dX11_fillFrom_5 : decode cX11_fillFrom 5 = .ok (.ifCond .eq 11, 3) := by decide +kernel
theorem dX11_fillFrom_8 : decode cX11_fillFrom 8 = .ok (.aload_n 0, 1) := by decide +kernel
theorem dX11_fillFrom_9 : decode cX11_fillFrom 9 = .ok (.iload_n 2, 1) := by decide +kernel
theorem dX11_fillFrom_10 : decode cX11_fillFrom 10 = .ok (.invokevirtual 229, 3) := by decide +kernel
theorem dX11_fillFrom_13 : decode cX11_fillFrom 13 = .ok (.ifCond .ne 9, 3) := by decide +kernel
theorem dX11_fillFrom_16 : decode cX11_fillFrom 16 = .ok (.aload_n 0, 1) := by decide +kernel
theorem dX11_fillFrom_17 : decode cX11_fillFrom 17 = .ok (.iconst 2, 1) := by decide +kernel
theorem dX11_fillFrom_18 : decode cX11_fillFrom 18 = .ok (.invokevirtual 142, 3) := by decide +kernel
theorem dX11_fillFrom_21 : decode cX11_fillFrom 21 = .ok (.ireturn, 1) := by decide +kernel
theorem dX11_fillFrom_22 : decode cX11_fillFrom 22 = .ok (.iload_n 3, 1) := by decide +kernel
theorem dX11_fillFrom_23 : decode cX11_fillFrom 23 = .ok (.i2l, 1) := by decide +kernel
theorem dX11_fillFrom_24 : decode cX11_fillFrom 24 = .ok (.lconst 0, 1) := by decide +kernel
theorem dX11_fillFrom_25 : decode cX11_fillFrom 25 = .ok (.ldc2_w 277, 3) := by decide +kernel
theorem dX11_fillFrom_28 : decode cX11_fillFrom 28 = .ok (.invokestatic 119, 3) := by decide +kernel
theorem dX11_fillFrom_31 : decode cX11_fillFrom 31 = .ok (.ifCond .ne 9, 3) := by decide +kernel
theorem dX11_fillFrom_34 : decode cX11_fillFrom 34 = .ok (.aload_n 0, 1) := by decide +kernel
theorem dX11_fillFrom_35 : decode cX11_fillFrom 35 = .ok (.iconst 5, 1) := by decide +kernel
theorem dX11_fillFrom_36 : decode cX11_fillFrom 36 = .ok (.invokevirtual 142, 3) := by decide +kernel
theorem dX11_fillFrom_39 : decode cX11_fillFrom 39 = .ok (.ireturn, 1) := by decide +kernel
theorem dX11_fillFrom_40 : decode cX11_fillFrom 40 = .ok (.aload_n 0, 1) := by decide +kernel
theorem dX11_fillFrom_41 : decode cX11_fillFrom 41 = .ok (.aload_n 0, 1) := by decide +kernel
theorem dX11_fillFrom_42 : decode cX11_fillFrom 42 = .ok (.aload_n 0, 1) := by decide +kernel
theorem dX11_fillFrom_43 : decode cX11_fillFrom 43 = .ok (.getfield 42, 3) := by decide +kernel
theorem dX11_fillFrom_46 : decode cX11_fillFrom 46 = .ok (.getfield 246, 3) := by decide +kernel
theorem dX11_fillFrom_49 : decode cX11_fillFrom 49 = .ok (.iload_n 1, 1) := by decide +kernel
theorem dX11_fillFrom_50 : decode cX11_fillFrom 50 = .ok (.aaload, 1) := by decide +kernel
theorem dX11_fillFrom_51 : decode cX11_fillFrom 51 = .ok (.aload_n 0, 1) := by decide +kernel
theorem dX11_fillFrom_52 : decode cX11_fillFrom 52 = .ok (.getfield 42, 3) := by decide +kernel
theorem dX11_fillFrom_55 : decode cX11_fillFrom 55 = .ok (.getfield 232, 3) := by decide +kernel
theorem dX11_fillFrom_58 : decode cX11_fillFrom 58 = .ok (.iload_n 2, 1) := by decide +kernel
theorem dX11_fillFrom_59 : decode cX11_fillFrom 59 = .ok (.aaload, 1) := by decide +kernel
theorem dX11_fillFrom_60 : decode cX11_fillFrom 60 = .ok (.iload_n 3, 1) := by decide +kernel
theorem dX11_fillFrom_61 : decode cX11_fillFrom 61 = .ok (.invokevirtual 383, 3) := by decide +kernel
theorem dX11_fillFrom_64 : decode cX11_fillFrom 64 = .ok (.invokevirtual 274, 3) := by decide +kernel
theorem dX11_fillFrom_67 : decode cX11_fillFrom 67 = .ok (.ireturn, 1) := by decide +kernel
theorem dX11_keeps_0 : decode cX11_keeps 0 = .ok (.aload_n 0, 1) := by decide +kernel
theorem dX11_keeps_1 : decode cX11_keeps 1 = .ok (.iload_n 1, 1) := by decide +kernel
theorem dX11_keeps_2 : decode cX11_keeps 2 = .ok (.invokevirtual 239, 3) := by decide +kernel
theorem dX11_keeps_5 : decode cX11_keeps 5 = .ok (.ifCond .ne 9, 3) := by decide +kernel
theorem dX11_keeps_8 : decode cX11_keeps 8 = .ok (.aload_n 0, 1) := by decide +kernel
theorem dX11_keeps_9 : decode cX11_keeps 9 = .ok (.iconst 2, 1) := by decide +kernel
theorem dX11_keeps_10 : decode cX11_keeps 10 = .ok (.invokevirtual 142, 3) := by decide +kernel
theorem dX11_keeps_13 : decode cX11_keeps 13 = .ok (.ireturn, 1) := by decide +kernel
theorem dX11_keeps_14 : decode cX11_keeps 14 = .ok (.iload_n 2, 1) := by decide +kernel
theorem dX11_keeps_15 : decode cX11_keeps 15 = .ok (.i2l, 1) := by decide +kernel
theorem dX11_keeps_16 : decode cX11_keeps 16 = .ok (.lconst 0, 1) := by decide +kernel
theorem dX11_keeps_17 : decode cX11_keeps 17 = .ok (.ldc2_w 277, 3) := by decide +kernel
theorem dX11_keeps_20 : decode cX11_keeps 20 = .ok (.invokestatic 119, 3) := by decide +kernel
theorem dX11_keeps_23 : decode cX11_keeps 23 = .ok (.ifCond .ne 9, 3) := by decide +kernel
theorem dX11_keeps_26 : decode cX11_keeps 26 = .ok (.aload_n 0, 1) := by decide +kernel
theorem dX11_keeps_27 : decode cX11_keeps 27 = .ok (.iconst 5, 1) := by decide +kernel
theorem dX11_keeps_28 : decode cX11_keeps 28 = .ok (.invokevirtual 142, 3) := by decide +kernel
theorem dX11_keeps_31 : decode cX11_keeps 31 = .ok (.ireturn, 1) := by decide +kernel
theorem dX11_keeps_32 : decode cX11_keeps 32 = .ok (.aload_n 0, 1) := by decide +kernel
theorem dX11_keeps_33 : decode cX11_keeps 33 = .ok (.aload_n 0, 1) := by decide +kernel
theorem dX11_keeps_34 : decode cX11_keeps 34 = .ok (.getfield 42, 3) := by decide +kernel
theorem dX11_keeps_37 : decode cX11_keeps 37 = .ok (.getfield 246, 3) := by decide +kernel
theorem dX11_keeps_40 : decode cX11_keeps 40 = .ok (.iload_n 1, 1) := by decide +kernel
theorem dX11_keeps_41 : decode cX11_keeps 41 = .ok (.aaload, 1) := by decide +kernel
theorem dX11_keeps_42 : decode cX11_keeps 42 = .ok (.iload_n 2, 1) := by decide +kernel
theorem dX11_keeps_43 : decode cX11_keeps 43 = .ok (.invokevirtual 387, 3) := by decide +kernel
theorem dX11_keeps_46 : decode cX11_keeps 46 = .ok (.invokevirtual 196, 3) := by decide +kernel
theorem dX11_keeps_49 : decode cX11_keeps 49 = .ok (.ireturn, 1) := by decide +kernel
theorem dX11_fewest_0 : decode cX11_fewest 0 = .ok (.aload_n 0, 1) := by decide +kernel
theorem dX11_fewest_1 : decode cX11_fewest 1 = .ok (.iload_n 1, 1) := by decide +kernel
theorem dX11_fewest_2 : decode cX11_fewest 2 = .ok (.invokevirtual 229, 3) := by decide +kernel
theorem dX11_fewest_5 : decode cX11_fewest 5 = .ok (.ifCond .ne 9, 3) := by decide +kernel
theorem dX11_fewest_8 : decode cX11_fewest 8 = .ok (.aload_n 0, 1) := by decide +kernel
theorem dX11_fewest_9 : decode cX11_fewest 9 = .ok (.iconst 2, 1) := by decide +kernel
theorem dX11_fewest_10 : decode cX11_fewest 10 = .ok (.invokevirtual 142, 3) := by decide +kernel
theorem dX11_fewest_13 : decode cX11_fewest 13 = .ok (.ireturn, 1) := by decide +kernel
theorem dX11_fewest_14 : decode cX11_fewest 14 = .ok (.iload_n 2, 1) := by decide +kernel
theorem dX11_fewest_15 : decode cX11_fewest 15 = .ok (.i2l, 1) := by decide +kernel
theorem dX11_fewest_16 : decode cX11_fewest 16 = .ok (.lconst 0, 1) := by decide +kernel
theorem dX11_fewest_17 : decode cX11_fewest 17 = .ok (.ldc2_w 277, 3) := by decide +kernel
theorem dX11_fewest_20 : decode cX11_fewest 20 = .ok (.invokestatic 119, 3) := by decide +kernel
theorem dX11_fewest_23 : decode cX11_fewest 23 = .ok (.ifCond .ne 9, 3) := by decide +kernel
theorem dX11_fewest_26 : decode cX11_fewest 26 = .ok (.aload_n 0, 1) := by decide +kernel
theorem dX11_fewest_27 : decode cX11_fewest 27 = .ok (.iconst 5, 1) := by decide +kernel
theorem dX11_fewest_28 : decode cX11_fewest 28 = .ok (.invokevirtual 142, 3) := by decide +kernel
theorem dX11_fewest_31 : decode cX11_fewest 31 = .ok (.ireturn, 1) := by decide +kernel
theorem dX11_fewest_32 : decode cX11_fewest 32 = .ok (.aload_n 0, 1) := by decide +kernel
theorem dX11_fewest_33 : decode cX11_fewest 33 = .ok (.getfield 42, 3) := by decide +kernel
theorem dX11_fewest_36 : decode cX11_fewest 36 = .ok (.aload_n 0, 1) := by decide +kernel
theorem dX11_fewest_37 : decode cX11_fewest 37 = .ok (.getfield 42, 3) := by decide +kernel
theorem dX11_fewest_40 : decode cX11_fewest 40 = .ok (.getfield 232, 3) := by decide +kernel
theorem dX11_fewest_43 : decode cX11_fewest 43 = .ok (.iload_n 1, 1) := by decide +kernel
theorem dX11_fewest_44 : decode cX11_fewest 44 = .ok (.aaload, 1) := by decide +kernel
theorem dX11_fewest_45 : decode cX11_fewest 45 = .ok (.getfield 262, 3) := by decide +kernel
theorem dX11_fewest_48 : decode cX11_fewest 48 = .ok (.iload_n 2, 1) := by decide +kernel
theorem dX11_fewest_49 : decode cX11_fewest 49 = .ok (.iconst 0, 1) := by decide +kernel
theorem dX11_fewest_50 : decode cX11_fewest 50 = .ok (.invokevirtual 390, 3) := by decide +kernel
theorem dX11_fewest_53 : decode cX11_fewest 53 = .ok (.istore_n 3, 1) := by decide +kernel
theorem dX11_fewest_54 : decode cX11_fewest 54 = .ok (.iload_n 3, 1) := by decide +kernel
theorem dX11_fewest_55 : decode cX11_fewest 55 = .ok (.iconst (-1), 1) := by decide +kernel
theorem dX11_fewest_56 : decode cX11_fewest 56 = .ok (.if_icmp .ne 12, 3) := by decide +kernel
theorem dX11_fewest_59 : decode cX11_fewest 59 = .ok (.aload_n 0, 1) := by decide +kernel
theorem dX11_fewest_60 : decode cX11_fewest 60 = .ok (.bipush 9, 2) := by decide +kernel
theorem dX11_fewest_62 : decode cX11_fewest 62 = .ok (.invokevirtual 142, 3) := by decide +kernel
theorem dX11_fewest_65 : decode cX11_fewest 65 = .ok (.goto 11, 3) := by decide +kernel
theorem dX11_fewest_68 : decode cX11_fewest 68 = .ok (.aload_n 0, 1) := by decide +kernel
theorem dX11_fewest_69 : decode cX11_fewest 69 = .ok (.iload_n 3, 1) := by decide +kernel
theorem dX11_fewest_70 : decode cX11_fewest 70 = .ok (.invokestatic 224, 3) := by decide +kernel
theorem dX11_fewest_73 : decode cX11_fewest 73 = .ok (.invokevirtual 196, 3) := by decide +kernel
theorem dX11_fewest_76 : decode cX11_fewest 76 = .ok (.ireturn, 1) := by decide +kernel
theorem dX11_cheapest_0 : decode cX11_cheapest 0 = .ok (.aload_n 0, 1) := by decide +kernel
theorem dX11_cheapest_1 : decode cX11_cheapest 1 = .ok (.iload_n 1, 1) := by decide +kernel
theorem dX11_cheapest_2 : decode cX11_cheapest 2 = .ok (.invokevirtual 229, 3) := by decide +kernel
theorem dX11_cheapest_5 : decode cX11_cheapest 5 = .ok (.ifCond .ne 9, 3) := by decide +kernel
theorem dX11_cheapest_8 : decode cX11_cheapest 8 = .ok (.aload_n 0, 1) := by decide +kernel
theorem dX11_cheapest_9 : decode cX11_cheapest 9 = .ok (.iconst 2, 1) := by decide +kernel
theorem dX11_cheapest_10 : decode cX11_cheapest 10 = .ok (.invokevirtual 142, 3) := by decide +kernel
theorem dX11_cheapest_13 : decode cX11_cheapest 13 = .ok (.ireturn, 1) := by decide +kernel
theorem dX11_cheapest_14 : decode cX11_cheapest 14 = .ok (.iload_n 2, 1) := by decide +kernel
theorem dX11_cheapest_15 : decode cX11_cheapest 15 = .ok (.i2l, 1) := by decide +kernel
theorem dX11_cheapest_16 : decode cX11_cheapest 16 = .ok (.lconst 0, 1) := by decide +kernel
theorem dX11_cheapest_17 : decode cX11_cheapest 17 = .ok (.ldc2_w 277, 3) := by decide +kernel
theorem dX11_cheapest_20 : decode cX11_cheapest 20 = .ok (.invokestatic 119, 3) := by decide +kernel
theorem dX11_cheapest_23 : decode cX11_cheapest 23 = .ok (.ifCond .eq 13, 3) := by decide +kernel
theorem dX11_cheapest_26 : decode cX11_cheapest 26 = .ok (.iload_n 3, 1) := by decide +kernel
theorem dX11_cheapest_27 : decode cX11_cheapest 27 = .ok (.i2l, 1) := by decide +kernel
theorem dX11_cheapest_28 : decode cX11_cheapest 28 = .ok (.lconst 0, 1) := by decide +kernel
theorem dX11_cheapest_29 : decode cX11_cheapest 29 = .ok (.lconst 1, 1) := by decide +kernel
theorem dX11_cheapest_30 : decode cX11_cheapest 30 = .ok (.invokestatic 119, 3) := by decide +kernel
theorem dX11_cheapest_33 : decode cX11_cheapest 33 = .ok (.ifCond .ne 9, 3) := by decide +kernel
theorem dX11_cheapest_36 : decode cX11_cheapest 36 = .ok (.aload_n 0, 1) := by decide +kernel
theorem dX11_cheapest_37 : decode cX11_cheapest 37 = .ok (.iconst 5, 1) := by decide +kernel
theorem dX11_cheapest_38 : decode cX11_cheapest 38 = .ok (.invokevirtual 142, 3) := by decide +kernel
theorem dX11_cheapest_41 : decode cX11_cheapest 41 = .ok (.ireturn, 1) := by decide +kernel
theorem dX11_cheapest_42 : decode cX11_cheapest 42 = .ok (.aload_n 0, 1) := by decide +kernel
theorem dX11_cheapest_43 : decode cX11_cheapest 43 = .ok (.getfield 42, 3) := by decide +kernel
theorem dX11_cheapest_46 : decode cX11_cheapest 46 = .ok (.aload_n 0, 1) := by decide +kernel
theorem dX11_cheapest_47 : decode cX11_cheapest 47 = .ok (.getfield 42, 3) := by decide +kernel
theorem dX11_cheapest_50 : decode cX11_cheapest 50 = .ok (.getfield 232, 3) := by decide +kernel
theorem dX11_cheapest_53 : decode cX11_cheapest 53 = .ok (.iload_n 1, 1) := by decide +kernel
theorem dX11_cheapest_54 : decode cX11_cheapest 54 = .ok (.aaload, 1) := by decide +kernel
theorem dX11_cheapest_55 : decode cX11_cheapest 55 = .ok (.getfield 262, 3) := by decide +kernel
theorem dX11_cheapest_58 : decode cX11_cheapest 58 = .ok (.iload_n 2, 1) := by decide +kernel
theorem dX11_cheapest_59 : decode cX11_cheapest 59 = .ok (.iconst 1, 1) := by decide +kernel
theorem dX11_cheapest_60 : decode cX11_cheapest 60 = .ok (.invokevirtual 390, 3) := by decide +kernel
theorem dX11_cheapest_63 : decode cX11_cheapest 63 = .ok (.istore 4, 2) := by decide +kernel
theorem dX11_cheapest_65 : decode cX11_cheapest 65 = .ok (.iload 4, 2) := by decide +kernel
theorem dX11_cheapest_67 : decode cX11_cheapest 67 = .ok (.iconst (-1), 1) := by decide +kernel
theorem dX11_cheapest_68 : decode cX11_cheapest 68 = .ok (.if_icmp .ne 10, 3) := by decide +kernel
theorem dX11_cheapest_71 : decode cX11_cheapest 71 = .ok (.aload_n 0, 1) := by decide +kernel
theorem dX11_cheapest_72 : decode cX11_cheapest 72 = .ok (.bipush 9, 2) := by decide +kernel
theorem dX11_cheapest_74 : decode cX11_cheapest 74 = .ok (.invokevirtual 142, 3) := by decide +kernel
theorem dX11_cheapest_77 : decode cX11_cheapest 77 = .ok (.ireturn, 1) := by decide +kernel
theorem dX11_cheapest_78 : decode cX11_cheapest 78 = .ok (.aload_n 0, 1) := by decide +kernel
theorem dX11_cheapest_79 : decode cX11_cheapest 79 = .ok (.iload_n 3, 1) := by decide +kernel
theorem dX11_cheapest_80 : decode cX11_cheapest 80 = .ok (.ifCond .ne 16, 3) := by decide +kernel
theorem dX11_cheapest_83 : decode cX11_cheapest 83 = .ok (.aload_n 0, 1) := by decide +kernel
theorem dX11_cheapest_84 : decode cX11_cheapest 84 = .ok (.getfield 42, 3) := by decide +kernel
theorem dX11_cheapest_87 : decode cX11_cheapest 87 = .ok (.iload 4, 2) := by decide +kernel
theorem dX11_cheapest_89 : decode cX11_cheapest 89 = .ok (.iconst 1, 1) := by decide +kernel
theorem dX11_cheapest_90 : decode cX11_cheapest 90 = .ok (.invokevirtual 394, 3) := by decide +kernel
theorem dX11_cheapest_93 : decode cX11_cheapest 93 = .ok (.goto 5, 3) := by decide +kernel
theorem dX11_cheapest_96 : decode cX11_cheapest 96 = .ok (.iload 4, 2) := by decide +kernel
theorem dX11_cheapest_98 : decode cX11_cheapest 98 = .ok (.invokevirtual 196, 3) := by decide +kernel
theorem dX11_cheapest_101 : decode cX11_cheapest 101 = .ok (.ireturn, 1) := by decide +kernel
theorem dX11_shelf_0 : decode cX11_shelf 0 = .ok (.aload_n 0, 1) := by decide +kernel
theorem dX11_shelf_1 : decode cX11_shelf 1 = .ok (.getfield 42, 3) := by decide +kernel
theorem dX11_shelf_4 : decode cX11_shelf 4 = .ok (.invokevirtual 220, 3) := by decide +kernel
theorem dX11_shelf_7 : decode cX11_shelf 7 = .ok (.ifCond .ne 10, 3) := by decide +kernel
theorem dX11_shelf_10 : decode cX11_shelf 10 = .ok (.aload_n 0, 1) := by decide +kernel
theorem dX11_shelf_11 : decode cX11_shelf 11 = .ok (.bipush 8, 2) := by decide +kernel
theorem dX11_shelf_13 : decode cX11_shelf 13 = .ok (.invokevirtual 142, 3) := by decide +kernel
theorem dX11_shelf_16 : decode cX11_shelf 16 = .ok (.ireturn, 1) := by decide +kernel
theorem dX11_shelf_17 : decode cX11_shelf 17 = .ok (.aload_n 0, 1) := by decide +kernel
theorem dX11_shelf_18 : decode cX11_shelf 18 = .ok (.aload_n 0, 1) := by decide +kernel
theorem dX11_shelf_19 : decode cX11_shelf 19 = .ok (.getfield 98, 3) := by decide +kernel
theorem dX11_shelf_22 : decode cX11_shelf 22 = .ok (.aload_n 0, 1) := by decide +kernel
theorem dX11_shelf_23 : decode cX11_shelf 23 = .ok (.getfield 42, 3) := by decide +kernel
theorem dX11_shelf_26 : decode cX11_shelf 26 = .ok (.aload_n 0, 1) := by decide +kernel
theorem dX11_shelf_27 : decode cX11_shelf 27 = .ok (.getfield 190, 3) := by decide +kernel
theorem dX11_shelf_30 : decode cX11_shelf 30 = .ok (.invokevirtual 398, 3) := by decide +kernel
theorem dX11_shelf_33 : decode cX11_shelf 33 = .ok (.invokevirtual 196, 3) := by decide +kernel
theorem dX11_shelf_36 : decode cX11_shelf 36 = .ok (.ireturn, 1) := by decide +kernel
theorem dX11_shelfAt_0 : decode cX11_shelfAt 0 = .ok (.aload_n 0, 1) := by decide +kernel
theorem dX11_shelfAt_1 : decode cX11_shelfAt 1 = .ok (.aload_n 0, 1) := by decide +kernel
theorem dX11_shelfAt_2 : decode cX11_shelfAt 2 = .ok (.getfield 98, 3) := by decide +kernel
theorem dX11_shelfAt_5 : decode cX11_shelfAt 5 = .ok (.getfield 402, 3) := by decide +kernel
theorem dX11_shelfAt_8 : decode cX11_shelfAt 8 = .ok (.iload_n 1, 1) := by decide +kernel
theorem dX11_shelfAt_9 : decode cX11_shelfAt 9 = .ok (.invokevirtual 235, 3) := by decide +kernel
theorem dX11_shelfAt_12 : decode cX11_shelfAt 12 = .ok (.ireturn, 1) := by decide +kernel
theorem dX11_pieced_0 : decode cX11_pieced 0 = .ok (.aload_n 0, 1) := by decide +kernel
theorem dX11_pieced_1 : decode cX11_pieced 1 = .ok (.iload_n 1, 1) := by decide +kernel
theorem dX11_pieced_2 : decode cX11_pieced 2 = .ok (.invokevirtual 229, 3) := by decide +kernel
theorem dX11_pieced_5 : decode cX11_pieced 5 = .ok (.ifCond .ne 9, 3) := by decide +kernel
theorem dX11_pieced_8 : decode cX11_pieced 8 = .ok (.aload_n 0, 1) := by decide +kernel
theorem dX11_pieced_9 : decode cX11_pieced 9 = .ok (.iconst 2, 1) := by decide +kernel
theorem dX11_pieced_10 : decode cX11_pieced 10 = .ok (.invokevirtual 142, 3) := by decide +kernel
theorem dX11_pieced_13 : decode cX11_pieced 13 = .ok (.ireturn, 1) := by decide +kernel
theorem dX11_pieced_14 : decode cX11_pieced 14 = .ok (.iload_n 2, 1) := by decide +kernel
theorem dX11_pieced_15 : decode cX11_pieced 15 = .ok (.i2l, 1) := by decide +kernel
theorem dX11_pieced_16 : decode cX11_pieced 16 = .ok (.lconst 0, 1) := by decide +kernel
theorem dX11_pieced_17 : decode cX11_pieced 17 = .ok (.lconst 1, 1) := by decide +kernel
theorem dX11_pieced_18 : decode cX11_pieced 18 = .ok (.invokestatic 119, 3) := by decide +kernel
theorem dX11_pieced_21 : decode cX11_pieced 21 = .ok (.ifCond .ne 9, 3) := by decide +kernel
theorem dX11_pieced_24 : decode cX11_pieced 24 = .ok (.aload_n 0, 1) := by decide +kernel
theorem dX11_pieced_25 : decode cX11_pieced 25 = .ok (.iconst 5, 1) := by decide +kernel
theorem dX11_pieced_26 : decode cX11_pieced 26 = .ok (.invokevirtual 142, 3) := by decide +kernel
theorem dX11_pieced_29 : decode cX11_pieced 29 = .ok (.ireturn, 1) := by decide +kernel
theorem dX11_pieced_30 : decode cX11_pieced 30 = .ok (.aload_n 0, 1) := by decide +kernel
theorem dX11_pieced_31 : decode cX11_pieced 31 = .ok (.aload_n 0, 1) := by decide +kernel
theorem dX11_pieced_32 : decode cX11_pieced 32 = .ok (.getfield 42, 3) := by decide +kernel
theorem dX11_pieced_35 : decode cX11_pieced 35 = .ok (.getfield 232, 3) := by decide +kernel
theorem dX11_pieced_38 : decode cX11_pieced 38 = .ok (.iload_n 1, 1) := by decide +kernel
theorem dX11_pieced_39 : decode cX11_pieced 39 = .ok (.aaload, 1) := by decide +kernel
theorem dX11_pieced_40 : decode cX11_pieced 40 = .ok (.iload_n 2, 1) := by decide +kernel
theorem dX11_pieced_41 : decode cX11_pieced 41 = .ok (.iconst 1, 1) := by decide +kernel
theorem dX11_pieced_42 : decode cX11_pieced 42 = .ok (.if_icmp .ne 7, 3) := by decide +kernel
theorem dX11_pieced_45 : decode cX11_pieced 45 = .ok (.iconst 1, 1) := by decide +kernel
theorem dX11_pieced_46 : decode cX11_pieced 46 = .ok (.goto 4, 3) := by decide +kernel
theorem dX11_pieced_49 : decode cX11_pieced 49 = .ok (.iconst 0, 1) := by decide +kernel
theorem dX11_pieced_50 : decode cX11_pieced 50 = .ok (.invokevirtual 405, 3) := by decide +kernel
theorem dX11_pieced_53 : decode cX11_pieced 53 = .ok (.istore_n 3, 1) := by decide +kernel
theorem dX11_pieced_54 : decode cX11_pieced 54 = .ok (.iload_n 3, 1) := by decide +kernel
theorem dX11_pieced_55 : decode cX11_pieced 55 = .ok (.ldc_w 409, 3) := by decide +kernel
theorem dX11_pieced_58 : decode cX11_pieced 58 = .ok (.if_icmp .ne 12, 3) := by decide +kernel
theorem dX11_pieced_61 : decode cX11_pieced 61 = .ok (.aload_n 0, 1) := by decide +kernel
theorem dX11_pieced_62 : decode cX11_pieced 62 = .ok (.bipush 9, 2) := by decide +kernel
theorem dX11_pieced_64 : decode cX11_pieced 64 = .ok (.invokevirtual 142, 3) := by decide +kernel
theorem dX11_pieced_67 : decode cX11_pieced 67 = .ok (.goto 8, 3) := by decide +kernel
theorem dX11_pieced_70 : decode cX11_pieced 70 = .ok (.aload_n 0, 1) := by decide +kernel
theorem dX11_pieced_71 : decode cX11_pieced 71 = .ok (.iload_n 3, 1) := by decide +kernel
theorem dX11_pieced_72 : decode cX11_pieced 72 = .ok (.invokevirtual 196, 3) := by decide +kernel
theorem dX11_pieced_75 : decode cX11_pieced 75 = .ok (.ireturn, 1) := by decide +kernel
theorem dX11_road_0 : decode cX11_road 0 = .ok (.iload_n 1, 1) := by decide +kernel
theorem dX11_road_1 : decode cX11_road 1 = .ok (.i2l, 1) := by decide +kernel
theorem dX11_road_2 : decode cX11_road 2 = .ok (.lconst 0, 1) := by decide +kernel
theorem dX11_road_3 : decode cX11_road 3 = .ok (.ldc2_w 256, 3) := by decide +kernel
theorem dX11_road_6 : decode cX11_road 6 = .ok (.invokestatic 119, 3) := by decide +kernel
theorem dX11_road_9 : decode cX11_road 9 = .ok (.ifCond .eq 15, 3) := by decide +kernel
theorem dX11_road_12 : decode cX11_road 12 = .ok (.iload_n 2, 1) := by decide +kernel
theorem dX11_road_13 : decode cX11_road 13 = .ok (.i2l, 1) := by decide +kernel
theorem dX11_road_14 : decode cX11_road 14 = .ok (.lconst 1, 1) := by decide +kernel
theorem dX11_road_15 : decode cX11_road 15 = .ok (.ldc2_w 410, 3) := by decide +kernel
theorem dX11_road_18 : decode cX11_road 18 = .ok (.invokestatic 119, 3) := by decide +kernel
theorem dX11_road_21 : decode cX11_road 21 = .ok (.ifCond .ne 9, 3) := by decide +kernel
theorem dX11_road_24 : decode cX11_road 24 = .ok (.aload_n 0, 1) := by decide +kernel
theorem dX11_road_25 : decode cX11_road 25 = .ok (.iconst 5, 1) := by decide +kernel
theorem dX11_road_26 : decode cX11_road 26 = .ok (.invokevirtual 142, 3) := by decide +kernel
theorem dX11_road_29 : decode cX11_road 29 = .ok (.ireturn, 1) := by decide +kernel
theorem dX11_road_30 : decode cX11_road 30 = .ok (.aload_n 0, 1) := by decide +kernel
theorem dX11_road_31 : decode cX11_road 31 = .ok (.aload_n 0, 1) := by decide +kernel
theorem dX11_road_32 : decode cX11_road 32 = .ok (.getfield 42, 3) := by decide +kernel
theorem dX11_road_35 : decode cX11_road 35 = .ok (.iload_n 1, 1) := by decide +kernel
theorem dX11_road_36 : decode cX11_road 36 = .ok (.iload_n 2, 1) := by decide +kernel
theorem dX11_road_37 : decode cX11_road 37 = .ok (.aload_n 0, 1) := by decide +kernel
theorem dX11_road_38 : decode cX11_road 38 = .ok (.getfield 82, 3) := by decide +kernel
theorem dX11_road_41 : decode cX11_road 41 = .ok (.invokevirtual 412, 3) := by decide +kernel
theorem dX11_road_44 : decode cX11_road 44 = .ok (.invokevirtual 196, 3) := by decide +kernel
theorem dX11_road_47 : decode cX11_road 47 = .ok (.ireturn, 1) := by decide +kernel
theorem dX11_brokeOn_0 : decode cX11_brokeOn 0 = .ok (.aload_n 0, 1) := by decide +kernel
theorem dX11_brokeOn_1 : decode cX11_brokeOn 1 = .ok (.iload_n 1, 1) := by decide +kernel
theorem dX11_brokeOn_2 : decode cX11_brokeOn 2 = .ok (.invokevirtual 239, 3) := by decide +kernel
theorem dX11_brokeOn_5 : decode cX11_brokeOn 5 = .ok (.ifCond .ne 9, 3) := by decide +kernel
theorem dX11_brokeOn_8 : decode cX11_brokeOn 8 = .ok (.aload_n 0, 1) := by decide +kernel
theorem dX11_brokeOn_9 : decode cX11_brokeOn 9 = .ok (.iconst 2, 1) := by decide +kernel
theorem dX11_brokeOn_10 : decode cX11_brokeOn 10 = .ok (.invokevirtual 142, 3) := by decide +kernel
theorem dX11_brokeOn_13 : decode cX11_brokeOn 13 = .ok (.ireturn, 1) := by decide +kernel
theorem dX11_brokeOn_14 : decode cX11_brokeOn 14 = .ok (.aload_n 0, 1) := by decide +kernel
theorem dX11_brokeOn_15 : decode cX11_brokeOn 15 = .ok (.getfield 82, 3) := by decide +kernel
theorem dX11_brokeOn_18 : decode cX11_brokeOn 18 = .ok (.iload_n 1, 1) := by decide +kernel
theorem dX11_brokeOn_19 : decode cX11_brokeOn 19 = .ok (.iaload, 1) := by decide +kernel
theorem dX11_brokeOn_20 : decode cX11_brokeOn 20 = .ok (.ifCond .ne 12, 3) := by decide +kernel
theorem dX11_brokeOn_23 : decode cX11_brokeOn 23 = .ok (.aload_n 0, 1) := by decide +kernel
theorem dX11_brokeOn_24 : decode cX11_brokeOn 24 = .ok (.bipush 8, 2) := by decide +kernel
theorem dX11_brokeOn_26 : decode cX11_brokeOn 26 = .ok (.invokevirtual 142, 3) := by decide +kernel
theorem dX11_brokeOn_29 : decode cX11_brokeOn 29 = .ok (.goto 13, 3) := by decide +kernel
theorem dX11_brokeOn_32 : decode cX11_brokeOn 32 = .ok (.aload_n 0, 1) := by decide +kernel
theorem dX11_brokeOn_33 : decode cX11_brokeOn 33 = .ok (.aload_n 0, 1) := by decide +kernel
theorem dX11_brokeOn_34 : decode cX11_brokeOn 34 = .ok (.getfield 82, 3) := by decide +kernel
theorem dX11_brokeOn_37 : decode cX11_brokeOn 37 = .ok (.iload_n 1, 1) := by decide +kernel
theorem dX11_brokeOn_38 : decode cX11_brokeOn 38 = .ok (.iaload, 1) := by decide +kernel
theorem dX11_brokeOn_39 : decode cX11_brokeOn 39 = .ok (.invokevirtual 196, 3) := by decide +kernel
theorem dX11_brokeOn_42 : decode cX11_brokeOn 42 = .ok (.ireturn, 1) := by decide +kernel
theorem dX11_odds_0 : decode cX11_odds 0 = .ok (.aload_n 0, 1) := by decide +kernel
theorem dX11_odds_1 : decode cX11_odds 1 = .ok (.iload_n 1, 1) := by decide +kernel
theorem dX11_odds_2 : decode cX11_odds 2 = .ok (.invokevirtual 229, 3) := by decide +kernel
theorem dX11_odds_5 : decode cX11_odds 5 = .ok (.ifCond .ne 9, 3) := by decide +kernel
theorem dX11_odds_8 : decode cX11_odds 8 = .ok (.aload_n 0, 1) := by decide +kernel
theorem dX11_odds_9 : decode cX11_odds 9 = .ok (.iconst 2, 1) := by decide +kernel
theorem dX11_odds_10 : decode cX11_odds 10 = .ok (.invokevirtual 123, 3) := by decide +kernel
theorem dX11_odds_13 : decode cX11_odds 13 = .ok (.ireturn, 1) := by decide +kernel
theorem dX11_odds_14 : decode cX11_odds 14 = .ok (.iload_n 2, 1) := by decide +kernel
theorem dX11_odds_15 : decode cX11_odds 15 = .ok (.i2l, 1) := by decide +kernel
theorem dX11_odds_16 : decode cX11_odds 16 = .ok (.lconst 1, 1) := by decide +kernel
theorem dX11_odds_17 : decode cX11_odds 17 = .ok (.ldc2_w 410, 3) := by decide +kernel
theorem dX11_odds_20 : decode cX11_odds 20 = .ok (.invokestatic 119, 3) := by decide +kernel
theorem dX11_odds_23 : decode cX11_odds 23 = .ok (.ifCond .eq 40, 3) := by decide +kernel
theorem dX11_odds_26 : decode cX11_odds 26 = .ok (.iload_n 3, 1) := by decide +kernel
theorem dX11_odds_27 : decode cX11_odds 27 = .ok (.i2l, 1) := by decide +kernel
theorem dX11_odds_28 : decode cX11_odds 28 = .ok (.lconst 0, 1) := by decide +kernel
theorem dX11_odds_29 : decode cX11_odds 29 = .ok (.ldc2_w 256, 3) := by decide +kernel
theorem dX11_odds_32 : decode cX11_odds 32 = .ok (.invokestatic 119, 3) := by decide +kernel
theorem dX11_odds_35 : decode cX11_odds 35 = .ok (.ifCond .eq 28, 3) := by decide +kernel
theorem dX11_odds_38 : decode cX11_odds 38 = .ok (.iload 4, 2) := by decide +kernel
theorem dX11_odds_40 : decode cX11_odds 40 = .ok (.i2l, 1) := by decide +kernel
theorem dX11_odds_41 : decode cX11_odds 41 = .ok (.lconst 1, 1) := by decide +kernel
theorem dX11_odds_42 : decode cX11_odds 42 = .ok (.ldc2_w 416, 3) := by decide +kernel
theorem dX11_odds_45 : decode cX11_odds 45 = .ok (.invokestatic 119, 3) := by decide +kernel
theorem dX11_odds_48 : decode cX11_odds 48 = .ok (.ifCond .eq 15, 3) := by decide +kernel
theorem dX11_odds_51 : decode cX11_odds 51 = .ok (.iload_n 3, 1) := by decide +kernel
theorem dX11_odds_52 : decode cX11_odds 52 = .ok (.iload 4, 2) := by decide +kernel
theorem dX11_odds_54 : decode cX11_odds 54 = .ok (.iadd, 1) := by decide +kernel
theorem dX11_odds_55 : decode cX11_odds 55 = .ok (.iconst 1, 1) := by decide +kernel
theorem dX11_odds_56 : decode cX11_odds 56 = .ok (.isub, 1) := by decide +kernel
theorem dX11_odds_57 : decode cX11_odds 57 = .ok (.sipush 9999, 3) := by decide +kernel
theorem dX11_odds_60 : decode cX11_odds 60 = .ok (.if_icmp .le 9, 3) := by decide +kernel
theorem dX11_odds_63 : decode cX11_odds 63 = .ok (.aload_n 0, 1) := by decide +kernel
theorem dX11_odds_64 : decode cX11_odds 64 = .ok (.iconst 5, 1) := by decide +kernel
theorem dX11_odds_65 : decode cX11_odds 65 = .ok (.invokevirtual 123, 3) := by decide +kernel
theorem dX11_odds_68 : decode cX11_odds 68 = .ok (.ireturn, 1) := by decide +kernel
theorem dX11_odds_69 : decode cX11_odds 69 = .ok (.aload_n 0, 1) := by decide +kernel
theorem dX11_odds_70 : decode cX11_odds 70 = .ok (.iload_n 1, 1) := by decide +kernel
theorem dX11_odds_71 : decode cX11_odds 71 = .ok (.invokevirtual 329, 3) := by decide +kernel
theorem dX11_odds_74 : decode cX11_odds 74 = .ok (.istore 5, 2) := by decide +kernel
theorem dX11_odds_76 : decode cX11_odds 76 = .ok (.iconst 0, 1) := by decide +kernel
theorem dX11_odds_77 : decode cX11_odds 77 = .ok (.istore 6, 2) := by decide +kernel
theorem dX11_odds_79 : decode cX11_odds 79 = .ok (.iconst 0, 1) := by decide +kernel
theorem dX11_odds_80 : decode cX11_odds 80 = .ok (.istore 7, 2) := by decide +kernel
theorem dX11_odds_82 : decode cX11_odds 82 = .ok (.iload 7, 2) := by decide +kernel
theorem dX11_odds_84 : decode cX11_odds 84 = .ok (.iload 4, 2) := by decide +kernel
theorem dX11_odds_86 : decode cX11_odds 86 = .ok (.if_icmp .ge 34, 3) := by decide +kernel
theorem dX11_odds_89 : decode cX11_odds 89 = .ok (.aload_n 0, 1) := by decide +kernel
theorem dX11_odds_90 : decode cX11_odds 90 = .ok (.getfield 42, 3) := by decide +kernel
theorem dX11_odds_93 : decode cX11_odds 93 = .ok (.iload_n 3, 1) := by decide +kernel
theorem dX11_odds_94 : decode cX11_odds 94 = .ok (.iload 7, 2) := by decide +kernel
theorem dX11_odds_96 : decode cX11_odds 96 = .ok (.iadd, 1) := by decide +kernel
theorem dX11_odds_97 : decode cX11_odds 97 = .ok (.iload_n 2, 1) := by decide +kernel
theorem dX11_odds_98 : decode cX11_odds 98 = .ok (.aload_n 0, 1) := by decide +kernel
theorem dX11_odds_99 : decode cX11_odds 99 = .ok (.getfield 85, 3) := by decide +kernel
theorem dX11_odds_102 : decode cX11_odds 102 = .ok (.invokevirtual 412, 3) := by decide +kernel
theorem dX11_odds_105 : decode cX11_odds 105 = .ok (.iload 5, 2) := by decide +kernel
theorem dX11_odds_107 : decode cX11_odds 107 = .ok (.iand, 1) := by decide +kernel
theorem dX11_odds_108 : decode cX11_odds 108 = .ok (.ifCond .eq 6, 3) := by decide +kernel
theorem dX11_odds_111 : decode cX11_odds 111 = .ok (.iinc 6 1, 3) := by decide +kernel
theorem dX11_odds_114 : decode cX11_odds 114 = .ok (.iinc 7 1, 3) := by decide +kernel
theorem dX11_odds_117 : decode cX11_odds 117 = .ok (.goto (-35), 3) := by decide +kernel
theorem dX11_odds_120 : decode cX11_odds 120 = .ok (.aload_n 0, 1) := by decide +kernel
theorem dX11_odds_121 : decode cX11_odds 121 = .ok (.iload 6, 2) := by decide +kernel
theorem dX11_odds_123 : decode cX11_odds 123 = .ok (.i2l, 1) := by decide +kernel
theorem dX11_odds_124 : decode cX11_odds 124 = .ok (.iload 4, 2) := by decide +kernel
theorem dX11_odds_126 : decode cX11_odds 126 = .ok (.i2l, 1) := by decide +kernel
theorem dX11_odds_127 : decode cX11_odds 127 = .ok (.invokevirtual 418, 3) := by decide +kernel
theorem dX11_odds_130 : decode cX11_odds 130 = .ok (.aload_n 0, 1) := by decide +kernel
theorem dX11_odds_131 : decode cX11_odds 131 = .ok (.invokevirtual 130, 3) := by decide +kernel
theorem dX11_odds_134 : decode cX11_odds 134 = .ok (.ireturn, 1) := by decide +kernel
theorem dX11_safe_0 : decode cX11_safe 0 = .ok (.aload_n 0, 1) := by decide +kernel
theorem dX11_safe_1 : decode cX11_safe 1 = .ok (.iload_n 1, 1) := by decide +kernel
theorem dX11_safe_2 : decode cX11_safe 2 = .ok (.invokevirtual 239, 3) := by decide +kernel
theorem dX11_safe_5 : decode cX11_safe 5 = .ok (.ifCond .ne 9, 3) := by decide +kernel
theorem dX11_safe_8 : decode cX11_safe 8 = .ok (.aload_n 0, 1) := by decide +kernel
theorem dX11_safe_9 : decode cX11_safe 9 = .ok (.iconst 2, 1) := by decide +kernel
theorem dX11_safe_10 : decode cX11_safe 10 = .ok (.invokevirtual 123, 3) := by decide +kernel
theorem dX11_safe_13 : decode cX11_safe 13 = .ok (.ireturn, 1) := by decide +kernel
theorem dX11_safe_14 : decode cX11_safe 14 = .ok (.iload_n 2, 1) := by decide +kernel
theorem dX11_safe_15 : decode cX11_safe 15 = .ok (.i2l, 1) := by decide +kernel
theorem dX11_safe_16 : decode cX11_safe 16 = .ok (.lconst 1, 1) := by decide +kernel
theorem dX11_safe_17 : decode cX11_safe 17 = .ok (.ldc2_w 422, 3) := by decide +kernel
theorem dX11_safe_20 : decode cX11_safe 20 = .ok (.invokestatic 119, 3) := by decide +kernel
theorem dX11_safe_23 : decode cX11_safe 23 = .ok (.ifCond .eq 13, 3) := by decide +kernel
theorem dX11_safe_26 : decode cX11_safe 26 = .ok (.iload_n 3, 1) := by decide +kernel
theorem dX11_safe_27 : decode cX11_safe 27 = .ok (.i2l, 1) := by decide +kernel
theorem dX11_safe_28 : decode cX11_safe 28 = .ok (.lconst 0, 1) := by decide +kernel
theorem dX11_safe_29 : decode cX11_safe 29 = .ok (.lconst 1, 1) := by decide +kernel
theorem dX11_safe_30 : decode cX11_safe 30 = .ok (.invokestatic 119, 3) := by decide +kernel
theorem dX11_safe_33 : decode cX11_safe 33 = .ok (.ifCond .ne 9, 3) := by decide +kernel
theorem dX11_safe_36 : decode cX11_safe 36 = .ok (.aload_n 0, 1) := by decide +kernel
theorem dX11_safe_37 : decode cX11_safe 37 = .ok (.iconst 5, 1) := by decide +kernel
theorem dX11_safe_38 : decode cX11_safe 38 = .ok (.invokevirtual 123, 3) := by decide +kernel
theorem dX11_safe_41 : decode cX11_safe 41 = .ok (.ireturn, 1) := by decide +kernel
theorem dX11_safe_42 : decode cX11_safe 42 = .ok (.lconst 1, 1) := by decide +kernel
theorem dX11_safe_43 : decode cX11_safe 43 = .ok (.lstore 4, 2) := by decide +kernel
theorem dX11_safe_45 : decode cX11_safe 45 = .ok (.lconst 1, 1) := by decide +kernel
theorem dX11_safe_46 : decode cX11_safe 46 = .ok (.lstore 6, 2) := by decide +kernel
theorem dX11_safe_48 : decode cX11_safe 48 = .ok (.iconst 0, 1) := by decide +kernel
theorem dX11_safe_49 : decode cX11_safe 49 = .ok (.istore 8, 2) := by decide +kernel
theorem dX11_safe_51 : decode cX11_safe 51 = .ok (.iload 8, 2) := by decide +kernel
theorem dX11_safe_53 : decode cX11_safe 53 = .ok (.iload_n 2, 1) := by decide +kernel
theorem dX11_safe_54 : decode cX11_safe 54 = .ok (.if_icmp .ge 38, 3) := by decide +kernel
theorem dX11_safe_57 : decode cX11_safe 57 = .ok (.lload 4, 2) := by decide +kernel
theorem dX11_safe_59 : decode cX11_safe 59 = .ok (.bipush 16, 2) := by decide +kernel
theorem dX11_safe_61 : decode cX11_safe 61 = .ok (.aload_n 0, 1) := by decide +kernel
theorem dX11_safe_62 : decode cX11_safe 62 = .ok (.getfield 42, 3) := by decide +kernel
theorem dX11_safe_65 : decode cX11_safe 65 = .ok (.getfield 246, 3) := by decide +kernel
theorem dX11_safe_68 : decode cX11_safe 68 = .ok (.iload_n 1, 1) := by decide +kernel
theorem dX11_safe_69 : decode cX11_safe 69 = .ok (.aaload, 1) := by decide +kernel
theorem dX11_safe_70 : decode cX11_safe 70 = .ok (.getfield 424, 3) := by decide +kernel
theorem dX11_safe_73 : decode cX11_safe 73 = .ok (.isub, 1) := by decide +kernel
theorem dX11_safe_74 : decode cX11_safe 74 = .ok (.i2l, 1) := by decide +kernel
theorem dX11_safe_75 : decode cX11_safe 75 = .ok (.lmul, 1) := by decide +kernel
theorem dX11_safe_76 : decode cX11_safe 76 = .ok (.lstore 4, 2) := by decide +kernel
theorem dX11_safe_78 : decode cX11_safe 78 = .ok (.lload 6, 2) := by decide +kernel
theorem dX11_safe_80 : decode cX11_safe 80 = .ok (.ldc2_w 427, 3) := by decide +kernel
theorem dX11_safe_83 : decode cX11_safe 83 = .ok (.lmul, 1) := by decide +kernel
theorem dX11_safe_84 : decode cX11_safe 84 = .ok (.lstore 6, 2) := by decide +kernel
theorem dX11_safe_86 : decode cX11_safe 86 = .ok (.iinc 8 1, 3) := by decide +kernel
theorem dX11_safe_89 : decode cX11_safe 89 = .ok (.goto (-38), 3) := by decide +kernel
theorem dX11_safe_92 : decode cX11_safe 92 = .ok (.iload_n 3, 1) := by decide +kernel
theorem dX11_safe_93 : decode cX11_safe 93 = .ok (.ifCond .ne 14, 3) := by decide +kernel
theorem dX11_safe_96 : decode cX11_safe 96 = .ok (.aload_n 0, 1) := by decide +kernel
theorem dX11_safe_97 : decode cX11_safe 97 = .ok (.lload 4, 2) := by decide +kernel
theorem dX11_safe_99 : decode cX11_safe 99 = .ok (.lload 6, 2) := by decide +kernel
theorem dX11_safe_101 : decode cX11_safe 101 = .ok (.invokevirtual 418, 3) := by decide +kernel
theorem dX11_safe_104 : decode cX11_safe 104 = .ok (.goto 30, 3) := by decide +kernel
theorem dX11_safe_107 : decode cX11_safe 107 = .ok (.lload 6, 2) := by decide +kernel
theorem dX11_safe_109 : decode cX11_safe 109 = .ok (.lload 4, 2) := by decide +kernel
theorem dX11_safe_111 : decode cX11_safe 111 = .ok (.lsub, 1) := by decide +kernel
theorem dX11_safe_112 : decode cX11_safe 112 = .ok (.lstore 8, 2) := by decide +kernel
theorem dX11_safe_114 : decode cX11_safe 114 = .ok (.aload_n 0, 1) := by decide +kernel
theorem dX11_safe_115 : decode cX11_safe 115 = .ok (.lload 6, 2) := by decide +kernel
theorem dX11_safe_117 : decode cX11_safe 117 = .ok (.lload 6, 2) := by decide +kernel
theorem dX11_safe_119 : decode cX11_safe 119 = .ok (.lmul, 1) := by decide +kernel
theorem dX11_safe_120 : decode cX11_safe 120 = .ok (.lload 8, 2) := by decide +kernel
theorem dX11_safe_122 : decode cX11_safe 122 = .ok (.lload 8, 2) := by decide +kernel
theorem dX11_safe_124 : decode cX11_safe 124 = .ok (.lmul, 1) := by decide +kernel
theorem dX11_safe_125 : decode cX11_safe 125 = .ok (.lsub, 1) := by decide +kernel
theorem dX11_safe_126 : decode cX11_safe 126 = .ok (.lload 6, 2) := by decide +kernel
theorem dX11_safe_128 : decode cX11_safe 128 = .ok (.lload 6, 2) := by decide +kernel
theorem dX11_safe_130 : decode cX11_safe 130 = .ok (.lmul, 1) := by decide +kernel
theorem dX11_safe_131 : decode cX11_safe 131 = .ok (.invokevirtual 418, 3) := by decide +kernel
theorem dX11_safe_134 : decode cX11_safe 134 = .ok (.aload_n 0, 1) := by decide +kernel
theorem dX11_safe_135 : decode cX11_safe 135 = .ok (.invokevirtual 130, 3) := by decide +kernel
theorem dX11_safe_138 : decode cX11_safe 138 = .ok (.ireturn, 1) := by decide +kernel
theorem dX11_third_0 : decode cX11_third 0 = .ok (.aload_n 0, 1) := by decide +kernel
theorem dX11_third_1 : decode cX11_third 1 = .ok (.iload_n 1, 1) := by decide +kernel
theorem dX11_third_2 : decode cX11_third 2 = .ok (.iload_n 2, 1) := by decide +kernel
theorem dX11_third_3 : decode cX11_third 3 = .ok (.iload_n 3, 1) := by decide +kernel
theorem dX11_third_4 : decode cX11_third 4 = .ok (.iload 4, 2) := by decide +kernel
theorem dX11_third_6 : decode cX11_third 6 = .ok (.invokevirtual 429, 3) := by decide +kernel
theorem dX11_third_9 : decode cX11_third 9 = .ok (.istore 5, 2) := by decide +kernel
theorem dX11_third_11 : decode cX11_third 11 = .ok (.iload 5, 2) := by decide +kernel
theorem dX11_third_13 : decode cX11_third 13 = .ok (.ifCond .eq 10, 3) := by decide +kernel
theorem dX11_third_16 : decode cX11_third 16 = .ok (.aload_n 0, 1) := by decide +kernel
theorem dX11_third_17 : decode cX11_third 17 = .ok (.iload 5, 2) := by decide +kernel
theorem dX11_third_19 : decode cX11_third 19 = .ok (.invokevirtual 123, 3) := by decide +kernel
theorem dX11_third_22 : decode cX11_third 22 = .ok (.ireturn, 1) := by decide +kernel
theorem dX11_third_23 : decode cX11_third 23 = .ok (.iconst 0, 1) := by decide +kernel
theorem dX11_third_24 : decode cX11_third 24 = .ok (.istore 6, 2) := by decide +kernel
theorem dX11_third_26 : decode cX11_third 26 = .ok (.iload 6, 2) := by decide +kernel
theorem dX11_third_28 : decode cX11_third 28 = .ok (.iload 4, 2) := by decide +kernel
theorem dX11_third_30 : decode cX11_third 30 = .ok (.if_icmp .ge 45, 3) := by decide +kernel
theorem dX11_third_33 : decode cX11_third 33 = .ok (.aload_n 0, 1) := by decide +kernel
theorem dX11_third_34 : decode cX11_third 34 = .ok (.getfield 10, 3) := by decide +kernel
theorem dX11_third_37 : decode cX11_third 37 = .ok (.iload_n 3, 1) := by decide +kernel
theorem dX11_third_38 : decode cX11_third 38 = .ok (.aaload, 1) := by decide +kernel
theorem dX11_third_39 : decode cX11_third 39 = .ok (.iload 6, 2) := by decide +kernel
theorem dX11_third_41 : decode cX11_third 41 = .ok (.aload_n 0, 1) := by decide +kernel
theorem dX11_third_42 : decode cX11_third 42 = .ok (.getfield 10, 3) := by decide +kernel
theorem dX11_third_45 : decode cX11_third 45 = .ok (.iload_n 1, 1) := by decide +kernel
theorem dX11_third_46 : decode cX11_third 46 = .ok (.aaload, 1) := by decide +kernel
theorem dX11_third_47 : decode cX11_third 47 = .ok (.iload 6, 2) := by decide +kernel
theorem dX11_third_49 : decode cX11_third 49 = .ok (.invokevirtual 146, 3) := by decide +kernel
theorem dX11_third_52 : decode cX11_third 52 = .ok (.aload_n 0, 1) := by decide +kernel
theorem dX11_third_53 : decode cX11_third 53 = .ok (.getfield 10, 3) := by decide +kernel
theorem dX11_third_56 : decode cX11_third 56 = .ok (.iload_n 2, 1) := by decide +kernel
theorem dX11_third_57 : decode cX11_third 57 = .ok (.aaload, 1) := by decide +kernel
theorem dX11_third_58 : decode cX11_third 58 = .ok (.iload 6, 2) := by decide +kernel
theorem dX11_third_60 : decode cX11_third 60 = .ok (.invokevirtual 146, 3) := by decide +kernel
theorem dX11_third_63 : decode cX11_third 63 = .ok (.invokestatic 432, 3) := by decide +kernel
theorem dX11_third_66 : decode cX11_third 66 = .ok (.invokevirtual 138, 3) := by decide +kernel
theorem dX11_third_69 : decode cX11_third 69 = .ok (.iinc 6 1, 3) := by decide +kernel
theorem dX11_third_72 : decode cX11_third 72 = .ok (.goto (-46), 3) := by decide +kernel
theorem dX11_third_75 : decode cX11_third 75 = .ok (.aload_n 0, 1) := by decide +kernel
theorem dX11_third_76 : decode cX11_third 76 = .ok (.invokevirtual 130, 3) := by decide +kernel
theorem dX11_third_79 : decode cX11_third 79 = .ok (.ireturn, 1) := by decide +kernel
theorem dX11_second_0 : decode cX11_second 0 = .ok (.aload_n 0, 1) := by decide +kernel
theorem dX11_second_1 : decode cX11_second 1 = .ok (.iload_n 1, 1) := by decide +kernel
theorem dX11_second_2 : decode cX11_second 2 = .ok (.iload_n 2, 1) := by decide +kernel
theorem dX11_second_3 : decode cX11_second 3 = .ok (.iload_n 3, 1) := by decide +kernel
theorem dX11_second_4 : decode cX11_second 4 = .ok (.iload 4, 2) := by decide +kernel
theorem dX11_second_6 : decode cX11_second 6 = .ok (.invokevirtual 429, 3) := by decide +kernel
theorem dX11_second_9 : decode cX11_second 9 = .ok (.istore 5, 2) := by decide +kernel
theorem dX11_second_11 : decode cX11_second 11 = .ok (.iload 5, 2) := by decide +kernel
theorem dX11_second_13 : decode cX11_second 13 = .ok (.ifCond .eq 10, 3) := by decide +kernel
theorem dX11_second_16 : decode cX11_second 16 = .ok (.aload_n 0, 1) := by decide +kernel
theorem dX11_second_17 : decode cX11_second 17 = .ok (.iload 5, 2) := by decide +kernel
theorem dX11_second_19 : decode cX11_second 19 = .ok (.invokevirtual 123, 3) := by decide +kernel
theorem dX11_second_22 : decode cX11_second 22 = .ok (.ireturn, 1) := by decide +kernel
theorem dX11_second_23 : decode cX11_second 23 = .ok (.iconst 0, 1) := by decide +kernel
theorem dX11_second_24 : decode cX11_second 24 = .ok (.istore 6, 2) := by decide +kernel
theorem dX11_second_26 : decode cX11_second 26 = .ok (.iload 6, 2) := by decide +kernel
theorem dX11_second_28 : decode cX11_second 28 = .ok (.iload 4, 2) := by decide +kernel
theorem dX11_second_30 : decode cX11_second 30 = .ok (.if_icmp .ge 45, 3) := by decide +kernel
theorem dX11_second_33 : decode cX11_second 33 = .ok (.aload_n 0, 1) := by decide +kernel
theorem dX11_second_34 : decode cX11_second 34 = .ok (.getfield 10, 3) := by decide +kernel
theorem dX11_second_37 : decode cX11_second 37 = .ok (.iload_n 3, 1) := by decide +kernel
theorem dX11_second_38 : decode cX11_second 38 = .ok (.aaload, 1) := by decide +kernel
theorem dX11_second_39 : decode cX11_second 39 = .ok (.iload 6, 2) := by decide +kernel
theorem dX11_second_41 : decode cX11_second 41 = .ok (.aload_n 0, 1) := by decide +kernel
theorem dX11_second_42 : decode cX11_second 42 = .ok (.getfield 10, 3) := by decide +kernel
theorem dX11_second_45 : decode cX11_second 45 = .ok (.iload_n 1, 1) := by decide +kernel
theorem dX11_second_46 : decode cX11_second 46 = .ok (.aaload, 1) := by decide +kernel
theorem dX11_second_47 : decode cX11_second 47 = .ok (.iload 6, 2) := by decide +kernel
theorem dX11_second_49 : decode cX11_second 49 = .ok (.invokevirtual 146, 3) := by decide +kernel
theorem dX11_second_52 : decode cX11_second 52 = .ok (.aload_n 0, 1) := by decide +kernel
theorem dX11_second_53 : decode cX11_second 53 = .ok (.getfield 10, 3) := by decide +kernel
theorem dX11_second_56 : decode cX11_second 56 = .ok (.iload_n 2, 1) := by decide +kernel
theorem dX11_second_57 : decode cX11_second 57 = .ok (.aaload, 1) := by decide +kernel
theorem dX11_second_58 : decode cX11_second 58 = .ok (.iload 6, 2) := by decide +kernel
theorem dX11_second_60 : decode cX11_second 60 = .ok (.invokevirtual 146, 3) := by decide +kernel
theorem dX11_second_63 : decode cX11_second 63 = .ok (.invokestatic 436, 3) := by decide +kernel
theorem dX11_second_66 : decode cX11_second 66 = .ok (.invokevirtual 138, 3) := by decide +kernel
theorem dX11_second_69 : decode cX11_second 69 = .ok (.iinc 6 1, 3) := by decide +kernel
theorem dX11_second_72 : decode cX11_second 72 = .ok (.goto (-46), 3) := by decide +kernel
theorem dX11_second_75 : decode cX11_second 75 = .ok (.aload_n 0, 1) := by decide +kernel
theorem dX11_second_76 : decode cX11_second 76 = .ok (.invokevirtual 130, 3) := by decide +kernel
theorem dX11_second_79 : decode cX11_second 79 = .ok (.ireturn, 1) := by decide +kernel
theorem dX11_anyTwo_0 : decode cX11_anyTwo 0 = .ok (.aload_n 0, 1) := by decide +kernel
theorem dX11_anyTwo_1 : decode cX11_anyTwo 1 = .ok (.iload_n 1, 1) := by decide +kernel
theorem dX11_anyTwo_2 : decode cX11_anyTwo 2 = .ok (.invokevirtual 239, 3) := by decide +kernel
theorem dX11_anyTwo_5 : decode cX11_anyTwo 5 = .ok (.ifCond .eq 19, 3) := by decide +kernel
theorem dX11_anyTwo_8 : decode cX11_anyTwo 8 = .ok (.aload_n 0, 1) := by decide +kernel
theorem dX11_anyTwo_9 : decode cX11_anyTwo 9 = .ok (.iload_n 2, 1) := by decide +kernel
theorem dX11_anyTwo_10 : decode cX11_anyTwo 10 = .ok (.invokevirtual 239, 3) := by decide +kernel
theorem dX11_anyTwo_13 : decode cX11_anyTwo 13 = .ok (.ifCond .eq 11, 3) := by decide +kernel
theorem dX11_anyTwo_16 : decode cX11_anyTwo 16 = .ok (.aload_n 0, 1) := by decide +kernel
theorem dX11_anyTwo_17 : decode cX11_anyTwo 17 = .ok (.iload_n 3, 1) := by decide +kernel
theorem dX11_anyTwo_18 : decode cX11_anyTwo 18 = .ok (.invokevirtual 239, 3) := by decide +kernel
theorem dX11_anyTwo_21 : decode cX11_anyTwo 21 = .ok (.ifCond .ne 9, 3) := by decide +kernel
theorem dX11_anyTwo_24 : decode cX11_anyTwo 24 = .ok (.aload_n 0, 1) := by decide +kernel
theorem dX11_anyTwo_25 : decode cX11_anyTwo 25 = .ok (.iconst 2, 1) := by decide +kernel
theorem dX11_anyTwo_26 : decode cX11_anyTwo 26 = .ok (.invokevirtual 142, 3) := by decide +kernel
theorem dX11_anyTwo_29 : decode cX11_anyTwo 29 = .ok (.ireturn, 1) := by decide +kernel
theorem dX11_anyTwo_30 : decode cX11_anyTwo 30 = .ok (.aload_n 0, 1) := by decide +kernel
theorem dX11_anyTwo_31 : decode cX11_anyTwo 31 = .ok (.aload_n 0, 1) := by decide +kernel
theorem dX11_anyTwo_32 : decode cX11_anyTwo 32 = .ok (.iload_n 1, 1) := by decide +kernel
theorem dX11_anyTwo_33 : decode cX11_anyTwo 33 = .ok (.invokevirtual 258, 3) := by decide +kernel
theorem dX11_anyTwo_36 : decode cX11_anyTwo 36 = .ok (.aload_n 0, 1) := by decide +kernel
theorem dX11_anyTwo_37 : decode cX11_anyTwo 37 = .ok (.iload_n 2, 1) := by decide +kernel
theorem dX11_anyTwo_38 : decode cX11_anyTwo 38 = .ok (.invokevirtual 258, 3) := by decide +kernel
theorem dX11_anyTwo_41 : decode cX11_anyTwo 41 = .ok (.aload_n 0, 1) := by decide +kernel
theorem dX11_anyTwo_42 : decode cX11_anyTwo 42 = .ok (.iload_n 3, 1) := by decide +kernel
theorem dX11_anyTwo_43 : decode cX11_anyTwo 43 = .ok (.invokevirtual 258, 3) := by decide +kernel
theorem dX11_anyTwo_46 : decode cX11_anyTwo 46 = .ok (.invokestatic 439, 3) := by decide +kernel
theorem dX11_anyTwo_49 : decode cX11_anyTwo 49 = .ok (.ifCond .eq 7, 3) := by decide +kernel
theorem dX11_anyTwo_52 : decode cX11_anyTwo 52 = .ok (.iconst 1, 1) := by decide +kernel
theorem dX11_anyTwo_53 : decode cX11_anyTwo 53 = .ok (.goto 4, 3) := by decide +kernel
theorem dX11_anyTwo_56 : decode cX11_anyTwo 56 = .ok (.iconst 0, 1) := by decide +kernel
theorem dX11_anyTwo_57 : decode cX11_anyTwo 57 = .ok (.invokevirtual 196, 3) := by decide +kernel
theorem dX11_anyTwo_60 : decode cX11_anyTwo 60 = .ok (.ireturn, 1) := by decide +kernel
theorem dX11_mark_0 : decode cX11_mark 0 = .ok (.aload_n 0, 1) := by decide +kernel
theorem dX11_mark_1 : decode cX11_mark 1 = .ok (.getfield 443, 3) := by decide +kernel
theorem dX11_mark_4 : decode cX11_mark 4 = .ok (.iconst 3, 1) := by decide +kernel
theorem dX11_mark_5 : decode cX11_mark 5 = .ok (.if_icmp .lt 10, 3) := by decide +kernel
theorem dX11_mark_8 : decode cX11_mark 8 = .ok (.aload_n 0, 1) := by decide +kernel
theorem dX11_mark_9 : decode cX11_mark 9 = .ok (.bipush 7, 2) := by decide +kernel
theorem dX11_mark_11 : decode cX11_mark 11 = .ok (.invokevirtual 142, 3) := by decide +kernel
theorem dX11_mark_14 : decode cX11_mark 14 = .ok (.ireturn, 1) := by decide +kernel
theorem dX11_mark_15 : decode cX11_mark 15 = .ok (.aload_n 0, 1) := by decide +kernel
theorem dX11_mark_16 : decode cX11_mark 16 = .ok (.getfield 58, 3) := by decide +kernel
theorem dX11_mark_19 : decode cX11_mark 19 = .ok (.aload_n 0, 1) := by decide +kernel
theorem dX11_mark_20 : decode cX11_mark 20 = .ok (.getfield 443, 3) := by decide +kernel
theorem dX11_mark_23 : decode cX11_mark 23 = .ok (.aaload, 1) := by decide +kernel
theorem dX11_mark_24 : decode cX11_mark 24 = .ok (.astore_n 1, 1) := by decide +kernel
theorem dX11_mark_25 : decode cX11_mark 25 = .ok (.aload_n 1, 1) := by decide +kernel
theorem dX11_mark_26 : decode cX11_mark 26 = .ok (.aload_n 0, 1) := by decide +kernel
theorem dX11_mark_27 : decode cX11_mark 27 = .ok (.getfield 42, 3) := by decide +kernel
theorem dX11_mark_30 : decode cX11_mark 30 = .ok (.putfield 446, 3) := by decide +kernel
theorem dX11_mark_33 : decode cX11_mark 33 = .ok (.aload_n 1, 1) := by decide +kernel
theorem dX11_mark_34 : decode cX11_mark 34 = .ok (.aload_n 0, 1) := by decide +kernel
theorem dX11_mark_35 : decode cX11_mark 35 = .ok (.getfield 49, 3) := by decide +kernel
theorem dX11_mark_38 : decode cX11_mark 38 = .ok (.putfield 447, 3) := by decide +kernel
theorem dX11_mark_41 : decode cX11_mark 41 = .ok (.aload_n 1, 1) := by decide +kernel
theorem dX11_mark_42 : decode cX11_mark 42 = .ok (.aload_n 0, 1) := by decide +kernel
theorem dX11_mark_43 : decode cX11_mark 43 = .ok (.getfield 190, 3) := by decide +kernel
theorem dX11_mark_46 : decode cX11_mark 46 = .ok (.putfield 448, 3) := by decide +kernel
theorem dX11_mark_49 : decode cX11_mark 49 = .ok (.aload_n 0, 1) := by decide +kernel
theorem dX11_mark_50 : decode cX11_mark 50 = .ok (.dup, 1) := by decide +kernel
theorem dX11_mark_51 : decode cX11_mark 51 = .ok (.getfield 443, 3) := by decide +kernel
theorem dX11_mark_54 : decode cX11_mark 54 = .ok (.iconst 1, 1) := by decide +kernel
theorem dX11_mark_55 : decode cX11_mark 55 = .ok (.iadd, 1) := by decide +kernel
theorem dX11_mark_56 : decode cX11_mark 56 = .ok (.putfield 443, 3) := by decide +kernel
theorem dX11_mark_59 : decode cX11_mark 59 = .ok (.aload_n 0, 1) := by decide +kernel
theorem dX11_mark_60 : decode cX11_mark 60 = .ok (.aload_n 0, 1) := by decide +kernel
theorem dX11_mark_61 : decode cX11_mark 61 = .ok (.getfield 443, 3) := by decide +kernel
theorem dX11_mark_64 : decode cX11_mark 64 = .ok (.invokevirtual 196, 3) := by decide +kernel
theorem dX11_mark_67 : decode cX11_mark 67 = .ok (.ireturn, 1) := by decide +kernel
theorem dX11_back_0 : decode cX11_back 0 = .ok (.aload_n 0, 1) := by decide +kernel
theorem dX11_back_1 : decode cX11_back 1 = .ok (.getfield 443, 3) := by decide +kernel
theorem dX11_back_4 : decode cX11_back 4 = .ok (.ifCond .gt 10, 3) := by decide +kernel
theorem dX11_back_7 : decode cX11_back 7 = .ok (.aload_n 0, 1) := by decide +kernel
theorem dX11_back_8 : decode cX11_back 8 = .ok (.bipush 8, 2) := by decide +kernel
theorem dX11_back_10 : decode cX11_back 10 = .ok (.invokevirtual 142, 3) := by decide +kernel
theorem dX11_back_13 : decode cX11_back 13 = .ok (.ireturn, 1) := by decide +kernel
theorem dX11_back_14 : decode cX11_back 14 = .ok (.aload_n 0, 1) := by decide +kernel
theorem dX11_back_15 : decode cX11_back 15 = .ok (.dup, 1) := by decide +kernel
theorem dX11_back_16 : decode cX11_back 16 = .ok (.getfield 443, 3) := by decide +kernel
theorem dX11_back_19 : decode cX11_back 19 = .ok (.iconst 1, 1) := by decide +kernel
theorem dX11_back_20 : decode cX11_back 20 = .ok (.isub, 1) := by decide +kernel
theorem dX11_back_21 : decode cX11_back 21 = .ok (.putfield 443, 3) := by decide +kernel
theorem dX11_back_24 : decode cX11_back 24 = .ok (.aload_n 0, 1) := by decide +kernel
theorem dX11_back_25 : decode cX11_back 25 = .ok (.getfield 58, 3) := by decide +kernel
theorem dX11_back_28 : decode cX11_back 28 = .ok (.aload_n 0, 1) := by decide +kernel
theorem dX11_back_29 : decode cX11_back 29 = .ok (.getfield 443, 3) := by decide +kernel
theorem dX11_back_32 : decode cX11_back 32 = .ok (.aaload, 1) := by decide +kernel
theorem dX11_back_33 : decode cX11_back 33 = .ok (.astore_n 1, 1) := by decide +kernel
theorem dX11_back_34 : decode cX11_back 34 = .ok (.aload_n 0, 1) := by decide +kernel
theorem dX11_back_35 : decode cX11_back 35 = .ok (.aload_n 1, 1) := by decide +kernel
theorem dX11_back_36 : decode cX11_back 36 = .ok (.getfield 446, 3) := by decide +kernel
theorem dX11_back_39 : decode cX11_back 39 = .ok (.putfield 42, 3) := by decide +kernel
theorem dX11_back_42 : decode cX11_back 42 = .ok (.aload_n 0, 1) := by decide +kernel
theorem dX11_back_43 : decode cX11_back 43 = .ok (.aload_n 1, 1) := by decide +kernel
theorem dX11_back_44 : decode cX11_back 44 = .ok (.getfield 447, 3) := by decide +kernel
theorem dX11_back_47 : decode cX11_back 47 = .ok (.putfield 49, 3) := by decide +kernel
theorem dX11_back_50 : decode cX11_back 50 = .ok (.aload_n 0, 1) := by decide +kernel
theorem dX11_back_51 : decode cX11_back 51 = .ok (.aload_n 1, 1) := by decide +kernel
theorem dX11_back_52 : decode cX11_back 52 = .ok (.getfield 448, 3) := by decide +kernel
theorem dX11_back_55 : decode cX11_back 55 = .ok (.putfield 190, 3) := by decide +kernel
theorem dX11_back_58 : decode cX11_back 58 = .ok (.aload_n 0, 1) := by decide +kernel
theorem dX11_back_59 : decode cX11_back 59 = .ok (.aload_n 0, 1) := by decide +kernel
theorem dX11_back_60 : decode cX11_back 60 = .ok (.getfield 443, 3) := by decide +kernel
theorem dX11_back_63 : decode cX11_back 63 = .ok (.invokevirtual 196, 3) := by decide +kernel
theorem dX11_back_66 : decode cX11_back 66 = .ok (.ireturn, 1) := by decide +kernel
theorem dX11_answer_0 : decode cX11_answer 0 = .ok (.aload_n 0, 1) := by decide +kernel
theorem dX11_answer_1 : decode cX11_answer 1 = .ok (.iconst 0, 1) := by decide +kernel
theorem dX11_answer_2 : decode cX11_answer 2 = .ok (.putfield 106, 3) := by decide +kernel
theorem dX11_answer_5 : decode cX11_answer 5 = .ok (.iload_n 1, 1) := by decide +kernel
theorem dX11_answer_6 : decode cX11_answer 6 = .ok (.ireturn, 1) := by decide +kernel
theorem dX11_refuse_0 : decode cX11_refuse 0 = .ok (.aload_n 0, 1) := by decide +kernel
theorem dX11_refuse_1 : decode cX11_refuse 1 = .ok (.iload_n 1, 1) := by decide +kernel
theorem dX11_refuse_2 : decode cX11_refuse 2 = .ok (.putfield 106, 3) := by decide +kernel
theorem dX11_refuse_5 : decode cX11_refuse 5 = .ok (.iconst (-1), 1) := by decide +kernel
theorem dX11_refuse_6 : decode cX11_refuse 6 = .ok (.ireturn, 1) := by decide +kernel
theorem dX11_allow_0 : decode cX11_allow 0 = .ok (.aload_n 0, 1) := by decide +kernel
theorem dX11_allow_1 : decode cX11_allow 1 = .ok (.iconst 0, 1) := by decide +kernel
theorem dX11_allow_2 : decode cX11_allow 2 = .ok (.putfield 106, 3) := by decide +kernel
theorem dX11_allow_5 : decode cX11_allow 5 = .ok (.iconst 1, 1) := by decide +kernel
theorem dX11_allow_6 : decode cX11_allow 6 = .ok (.ireturn, 1) := by decide +kernel
theorem dX11_deny_0 : decode cX11_deny 0 = .ok (.aload_n 0, 1) := by decide +kernel
theorem dX11_deny_1 : decode cX11_deny 1 = .ok (.iload_n 1, 1) := by decide +kernel
theorem dX11_deny_2 : decode cX11_deny 2 = .ok (.putfield 106, 3) := by decide +kernel
theorem dX11_deny_5 : decode cX11_deny 5 = .ok (.iconst 0, 1) := by decide +kernel
theorem dX11_deny_6 : decode cX11_deny 6 = .ok (.ireturn, 1) := by decide +kernel
theorem dX11_answerAt_0 : decode cX11_answerAt 0 = .ok (.aload_n 1, 1) := by decide +kernel
theorem dX11_answerAt_1 : decode cX11_answerAt 1 = .ok (.iload_n 2, 1) := by decide +kernel
theorem dX11_answerAt_2 : decode cX11_answerAt 2 = .ok (.invokevirtual 449, 3) := by decide +kernel
theorem dX11_answerAt_5 : decode cX11_answerAt 5 = .ok (.ifCond .eq 15, 3) := by decide +kernel
theorem dX11_answerAt_8 : decode cX11_answerAt 8 = .ok (.aload_n 0, 1) := by decide +kernel
theorem dX11_answerAt_9 : decode cX11_answerAt 9 = .ok (.aload_n 1, 1) := by decide +kernel
theorem dX11_answerAt_10 : decode cX11_answerAt 10 = .ok (.iload_n 2, 1) := by decide +kernel
theorem dX11_answerAt_11 : decode cX11_answerAt 11 = .ok (.invokevirtual 310, 3) := by decide +kernel
theorem dX11_answerAt_14 : decode cX11_answerAt 14 = .ok (.invokevirtual 196, 3) := by decide +kernel
theorem dX11_answerAt_17 : decode cX11_answerAt 17 = .ok (.goto 9, 3) := by decide +kernel
theorem dX11_answerAt_20 : decode cX11_answerAt 20 = .ok (.aload_n 0, 1) := by decide +kernel
theorem dX11_answerAt_21 : decode cX11_answerAt 21 = .ok (.bipush 8, 2) := by decide +kernel
theorem dX11_answerAt_23 : decode cX11_answerAt 23 = .ok (.invokevirtual 142, 3) := by decide +kernel
theorem dX11_answerAt_26 : decode cX11_answerAt 26 = .ok (.ireturn, 1) := by decide +kernel
theorem dX11_answerOrNoSuch_0 : decode cX11_answerOrNoSuch 0 = .ok (.iload_n 1, 1) := by decide +kernel
theorem dX11_answerOrNoSuch_1 : decode cX11_answerOrNoSuch 1 = .ok (.iconst (-1), 1) := by decide +kernel
theorem dX11_answerOrNoSuch_2 : decode cX11_answerOrNoSuch 2 = .ok (.if_icmp .ne 12, 3) := by decide +kernel
theorem dX11_answerOrNoSuch_5 : decode cX11_answerOrNoSuch 5 = .ok (.aload_n 0, 1) := by decide +kernel
theorem dX11_answerOrNoSuch_6 : decode cX11_answerOrNoSuch 6 = .ok (.bipush 8, 2) := by decide +kernel
theorem dX11_answerOrNoSuch_8 : decode cX11_answerOrNoSuch 8 = .ok (.invokevirtual 142, 3) := by decide +kernel
theorem dX11_answerOrNoSuch_11 : decode cX11_answerOrNoSuch 11 = .ok (.goto 8, 3) := by decide +kernel
theorem dX11_answerOrNoSuch_14 : decode cX11_answerOrNoSuch 14 = .ok (.aload_n 0, 1) := by decide +kernel
theorem dX11_answerOrNoSuch_15 : decode cX11_answerOrNoSuch 15 = .ok (.iload_n 1, 1) := by decide +kernel
theorem dX11_answerOrNoSuch_16 : decode cX11_answerOrNoSuch 16 = .ok (.invokevirtual 196, 3) := by decide +kernel
theorem dX11_answerOrNoSuch_19 : decode cX11_answerOrNoSuch 19 = .ok (.ireturn, 1) := by decide +kernel
theorem dX11_bring_0 : decode cX11_bring 0 = .ok (.aload_n 0, 1) := by decide +kernel
theorem dX11_bring_1 : decode cX11_bring 1 = .ok (.getfield 10, 3) := by decide +kernel
theorem dX11_bring_4 : decode cX11_bring 4 = .ok (.iload_n 2, 1) := by decide +kernel
theorem dX11_bring_5 : decode cX11_bring 5 = .ok (.aaload, 1) := by decide +kernel
theorem dX11_bring_6 : decode cX11_bring 6 = .ok (.astore_n 3, 1) := by decide +kernel
theorem dX11_bring_7 : decode cX11_bring 7 = .ok (.aload_n 3, 1) := by decide +kernel
theorem dX11_bring_8 : decode cX11_bring 8 = .ok (.invokevirtual 150, 3) := by decide +kernel
theorem dX11_bring_11 : decode cX11_bring 11 = .ok (.ifCond .eq 9, 3) := by decide +kernel
theorem dX11_bring_14 : decode cX11_bring 14 = .ok (.aload_n 0, 1) := by decide +kernel
theorem dX11_bring_15 : decode cX11_bring 15 = .ok (.iconst 3, 1) := by decide +kernel
theorem dX11_bring_16 : decode cX11_bring 16 = .ok (.invokevirtual 142, 3) := by decide +kernel
theorem dX11_bring_19 : decode cX11_bring 19 = .ok (.ireturn, 1) := by decide +kernel
theorem dX11_bring_20 : decode cX11_bring 20 = .ok (.aload_n 1, 1) := by decide +kernel
theorem dX11_bring_21 : decode cX11_bring 21 = .ok (.getfield 262, 3) := by decide +kernel
theorem dX11_bring_24 : decode cX11_bring 24 = .ok (.aload_n 3, 1) := by decide +kernel
theorem dX11_bring_25 : decode cX11_bring 25 = .ok (.getfield 452, 3) := by decide +kernel
theorem dX11_bring_28 : decode cX11_bring 28 = .ok (.if_icmp .le 9, 3) := by decide +kernel
theorem dX11_bring_31 : decode cX11_bring 31 = .ok (.aload_n 0, 1) := by decide +kernel
theorem dX11_bring_32 : decode cX11_bring 32 = .ok (.iconst 4, 1) := by decide +kernel
theorem dX11_bring_33 : decode cX11_bring 33 = .ok (.invokevirtual 142, 3) := by decide +kernel
theorem dX11_bring_36 : decode cX11_bring 36 = .ok (.ireturn, 1) := by decide +kernel
theorem dX11_bring_37 : decode cX11_bring 37 = .ok (.iconst 0, 1) := by decide +kernel
theorem dX11_bring_38 : decode cX11_bring 38 = .ok (.istore 4, 2) := by decide +kernel
theorem dX11_bring_40 : decode cX11_bring 40 = .ok (.iload 4, 2) := by decide +kernel
theorem dX11_bring_42 : decode cX11_bring 42 = .ok (.aload_n 1, 1) := by decide +kernel
theorem dX11_bring_43 : decode cX11_bring 43 = .ok (.getfield 262, 3) := by decide +kernel
theorem dX11_bring_46 : decode cX11_bring 46 = .ok (.if_icmp .ge 22, 3) := by decide +kernel
theorem dX11_bring_49 : decode cX11_bring 49 = .ok (.aload_n 3, 1) := by decide +kernel
theorem dX11_bring_50 : decode cX11_bring 50 = .ok (.iload 4, 2) := by decide +kernel
theorem dX11_bring_52 : decode cX11_bring 52 = .ok (.aload_n 1, 1) := by decide +kernel
theorem dX11_bring_53 : decode cX11_bring 53 = .ok (.iload 4, 2) := by decide +kernel
theorem dX11_bring_55 : decode cX11_bring 55 = .ok (.invokevirtual 310, 3) := by decide +kernel
theorem dX11_bring_58 : decode cX11_bring 58 = .ok (.i2l, 1) := by decide +kernel
theorem dX11_bring_59 : decode cX11_bring 59 = .ok (.invokevirtual 138, 3) := by decide +kernel
theorem dX11_bring_62 : decode cX11_bring 62 = .ok (.iinc 4 1, 3) := by decide +kernel
theorem dX11_bring_65 : decode cX11_bring 65 = .ok (.goto (-25), 3) := by decide +kernel
theorem dX11_bring_68 : decode cX11_bring 68 = .ok (.aload_n 0, 1) := by decide +kernel
theorem dX11_bring_69 : decode cX11_bring 69 = .ok (.aload_n 1, 1) := by decide +kernel
theorem dX11_bring_70 : decode cX11_bring 70 = .ok (.getfield 262, 3) := by decide +kernel
theorem dX11_bring_73 : decode cX11_bring 73 = .ok (.invokevirtual 196, 3) := by decide +kernel
theorem dX11_bring_76 : decode cX11_bring 76 = .ok (.ireturn, 1) := by decide +kernel
theorem dX11_tellFraction_0 : decode cX11_tellFraction 0 = .ok (.lload_n 3, 1) := by decide +kernel
theorem dX11_tellFraction_1 : decode cX11_tellFraction 1 = .ok (.lstore 5, 2) := by decide +kernel
theorem dX11_tellFraction_3 : decode cX11_tellFraction 3 = .ok (.lload_n 1, 1) := by decide +kernel
theorem dX11_tellFraction_4 : decode cX11_tellFraction 4 = .ok (.lstore 7, 2) := by decide +kernel
theorem dX11_tellFraction_6 : decode cX11_tellFraction 6 = .ok (.iconst 0, 1) := by decide +kernel
theorem dX11_tellFraction_7 : decode cX11_tellFraction 7 = .ok (.istore 9, 2) := by decide +kernel
theorem dX11_tellFraction_9 : decode cX11_tellFraction 9 = .ok (.iload 9, 2) := by decide +kernel
theorem dX11_tellFraction_11 : decode cX11_tellFraction 11 = .ok (.sipush 200, 3) := by decide +kernel
theorem dX11_tellFraction_14 : decode cX11_tellFraction 14 = .ok (.if_icmp .ge 31, 3) := by decide +kernel
theorem dX11_tellFraction_17 : decode cX11_tellFraction 17 = .ok (.lload 7, 2) := by decide +kernel
theorem dX11_tellFraction_19 : decode cX11_tellFraction 19 = .ok (.lconst 0, 1) := by decide +kernel
theorem dX11_tellFraction_20 : decode cX11_tellFraction 20 = .ok (.lcmp, 1) := by decide +kernel
theorem dX11_tellFraction_21 : decode cX11_tellFraction 21 = .ok (.ifCond .eq 24, 3) := by decide +kernel
theorem dX11_tellFraction_24 : decode cX11_tellFraction 24 = .ok (.lload 5, 2) := by decide +kernel
theorem dX11_tellFraction_26 : decode cX11_tellFraction 26 = .ok (.lload 7, 2) := by decide +kernel
theorem dX11_tellFraction_28 : decode cX11_tellFraction 28 = .ok (.lrem, 1) := by decide +kernel
theorem dX11_tellFraction_29 : decode cX11_tellFraction 29 = .ok (.lstore 10, 2) := by decide +kernel
theorem dX11_tellFraction_31 : decode cX11_tellFraction 31 = .ok (.lload 7, 2) := by decide +kernel
theorem dX11_tellFraction_33 : decode cX11_tellFraction 33 = .ok (.lstore 5, 2) := by decide +kernel
theorem dX11_tellFraction_35 : decode cX11_tellFraction 35 = .ok (.lload 10, 2) := by decide +kernel
theorem dX11_tellFraction_37 : decode cX11_tellFraction 37 = .ok (.lstore 7, 2) := by decide +kernel
theorem dX11_tellFraction_39 : decode cX11_tellFraction 39 = .ok (.iinc 9 1, 3) := by decide +kernel
theorem dX11_tellFraction_42 : decode cX11_tellFraction 42 = .ok (.goto (-33), 3) := by decide +kernel
theorem dX11_tellFraction_45 : decode cX11_tellFraction 45 = .ok (.lload 5, 2) := by decide +kernel
theorem dX11_tellFraction_47 : decode cX11_tellFraction 47 = .ok (.lconst 0, 1) := by decide +kernel
theorem dX11_tellFraction_48 : decode cX11_tellFraction 48 = .ok (.lcmp, 1) := by decide +kernel
theorem dX11_tellFraction_49 : decode cX11_tellFraction 49 = .ok (.ifCond .eq 19, 3) := by decide +kernel
theorem dX11_tellFraction_52 : decode cX11_tellFraction 52 = .ok (.aload_n 0, 1) := by decide +kernel
theorem dX11_tellFraction_53 : decode cX11_tellFraction 53 = .ok (.lload_n 1, 1) := by decide +kernel
theorem dX11_tellFraction_54 : decode cX11_tellFraction 54 = .ok (.lload 5, 2) := by decide +kernel
theorem dX11_tellFraction_56 : decode cX11_tellFraction 56 = .ok (.ldiv, 1) := by decide +kernel
theorem dX11_tellFraction_57 : decode cX11_tellFraction 57 = .ok (.putfield 110, 3) := by decide +kernel
theorem dX11_tellFraction_60 : decode cX11_tellFraction 60 = .ok (.aload_n 0, 1) := by decide +kernel
theorem dX11_tellFraction_61 : decode cX11_tellFraction 61 = .ok (.lload_n 3, 1) := by decide +kernel
theorem dX11_tellFraction_62 : decode cX11_tellFraction 62 = .ok (.lload 5, 2) := by decide +kernel
theorem dX11_tellFraction_64 : decode cX11_tellFraction 64 = .ok (.ldiv, 1) := by decide +kernel
theorem dX11_tellFraction_65 : decode cX11_tellFraction 65 = .ok (.putfield 102, 3) := by decide +kernel
theorem dX11_tellFraction_68 : decode cX11_tellFraction 68 = .ok (.return_, 1) := by decide +kernel
theorem dX11_within_0 : decode cX11_within 0 = .ok (.lload_n 0, 1) := by decide +kernel
theorem dX11_within_1 : decode cX11_within 1 = .ok (.lload_n 2, 1) := by decide +kernel
theorem dX11_within_2 : decode cX11_within 2 = .ok (.lcmp, 1) := by decide +kernel
theorem dX11_within_3 : decode cX11_within 3 = .ok (.ifCond .lt 14, 3) := by decide +kernel
theorem dX11_within_6 : decode cX11_within 6 = .ok (.lload_n 0, 1) := by decide +kernel
theorem dX11_within_7 : decode cX11_within 7 = .ok (.lload 4, 2) := by decide +kernel
theorem dX11_within_9 : decode cX11_within 9 = .ok (.lcmp, 1) := by decide +kernel
theorem dX11_within_10 : decode cX11_within 10 = .ok (.ifCond .gt 7, 3) := by decide +kernel
theorem dX11_within_13 : decode cX11_within 13 = .ok (.iconst 1, 1) := by decide +kernel
theorem dX11_within_14 : decode cX11_within 14 = .ok (.goto 4, 3) := by decide +kernel
theorem dX11_within_17 : decode cX11_within 17 = .ok (.iconst 0, 1) := by decide +kernel
theorem dX11_within_18 : decode cX11_within 18 = .ok (.ireturn, 1) := by decide +kernel
theorem dX11_isIn_0 : decode cX11_isIn 0 = .ok (.iload_n 0, 1) := by decide +kernel
theorem dX11_isIn_1 : decode cX11_isIn 1 = .ok (.iload_n 1, 1) := by decide +kernel
theorem dX11_isIn_2 : decode cX11_isIn 2 = .ok (.ishr, 1) := by decide +kernel
theorem dX11_isIn_3 : decode cX11_isIn 3 = .ok (.iconst 1, 1) := by decide +kernel
theorem dX11_isIn_4 : decode cX11_isIn 4 = .ok (.iand, 1) := by decide +kernel
theorem dX11_isIn_5 : decode cX11_isIn 5 = .ok (.ifCond .eq 7, 3) := by decide +kernel
theorem dX11_isIn_8 : decode cX11_isIn 8 = .ok (.iconst 1, 1) := by decide +kernel
theorem dX11_isIn_9 : decode cX11_isIn 9 = .ok (.goto 4, 3) := by decide +kernel
theorem dX11_isIn_12 : decode cX11_isIn 12 = .ok (.iconst 0, 1) := by decide +kernel
theorem dX11_isIn_13 : decode cX11_isIn 13 = .ok (.ireturn, 1) := by decide +kernel
theorem dX11_isTray_0 : decode cX11_isTray 0 = .ok (.iload_n 0, 1) := by decide +kernel
theorem dX11_isTray_1 : decode cX11_isTray 1 = .ok (.i2l, 1) := by decide +kernel
theorem dX11_isTray_2 : decode cX11_isTray 2 = .ok (.lconst 0, 1) := by decide +kernel
theorem dX11_isTray_3 : decode cX11_isTray 3 = .ok (.ldc2_w 117, 3) := by decide +kernel
theorem dX11_isTray_6 : decode cX11_isTray 6 = .ok (.invokestatic 119, 3) := by decide +kernel
theorem dX11_isTray_9 : decode cX11_isTray 9 = .ok (.ireturn, 1) := by decide +kernel
theorem dX11_isLetterOrRest_0 : decode cX11_isLetterOrRest 0 = .ok (.iload_n 0, 1) := by decide +kernel
theorem dX11_isLetterOrRest_1 : decode cX11_isLetterOrRest 1 = .ok (.i2l, 1) := by decide +kernel
theorem dX11_isLetterOrRest_2 : decode cX11_isLetterOrRest 2 = .ok (.lconst 0, 1) := by decide +kernel
theorem dX11_isLetterOrRest_3 : decode cX11_isLetterOrRest 3 = .ok (.ldc2_w 453, 3) := by decide +kernel
theorem dX11_isLetterOrRest_6 : decode cX11_isLetterOrRest 6 = .ok (.invokestatic 119, 3) := by decide +kernel
theorem dX11_isLetterOrRest_9 : decode cX11_isLetterOrRest 9 = .ok (.ireturn, 1) := by decide +kernel
theorem dX11_isJar_0 : decode cX11_isJar 0 = .ok (.iload_n 1, 1) := by decide +kernel
theorem dX11_isJar_1 : decode cX11_isJar 1 = .ok (.i2l, 1) := by decide +kernel
theorem dX11_isJar_2 : decode cX11_isJar 2 = .ok (.lconst 0, 1) := by decide +kernel
theorem dX11_isJar_3 : decode cX11_isJar 3 = .ok (.aload_n 0, 1) := by decide +kernel
theorem dX11_isJar_4 : decode cX11_isJar 4 = .ok (.getfield 42, 3) := by decide +kernel
theorem dX11_isJar_7 : decode cX11_isJar 7 = .ok (.getfield 193, 3) := by decide +kernel
theorem dX11_isJar_10 : decode cX11_isJar 10 = .ok (.iconst 1, 1) := by decide +kernel
theorem dX11_isJar_11 : decode cX11_isJar 11 = .ok (.isub, 1) := by decide +kernel
theorem dX11_isJar_12 : decode cX11_isJar 12 = .ok (.i2l, 1) := by decide +kernel
theorem dX11_isJar_13 : decode cX11_isJar 13 = .ok (.invokestatic 119, 3) := by decide +kernel
theorem dX11_isJar_16 : decode cX11_isJar 16 = .ok (.ireturn, 1) := by decide +kernel
theorem dX11_isSound_0 : decode cX11_isSound 0 = .ok (.iload_n 1, 1) := by decide +kernel
theorem dX11_isSound_1 : decode cX11_isSound 1 = .ok (.i2l, 1) := by decide +kernel
theorem dX11_isSound_2 : decode cX11_isSound 2 = .ok (.lconst 0, 1) := by decide +kernel
theorem dX11_isSound_3 : decode cX11_isSound 3 = .ok (.aload_n 0, 1) := by decide +kernel
theorem dX11_isSound_4 : decode cX11_isSound 4 = .ok (.getfield 42, 3) := by decide +kernel
theorem dX11_isSound_7 : decode cX11_isSound 7 = .ok (.getfield 217, 3) := by decide +kernel
theorem dX11_isSound_10 : decode cX11_isSound 10 = .ok (.iconst 1, 1) := by decide +kernel
theorem dX11_isSound_11 : decode cX11_isSound 11 = .ok (.isub, 1) := by decide +kernel
theorem dX11_isSound_12 : decode cX11_isSound 12 = .ok (.i2l, 1) := by decide +kernel
theorem dX11_isSound_13 : decode cX11_isSound 13 = .ok (.invokestatic 119, 3) := by decide +kernel
theorem dX11_isSound_16 : decode cX11_isSound 16 = .ok (.ireturn, 1) := by decide +kernel
theorem dX11_isJarSet_0 : decode cX11_isJarSet 0 = .ok (.iload_n 1, 1) := by decide +kernel
theorem dX11_isJarSet_1 : decode cX11_isJarSet 1 = .ok (.i2l, 1) := by decide +kernel
theorem dX11_isJarSet_2 : decode cX11_isJarSet 2 = .ok (.lconst 0, 1) := by decide +kernel
theorem dX11_isJarSet_3 : decode cX11_isJarSet 3 = .ok (.aload_n 0, 1) := by decide +kernel
theorem dX11_isJarSet_4 : decode cX11_isJarSet 4 = .ok (.getfield 42, 3) := by decide +kernel
theorem dX11_isJarSet_7 : decode cX11_isJarSet 7 = .ok (.invokevirtual 455, 3) := by decide +kernel
theorem dX11_isJarSet_10 : decode cX11_isJarSet 10 = .ok (.i2l, 1) := by decide +kernel
theorem dX11_isJarSet_11 : decode cX11_isJarSet 11 = .ok (.invokestatic 119, 3) := by decide +kernel
theorem dX11_isJarSet_14 : decode cX11_isJarSet 14 = .ok (.ireturn, 1) := by decide +kernel
theorem dX11_placeReason_0 : decode cX11_placeReason 0 = .ok (.iload_n 1, 1) := by decide +kernel
theorem dX11_placeReason_1 : decode cX11_placeReason 1 = .ok (.invokestatic 113, 3) := by decide +kernel
theorem dX11_placeReason_4 : decode cX11_placeReason 4 = .ok (.ifCond .ne 5, 3) := by decide +kernel
theorem dX11_placeReason_7 : decode cX11_placeReason 7 = .ok (.iconst 1, 1) := by decide +kernel
theorem dX11_placeReason_8 : decode cX11_placeReason 8 = .ok (.ireturn, 1) := by decide +kernel
theorem dX11_placeReason_9 : decode cX11_placeReason 9 = .ok (.aload_n 0, 1) := by decide +kernel
theorem dX11_placeReason_10 : decode cX11_placeReason 10 = .ok (.getfield 10, 3) := by decide +kernel
theorem dX11_placeReason_13 : decode cX11_placeReason 13 = .ok (.iload_n 1, 1) := by decide +kernel
theorem dX11_placeReason_14 : decode cX11_placeReason 14 = .ok (.aaload, 1) := by decide +kernel
theorem dX11_placeReason_15 : decode cX11_placeReason 15 = .ok (.invokevirtual 150, 3) := by decide +kernel
theorem dX11_placeReason_18 : decode cX11_placeReason 18 = .ok (.ifCond .eq 5, 3) := by decide +kernel
theorem dX11_placeReason_21 : decode cX11_placeReason 21 = .ok (.iconst 3, 1) := by decide +kernel
theorem dX11_placeReason_22 : decode cX11_placeReason 22 = .ok (.ireturn, 1) := by decide +kernel
theorem dX11_placeReason_23 : decode cX11_placeReason 23 = .ok (.aload_n 0, 1) := by decide +kernel
theorem dX11_placeReason_24 : decode cX11_placeReason 24 = .ok (.getfield 10, 3) := by decide +kernel
theorem dX11_placeReason_27 : decode cX11_placeReason 27 = .ok (.iload_n 1, 1) := by decide +kernel
theorem dX11_placeReason_28 : decode cX11_placeReason 28 = .ok (.aaload, 1) := by decide +kernel
theorem dX11_placeReason_29 : decode cX11_placeReason 29 = .ok (.iload_n 2, 1) := by decide +kernel
theorem dX11_placeReason_30 : decode cX11_placeReason 30 = .ok (.iconst 1, 1) := by decide +kernel
theorem dX11_placeReason_31 : decode cX11_placeReason 31 = .ok (.invokevirtual 156, 3) := by decide +kernel
theorem dX11_placeReason_34 : decode cX11_placeReason 34 = .ok (.ifCond .eq 7, 3) := by decide +kernel
theorem dX11_placeReason_37 : decode cX11_placeReason 37 = .ok (.iconst 0, 1) := by decide +kernel
theorem dX11_placeReason_38 : decode cX11_placeReason 38 = .ok (.goto 4, 3) := by decide +kernel
theorem dX11_placeReason_41 : decode cX11_placeReason 41 = .ok (.iconst 4, 1) := by decide +kernel
theorem dX11_placeReason_42 : decode cX11_placeReason 42 = .ok (.ireturn, 1) := by decide +kernel
theorem dX11_rowReason_0 : decode cX11_rowReason 0 = .ok (.iload_n 1, 1) := by decide +kernel
theorem dX11_rowReason_1 : decode cX11_rowReason 1 = .ok (.invokestatic 113, 3) := by decide +kernel
theorem dX11_rowReason_4 : decode cX11_rowReason 4 = .ok (.ifCond .ne 5, 3) := by decide +kernel
theorem dX11_rowReason_7 : decode cX11_rowReason 7 = .ok (.iconst 1, 1) := by decide +kernel
theorem dX11_rowReason_8 : decode cX11_rowReason 8 = .ok (.ireturn, 1) := by decide +kernel
theorem dX11_rowReason_9 : decode cX11_rowReason 9 = .ok (.aload_n 0, 1) := by decide +kernel
theorem dX11_rowReason_10 : decode cX11_rowReason 10 = .ok (.getfield 10, 3) := by decide +kernel
theorem dX11_rowReason_13 : decode cX11_rowReason 13 = .ok (.iload_n 1, 1) := by decide +kernel
theorem dX11_rowReason_14 : decode cX11_rowReason 14 = .ok (.aaload, 1) := by decide +kernel
theorem dX11_rowReason_15 : decode cX11_rowReason 15 = .ok (.invokevirtual 150, 3) := by decide +kernel
theorem dX11_rowReason_18 : decode cX11_rowReason 18 = .ok (.ifCond .eq 5, 3) := by decide +kernel
theorem dX11_rowReason_21 : decode cX11_rowReason 21 = .ok (.iconst 3, 1) := by decide +kernel
theorem dX11_rowReason_22 : decode cX11_rowReason 22 = .ok (.ireturn, 1) := by decide +kernel
theorem dX11_rowReason_23 : decode cX11_rowReason 23 = .ok (.iload_n 2, 1) := by decide +kernel
theorem dX11_rowReason_24 : decode cX11_rowReason 24 = .ok (.aload_n 0, 1) := by decide +kernel
theorem dX11_rowReason_25 : decode cX11_rowReason 25 = .ok (.getfield 10, 3) := by decide +kernel
theorem dX11_rowReason_28 : decode cX11_rowReason 28 = .ok (.iload_n 1, 1) := by decide +kernel
theorem dX11_rowReason_29 : decode cX11_rowReason 29 = .ok (.aaload, 1) := by decide +kernel
theorem dX11_rowReason_30 : decode cX11_rowReason 30 = .ok (.getfield 452, 3) := by decide +kernel
theorem dX11_rowReason_33 : decode cX11_rowReason 33 = .ok (.if_icmp .le 5, 3) := by decide +kernel
theorem dX11_rowReason_36 : decode cX11_rowReason 36 = .ok (.iconst 4, 1) := by decide +kernel
theorem dX11_rowReason_37 : decode cX11_rowReason 37 = .ok (.ireturn, 1) := by decide +kernel
theorem dX11_rowReason_38 : decode cX11_rowReason 38 = .ok (.iload_n 2, 1) := by decide +kernel
theorem dX11_rowReason_39 : decode cX11_rowReason 39 = .ok (.i2l, 1) := by decide +kernel
theorem dX11_rowReason_40 : decode cX11_rowReason 40 = .ok (.lconst 1, 1) := by decide +kernel
theorem dX11_rowReason_41 : decode cX11_rowReason 41 = .ok (.iload_n 3, 1) := by decide +kernel
theorem dX11_rowReason_42 : decode cX11_rowReason 42 = .ok (.i2l, 1) := by decide +kernel
theorem dX11_rowReason_43 : decode cX11_rowReason 43 = .ok (.invokestatic 119, 3) := by decide +kernel
theorem dX11_rowReason_46 : decode cX11_rowReason 46 = .ok (.ifCond .eq 24, 3) := by decide +kernel
theorem dX11_rowReason_49 : decode cX11_rowReason 49 = .ok (.aload_n 0, 1) := by decide +kernel
theorem dX11_rowReason_50 : decode cX11_rowReason 50 = .ok (.getfield 10, 3) := by decide +kernel
theorem dX11_rowReason_53 : decode cX11_rowReason 53 = .ok (.iload_n 1, 1) := by decide +kernel
theorem dX11_rowReason_54 : decode cX11_rowReason 54 = .ok (.aaload, 1) := by decide +kernel
theorem dX11_rowReason_55 : decode cX11_rowReason 55 = .ok (.iload_n 2, 1) := by decide +kernel
theorem dX11_rowReason_56 : decode cX11_rowReason 56 = .ok (.iload 4, 2) := by decide +kernel
theorem dX11_rowReason_58 : decode cX11_rowReason 58 = .ok (.bipush 26, 2) := by decide +kernel
theorem dX11_rowReason_60 : decode cX11_rowReason 60 = .ok (.invokevirtual 458, 3) := by decide +kernel
theorem dX11_rowReason_63 : decode cX11_rowReason 63 = .ok (.ifCond .eq 7, 3) := by decide +kernel
theorem dX11_rowReason_66 : decode cX11_rowReason 66 = .ok (.iconst 1, 1) := by decide +kernel
theorem dX11_rowReason_67 : decode cX11_rowReason 67 = .ok (.goto 4, 3) := by decide +kernel
theorem dX11_rowReason_70 : decode cX11_rowReason 70 = .ok (.iconst 0, 1) := by decide +kernel
theorem dX11_rowReason_71 : decode cX11_rowReason 71 = .ok (.istore 5, 2) := by decide +kernel
theorem dX11_rowReason_73 : decode cX11_rowReason 73 = .ok (.iload 5, 2) := by decide +kernel
theorem dX11_rowReason_75 : decode cX11_rowReason 75 = .ok (.ifCond .eq 7, 3) := by decide +kernel
theorem dX11_rowReason_78 : decode cX11_rowReason 78 = .ok (.iconst 0, 1) := by decide +kernel
theorem dX11_rowReason_79 : decode cX11_rowReason 79 = .ok (.goto 4, 3) := by decide +kernel
theorem dX11_rowReason_82 : decode cX11_rowReason 82 = .ok (.iconst 5, 1) := by decide +kernel
theorem dX11_rowReason_83 : decode cX11_rowReason 83 = .ok (.ireturn, 1) := by decide +kernel
theorem dX11_threeReason_0 : decode cX11_threeReason 0 = .ok (.iload_n 1, 1) := by decide +kernel
theorem dX11_threeReason_1 : decode cX11_threeReason 1 = .ok (.invokestatic 113, 3) := by decide +kernel
theorem dX11_threeReason_4 : decode cX11_threeReason 4 = .ok (.ifCond .eq 17, 3) := by decide +kernel
theorem dX11_threeReason_7 : decode cX11_threeReason 7 = .ok (.iload_n 2, 1) := by decide +kernel
theorem dX11_threeReason_8 : decode cX11_threeReason 8 = .ok (.invokestatic 113, 3) := by decide +kernel
theorem dX11_threeReason_11 : decode cX11_threeReason 11 = .ok (.ifCond .eq 10, 3) := by decide +kernel
theorem dX11_threeReason_14 : decode cX11_threeReason 14 = .ok (.iload_n 3, 1) := by decide +kernel
theorem dX11_threeReason_15 : decode cX11_threeReason 15 = .ok (.invokestatic 113, 3) := by decide +kernel
theorem dX11_threeReason_18 : decode cX11_threeReason 18 = .ok (.ifCond .ne 5, 3) := by decide +kernel
theorem dX11_threeReason_21 : decode cX11_threeReason 21 = .ok (.iconst 1, 1) := by decide +kernel
theorem dX11_threeReason_22 : decode cX11_threeReason 22 = .ok (.ireturn, 1) := by decide +kernel
theorem dX11_threeReason_23 : decode cX11_threeReason 23 = .ok (.aload_n 0, 1) := by decide +kernel
theorem dX11_threeReason_24 : decode cX11_threeReason 24 = .ok (.getfield 10, 3) := by decide +kernel
theorem dX11_threeReason_27 : decode cX11_threeReason 27 = .ok (.iload_n 1, 1) := by decide +kernel
theorem dX11_threeReason_28 : decode cX11_threeReason 28 = .ok (.aaload, 1) := by decide +kernel
theorem dX11_threeReason_29 : decode cX11_threeReason 29 = .ok (.invokevirtual 150, 3) := by decide +kernel
theorem dX11_threeReason_32 : decode cX11_threeReason 32 = .ok (.ifCond .ne 27, 3) := by decide +kernel
theorem dX11_threeReason_35 : decode cX11_threeReason 35 = .ok (.aload_n 0, 1) := by decide +kernel
theorem dX11_threeReason_36 : decode cX11_threeReason 36 = .ok (.getfield 10, 3) := by decide +kernel
theorem dX11_threeReason_39 : decode cX11_threeReason 39 = .ok (.iload_n 2, 1) := by decide +kernel
theorem dX11_threeReason_40 : decode cX11_threeReason 40 = .ok (.aaload, 1) := by decide +kernel
theorem dX11_threeReason_41 : decode cX11_threeReason 41 = .ok (.invokevirtual 150, 3) := by decide +kernel
theorem dX11_threeReason_44 : decode cX11_threeReason 44 = .ok (.ifCond .ne 15, 3) := by decide +kernel
theorem dX11_threeReason_47 : decode cX11_threeReason 47 = .ok (.aload_n 0, 1) := by decide +kernel
theorem dX11_threeReason_48 : decode cX11_threeReason 48 = .ok (.getfield 10, 3) := by decide +kernel
theorem dX11_threeReason_51 : decode cX11_threeReason 51 = .ok (.iload_n 3, 1) := by decide +kernel
theorem dX11_threeReason_52 : decode cX11_threeReason 52 = .ok (.aaload, 1) := by decide +kernel
theorem dX11_threeReason_53 : decode cX11_threeReason 53 = .ok (.invokevirtual 150, 3) := by decide +kernel
theorem dX11_threeReason_56 : decode cX11_threeReason 56 = .ok (.ifCond .eq 5, 3) := by decide +kernel
theorem dX11_threeReason_59 : decode cX11_threeReason 59 = .ok (.iconst 3, 1) := by decide +kernel
theorem dX11_threeReason_60 : decode cX11_threeReason 60 = .ok (.ireturn, 1) := by decide +kernel
theorem dX11_threeReason_61 : decode cX11_threeReason 61 = .ok (.iload 4, 2) := by decide +kernel
theorem dX11_threeReason_63 : decode cX11_threeReason 63 = .ok (.aload_n 0, 1) := by decide +kernel
theorem dX11_threeReason_64 : decode cX11_threeReason 64 = .ok (.getfield 10, 3) := by decide +kernel
theorem dX11_threeReason_67 : decode cX11_threeReason 67 = .ok (.iload_n 1, 1) := by decide +kernel
theorem dX11_threeReason_68 : decode cX11_threeReason 68 = .ok (.aaload, 1) := by decide +kernel
theorem dX11_threeReason_69 : decode cX11_threeReason 69 = .ok (.getfield 452, 3) := by decide +kernel
theorem dX11_threeReason_72 : decode cX11_threeReason 72 = .ok (.if_icmp .gt 31, 3) := by decide +kernel
theorem dX11_threeReason_75 : decode cX11_threeReason 75 = .ok (.iload 4, 2) := by decide +kernel
theorem dX11_threeReason_77 : decode cX11_threeReason 77 = .ok (.aload_n 0, 1) := by decide +kernel
theorem dX11_threeReason_78 : decode cX11_threeReason 78 = .ok (.getfield 10, 3) := by decide +kernel
theorem dX11_threeReason_81 : decode cX11_threeReason 81 = .ok (.iload_n 2, 1) := by decide +kernel
theorem dX11_threeReason_82 : decode cX11_threeReason 82 = .ok (.aaload, 1) := by decide +kernel
theorem dX11_threeReason_83 : decode cX11_threeReason 83 = .ok (.getfield 452, 3) := by decide +kernel
theorem dX11_threeReason_86 : decode cX11_threeReason 86 = .ok (.if_icmp .gt 17, 3) := by decide +kernel
theorem dX11_threeReason_89 : decode cX11_threeReason 89 = .ok (.iload 4, 2) := by decide +kernel
theorem dX11_threeReason_91 : decode cX11_threeReason 91 = .ok (.aload_n 0, 1) := by decide +kernel
theorem dX11_threeReason_92 : decode cX11_threeReason 92 = .ok (.getfield 10, 3) := by decide +kernel
theorem dX11_threeReason_95 : decode cX11_threeReason 95 = .ok (.iload_n 3, 1) := by decide +kernel
theorem dX11_threeReason_96 : decode cX11_threeReason 96 = .ok (.aaload, 1) := by decide +kernel
theorem dX11_threeReason_97 : decode cX11_threeReason 97 = .ok (.getfield 452, 3) := by decide +kernel
theorem dX11_threeReason_100 : decode cX11_threeReason 100 = .ok (.if_icmp .le 5, 3) := by decide +kernel
theorem dX11_threeReason_103 : decode cX11_threeReason 103 = .ok (.iconst 4, 1) := by decide +kernel
theorem dX11_threeReason_104 : decode cX11_threeReason 104 = .ok (.ireturn, 1) := by decide +kernel
theorem dX11_threeReason_105 : decode cX11_threeReason 105 = .ok (.aload_n 0, 1) := by decide +kernel
theorem dX11_threeReason_106 : decode cX11_threeReason 106 = .ok (.iload_n 1, 1) := by decide +kernel
theorem dX11_threeReason_107 : decode cX11_threeReason 107 = .ok (.iload 4, 2) := by decide +kernel
theorem dX11_threeReason_109 : decode cX11_threeReason 109 = .ok (.bipush 16, 2) := by decide +kernel
theorem dX11_threeReason_111 : decode cX11_threeReason 111 = .ok (.iconst 1, 1) := by decide +kernel
theorem dX11_threeReason_112 : decode cX11_threeReason 112 = .ok (.invokevirtual 289, 3) := by decide +kernel
theorem dX11_threeReason_115 : decode cX11_threeReason 115 = .ok (.istore 5, 2) := by decide +kernel
theorem dX11_threeReason_117 : decode cX11_threeReason 117 = .ok (.iload 5, 2) := by decide +kernel
theorem dX11_threeReason_119 : decode cX11_threeReason 119 = .ok (.ifCond .ne 16, 3) := by decide +kernel
theorem dX11_threeReason_122 : decode cX11_threeReason 122 = .ok (.aload_n 0, 1) := by decide +kernel
theorem dX11_threeReason_123 : decode cX11_threeReason 123 = .ok (.iload_n 2, 1) := by decide +kernel
theorem dX11_threeReason_124 : decode cX11_threeReason 124 = .ok (.iload 4, 2) := by decide +kernel
theorem dX11_threeReason_126 : decode cX11_threeReason 126 = .ok (.bipush 16, 2) := by decide +kernel
theorem dX11_threeReason_128 : decode cX11_threeReason 128 = .ok (.iconst 1, 1) := by decide +kernel
theorem dX11_threeReason_129 : decode cX11_threeReason 129 = .ok (.invokevirtual 289, 3) := by decide +kernel
theorem dX11_threeReason_132 : decode cX11_threeReason 132 = .ok (.goto 5, 3) := by decide +kernel
theorem dX11_threeReason_135 : decode cX11_threeReason 135 = .ok (.iload 5, 2) := by decide +kernel
theorem dX11_threeReason_137 : decode cX11_threeReason 137 = .ok (.ireturn, 1) := by decide +kernel
theorem dX11_hear_0 : decode cX11_hear 0 = .ok (.aload_n 0, 1) := by decide +kernel
theorem dX11_hear_1 : decode cX11_hear 1 = .ok (.getfield 42, 3) := by decide +kernel
theorem dX11_hear_4 : decode cX11_hear 4 = .ok (.aload_n 0, 1) := by decide +kernel
theorem dX11_hear_5 : decode cX11_hear 5 = .ok (.getfield 64, 3) := by decide +kernel
theorem dX11_hear_8 : decode cX11_hear 8 = .ok (.iload_n 1, 1) := by decide +kernel
theorem dX11_hear_9 : decode cX11_hear 9 = .ok (.aaload, 1) := by decide +kernel
theorem dX11_hear_10 : decode cX11_hear 10 = .ok (.aload_n 0, 1) := by decide +kernel
theorem dX11_hear_11 : decode cX11_hear 11 = .ok (.getfield 42, 3) := by decide +kernel
theorem dX11_hear_14 : decode cX11_hear 14 = .ok (.getfield 246, 3) := by decide +kernel
theorem dX11_hear_17 : decode cX11_hear 17 = .ok (.iload_n 1, 1) := by decide +kernel
theorem dX11_hear_18 : decode cX11_hear 18 = .ok (.aaload, 1) := by decide +kernel
theorem dX11_hear_19 : decode cX11_hear 19 = .ok (.aload_n 0, 1) := by decide +kernel
theorem dX11_hear_20 : decode cX11_hear 20 = .ok (.getfield 190, 3) := by decide +kernel
theorem dX11_hear_23 : decode cX11_hear 23 = .ok (.invokevirtual 462, 3) := by decide +kernel
theorem dX11_hear_26 : decode cX11_hear 26 = .ok (.aload_n 0, 1) := by decide +kernel
theorem dX11_hear_27 : decode cX11_hear 27 = .ok (.getfield 64, 3) := by decide +kernel
theorem dX11_hear_30 : decode cX11_hear 30 = .ok (.iload_n 1, 1) := by decide +kernel
theorem dX11_hear_31 : decode cX11_hear 31 = .ok (.aaload, 1) := by decide +kernel
theorem dX11_hear_32 : decode cX11_hear 32 = .ok (.areturn, 1) := by decide +kernel
theorem dX11_mixRows_0 : decode cX11_mixRows 0 = .ok (.aload_n 1, 1) := by decide +kernel
theorem dX11_mixRows_1 : decode cX11_mixRows 1 = .ok (.getfield 262, 3) := by decide +kernel
theorem dX11_mixRows_4 : decode cX11_mixRows 4 = .ok (.iload_n 3, 1) := by decide +kernel
theorem dX11_mixRows_5 : decode cX11_mixRows 5 = .ok (.aload_n 2, 1) := by decide +kernel
theorem dX11_mixRows_6 : decode cX11_mixRows 6 = .ok (.getfield 262, 3) := by decide +kernel
theorem dX11_mixRows_9 : decode cX11_mixRows 9 = .ok (.iadd, 1) := by decide +kernel
theorem dX11_mixRows_10 : decode cX11_mixRows 10 = .ok (.invokestatic 363, 3) := by decide +kernel
theorem dX11_mixRows_13 : decode cX11_mixRows 13 = .ok (.istore 4, 2) := by decide +kernel
theorem dX11_mixRows_15 : decode cX11_mixRows 15 = .ok (.aload_n 0, 1) := by decide +kernel
theorem dX11_mixRows_16 : decode cX11_mixRows 16 = .ok (.getfield 75, 3) := by decide +kernel
theorem dX11_mixRows_19 : decode cX11_mixRows 19 = .ok (.invokevirtual 466, 3) := by decide +kernel
theorem dX11_mixRows_22 : decode cX11_mixRows 22 = .ok (.iconst 0, 1) := by decide +kernel
theorem dX11_mixRows_23 : decode cX11_mixRows 23 = .ok (.istore 5, 2) := by decide +kernel
theorem dX11_mixRows_25 : decode cX11_mixRows 25 = .ok (.iload 5, 2) := by decide +kernel
theorem dX11_mixRows_27 : decode cX11_mixRows 27 = .ok (.iload 4, 2) := by decide +kernel
theorem dX11_mixRows_29 : decode cX11_mixRows 29 = .ok (.if_icmp .ge 37, 3) := by decide +kernel
theorem dX11_mixRows_32 : decode cX11_mixRows 32 = .ok (.aload_n 0, 1) := by decide +kernel
theorem dX11_mixRows_33 : decode cX11_mixRows 33 = .ok (.getfield 75, 3) := by decide +kernel
theorem dX11_mixRows_36 : decode cX11_mixRows 36 = .ok (.aload_n 0, 1) := by decide +kernel
theorem dX11_mixRows_37 : decode cX11_mixRows 37 = .ok (.getfield 49, 3) := by decide +kernel
theorem dX11_mixRows_40 : decode cX11_mixRows 40 = .ok (.aload_n 1, 1) := by decide +kernel
theorem dX11_mixRows_41 : decode cX11_mixRows 41 = .ok (.iload 5, 2) := by decide +kernel
theorem dX11_mixRows_43 : decode cX11_mixRows 43 = .ok (.invokevirtual 310, 3) := by decide +kernel
theorem dX11_mixRows_46 : decode cX11_mixRows 46 = .ok (.aload_n 2, 1) := by decide +kernel
theorem dX11_mixRows_47 : decode cX11_mixRows 47 = .ok (.iload 5, 2) := by decide +kernel
theorem dX11_mixRows_49 : decode cX11_mixRows 49 = .ok (.iload_n 3, 1) := by decide +kernel
theorem dX11_mixRows_50 : decode cX11_mixRows 50 = .ok (.isub, 1) := by decide +kernel
theorem dX11_mixRows_51 : decode cX11_mixRows 51 = .ok (.invokevirtual 310, 3) := by decide +kernel
theorem dX11_mixRows_54 : decode cX11_mixRows 54 = .ok (.invokevirtual 299, 3) := by decide +kernel
theorem dX11_mixRows_57 : decode cX11_mixRows 57 = .ok (.invokevirtual 467, 3) := by decide +kernel
theorem dX11_mixRows_60 : decode cX11_mixRows 60 = .ok (.iinc 5 1, 3) := by decide +kernel
theorem dX11_mixRows_63 : decode cX11_mixRows 63 = .ok (.goto (-38), 3) := by decide +kernel
theorem dX11_mixRows_66 : decode cX11_mixRows 66 = .ok (.aload_n 0, 1) := by decide +kernel
theorem dX11_mixRows_67 : decode cX11_mixRows 67 = .ok (.getfield 75, 3) := by decide +kernel
theorem dX11_mixRows_70 : decode cX11_mixRows 70 = .ok (.areturn, 1) := by decide +kernel
theorem dX11_countCouples_0 : decode cX11_countCouples 0 = .ok (.iconst 0, 1) := by decide +kernel
theorem dX11_countCouples_1 : decode cX11_countCouples 1 = .ok (.istore_n 1, 1) := by decide +kernel
theorem dX11_countCouples_2 : decode cX11_countCouples 2 = .ok (.iload_n 1, 1) := by decide +kernel
theorem dX11_countCouples_3 : decode cX11_countCouples 3 = .ok (.bipush 26, 2) := by decide +kernel
theorem dX11_countCouples_5 : decode cX11_countCouples 5 = .ok (.if_icmp .gt 16, 3) := by decide +kernel
theorem dX11_countCouples_8 : decode cX11_countCouples 8 = .ok (.aload_n 0, 1) := by decide +kernel
theorem dX11_countCouples_9 : decode cX11_countCouples 9 = .ok (.getfield 78, 3) := by decide +kernel
theorem dX11_countCouples_12 : decode cX11_countCouples 12 = .ok (.iload_n 1, 1) := by decide +kernel
theorem dX11_countCouples_13 : decode cX11_countCouples 13 = .ok (.iconst 0, 1) := by decide +kernel
theorem dX11_countCouples_14 : decode cX11_countCouples 14 = .ok (.iastore, 1) := by decide +kernel
theorem dX11_countCouples_15 : decode cX11_countCouples 15 = .ok (.iinc 1 1, 3) := by decide +kernel
theorem dX11_countCouples_18 : decode cX11_countCouples 18 = .ok (.goto (-16), 3) := by decide +kernel
theorem dX11_countCouples_21 : decode cX11_countCouples 21 = .ok (.iconst 1, 1) := by decide +kernel
theorem dX11_countCouples_22 : decode cX11_countCouples 22 = .ok (.istore_n 1, 1) := by decide +kernel
theorem dX11_countCouples_23 : decode cX11_countCouples 23 = .ok (.iload_n 1, 1) := by decide +kernel
theorem dX11_countCouples_24 : decode cX11_countCouples 24 = .ok (.bipush 26, 2) := by decide +kernel
theorem dX11_countCouples_26 : decode cX11_countCouples 26 = .ok (.if_icmp .gt 41, 3) := by decide +kernel
theorem dX11_countCouples_29 : decode cX11_countCouples 29 = .ok (.iconst 1, 1) := by decide +kernel
theorem dX11_countCouples_30 : decode cX11_countCouples 30 = .ok (.istore_n 2, 1) := by decide +kernel
theorem dX11_countCouples_31 : decode cX11_countCouples 31 = .ok (.iload_n 2, 1) := by decide +kernel
theorem dX11_countCouples_32 : decode cX11_countCouples 32 = .ok (.bipush 26, 2) := by decide +kernel
theorem dX11_countCouples_34 : decode cX11_countCouples 34 = .ok (.if_icmp .gt 27, 3) := by decide +kernel
theorem dX11_countCouples_37 : decode cX11_countCouples 37 = .ok (.aload_n 0, 1) := by decide +kernel
theorem dX11_countCouples_38 : decode cX11_countCouples 38 = .ok (.getfield 78, 3) := by decide +kernel
theorem dX11_countCouples_41 : decode cX11_countCouples 41 = .ok (.aload_n 0, 1) := by decide +kernel
theorem dX11_countCouples_42 : decode cX11_countCouples 42 = .ok (.getfield 49, 3) := by decide +kernel
theorem dX11_countCouples_45 : decode cX11_countCouples 45 = .ok (.iload_n 1, 1) := by decide +kernel
theorem dX11_countCouples_46 : decode cX11_countCouples 46 = .ok (.iload_n 2, 1) := by decide +kernel
theorem dX11_countCouples_47 : decode cX11_countCouples 47 = .ok (.invokevirtual 299, 3) := by decide +kernel
theorem dX11_countCouples_50 : decode cX11_countCouples 50 = .ok (.dup2, 1) := by decide +kernel
theorem dX11_countCouples_51 : decode cX11_countCouples 51 = .ok (.iaload, 1) := by decide +kernel
theorem dX11_countCouples_52 : decode cX11_countCouples 52 = .ok (.iconst 1, 1) := by decide +kernel
theorem dX11_countCouples_53 : decode cX11_countCouples 53 = .ok (.iadd, 1) := by decide +kernel
theorem dX11_countCouples_54 : decode cX11_countCouples 54 = .ok (.iastore, 1) := by decide +kernel
theorem dX11_countCouples_55 : decode cX11_countCouples 55 = .ok (.iinc 2 1, 3) := by decide +kernel
theorem dX11_countCouples_58 : decode cX11_countCouples 58 = .ok (.goto (-27), 3) := by decide +kernel
theorem dX11_countCouples_61 : decode cX11_countCouples 61 = .ok (.iinc 1 1, 3) := by decide +kernel
theorem dX11_countCouples_64 : decode cX11_countCouples 64 = .ok (.goto (-41), 3) := by decide +kernel
theorem dX11_countCouples_67 : decode cX11_countCouples 67 = .ok (.return_, 1) := by decide +kernel
theorem dX11_speakers_0 : decode cX11_speakers 0 = .ok (.iconst 0, 1) := by decide +kernel
theorem dX11_speakers_1 : decode cX11_speakers 1 = .ok (.istore_n 2, 1) := by decide +kernel
theorem dX11_speakers_2 : decode cX11_speakers 2 = .ok (.iconst 0, 1) := by decide +kernel
theorem dX11_speakers_3 : decode cX11_speakers 3 = .ok (.istore_n 3, 1) := by decide +kernel
theorem dX11_speakers_4 : decode cX11_speakers 4 = .ok (.iload_n 3, 1) := by decide +kernel
theorem dX11_speakers_5 : decode cX11_speakers 5 = .ok (.aload_n 0, 1) := by decide +kernel
theorem dX11_speakers_6 : decode cX11_speakers 6 = .ok (.getfield 42, 3) := by decide +kernel
theorem dX11_speakers_9 : decode cX11_speakers 9 = .ok (.getfield 193, 3) := by decide +kernel
theorem dX11_speakers_12 : decode cX11_speakers 12 = .ok (.if_icmp .ge 35, 3) := by decide +kernel
theorem dX11_speakers_15 : decode cX11_speakers 15 = .ok (.aload_n 0, 1) := by decide +kernel
theorem dX11_speakers_16 : decode cX11_speakers 16 = .ok (.iload_n 3, 1) := by decide +kernel
theorem dX11_speakers_17 : decode cX11_speakers 17 = .ok (.invokevirtual 258, 3) := by decide +kernel
theorem dX11_speakers_20 : decode cX11_speakers 20 = .ok (.aload_n 0, 1) := by decide +kernel
theorem dX11_speakers_21 : decode cX11_speakers 21 = .ok (.getfield 42, 3) := by decide +kernel
theorem dX11_speakers_24 : decode cX11_speakers 24 = .ok (.getfield 232, 3) := by decide +kernel
theorem dX11_speakers_27 : decode cX11_speakers 27 = .ok (.iload_n 1, 1) := by decide +kernel
theorem dX11_speakers_28 : decode cX11_speakers 28 = .ok (.aaload, 1) := by decide +kernel
theorem dX11_speakers_29 : decode cX11_speakers 29 = .ok (.invokevirtual 326, 3) := by decide +kernel
theorem dX11_speakers_32 : decode cX11_speakers 32 = .ok (.ifCond .le 9, 3) := by decide +kernel
theorem dX11_speakers_35 : decode cX11_speakers 35 = .ok (.iload_n 2, 1) := by decide +kernel
theorem dX11_speakers_36 : decode cX11_speakers 36 = .ok (.iconst 1, 1) := by decide +kernel
theorem dX11_speakers_37 : decode cX11_speakers 37 = .ok (.iload_n 3, 1) := by decide +kernel
theorem dX11_speakers_38 : decode cX11_speakers 38 = .ok (.ishl, 1) := by decide +kernel
theorem dX11_speakers_39 : decode cX11_speakers 39 = .ok (.ior, 1) := by decide +kernel
theorem dX11_speakers_40 : decode cX11_speakers 40 = .ok (.istore_n 2, 1) := by decide +kernel
theorem dX11_speakers_41 : decode cX11_speakers 41 = .ok (.iinc 3 1, 3) := by decide +kernel
theorem dX11_speakers_44 : decode cX11_speakers 44 = .ok (.goto (-40), 3) := by decide +kernel
theorem dX11_speakers_47 : decode cX11_speakers 47 = .ok (.iload_n 2, 1) := by decide +kernel
theorem dX11_speakers_48 : decode cX11_speakers 48 = .ok (.ireturn, 1) := by decide +kernel
theorem dX11_followers_0 : decode cX11_followers 0 = .ok (.aload_n 0, 1) := by decide +kernel
theorem dX11_followers_1 : decode cX11_followers 1 = .ok (.iload_n 1, 1) := by decide +kernel
theorem dX11_followers_2 : decode cX11_followers 2 = .ok (.invokevirtual 258, 3) := by decide +kernel
theorem dX11_followers_5 : decode cX11_followers 5 = .ok (.astore_n 3, 1) := by decide +kernel
theorem dX11_followers_6 : decode cX11_followers 6 = .ok (.iconst 0, 1) := by decide +kernel
theorem dX11_followers_7 : decode cX11_followers 7 = .ok (.istore 4, 2) := by decide +kernel
theorem dX11_followers_9 : decode cX11_followers 9 = .ok (.iconst 0, 1) := by decide +kernel
theorem dX11_followers_10 : decode cX11_followers 10 = .ok (.istore 5, 2) := by decide +kernel
theorem dX11_followers_12 : decode cX11_followers 12 = .ok (.iload 5, 2) := by decide +kernel
theorem dX11_followers_14 : decode cX11_followers 14 = .ok (.aload_n 0, 1) := by decide +kernel
theorem dX11_followers_15 : decode cX11_followers 15 = .ok (.getfield 42, 3) := by decide +kernel
theorem dX11_followers_18 : decode cX11_followers 18 = .ok (.getfield 193, 3) := by decide +kernel
theorem dX11_followers_21 : decode cX11_followers 21 = .ok (.if_icmp .ge 38, 3) := by decide +kernel
theorem dX11_followers_24 : decode cX11_followers 24 = .ok (.iload 5, 2) := by decide +kernel
theorem dX11_followers_26 : decode cX11_followers 26 = .ok (.iload_n 1, 1) := by decide +kernel
theorem dX11_followers_27 : decode cX11_followers 27 = .ok (.if_icmp .eq 26, 3) := by decide +kernel
theorem dX11_followers_30 : decode cX11_followers 30 = .ok (.aload_n 3, 1) := by decide +kernel
theorem dX11_followers_31 : decode cX11_followers 31 = .ok (.aload_n 0, 1) := by decide +kernel
theorem dX11_followers_32 : decode cX11_followers 32 = .ok (.iload 5, 2) := by decide +kernel
theorem dX11_followers_34 : decode cX11_followers 34 = .ok (.invokevirtual 258, 3) := by decide +kernel
theorem dX11_followers_37 : decode cX11_followers 37 = .ok (.invokevirtual 335, 3) := by decide +kernel
theorem dX11_followers_40 : decode cX11_followers 40 = .ok (.iload_n 2, 1) := by decide +kernel
theorem dX11_followers_41 : decode cX11_followers 41 = .ok (.if_icmp .lt 12, 3) := by decide +kernel
theorem dX11_followers_44 : decode cX11_followers 44 = .ok (.iload 4, 2) := by decide +kernel
theorem dX11_followers_46 : decode cX11_followers 46 = .ok (.iconst 1, 1) := by decide +kernel
theorem dX11_followers_47 : decode cX11_followers 47 = .ok (.iload 5, 2) := by decide +kernel
theorem dX11_followers_49 : decode cX11_followers 49 = .ok (.ishl, 1) := by decide +kernel
theorem dX11_followers_50 : decode cX11_followers 50 = .ok (.ior, 1) := by decide +kernel
theorem dX11_followers_51 : decode cX11_followers 51 = .ok (.istore 4, 2) := by decide +kernel
theorem dX11_followers_53 : decode cX11_followers 53 = .ok (.iinc 5 1, 3) := by decide +kernel
theorem dX11_followers_56 : decode cX11_followers 56 = .ok (.goto (-44), 3) := by decide +kernel
theorem dX11_followers_59 : decode cX11_followers 59 = .ok (.iload 4, 2) := by decide +kernel
theorem dX11_followers_61 : decode cX11_followers 61 = .ok (.ireturn, 1) := by decide +kernel
theorem dX11_leastWitness_0 : decode cX11_leastWitness 0 = .ok (.iconst 0, 1) := by decide +kernel
theorem dX11_leastWitness_1 : decode cX11_leastWitness 1 = .ok (.istore_n 2, 1) := by decide +kernel
theorem dX11_leastWitness_2 : decode cX11_leastWitness 2 = .ok (.iload_n 2, 1) := by decide +kernel
theorem dX11_leastWitness_3 : decode cX11_leastWitness 3 = .ok (.aload_n 0, 1) := by decide +kernel
theorem dX11_leastWitness_4 : decode cX11_leastWitness 4 = .ok (.getfield 42, 3) := by decide +kernel
theorem dX11_leastWitness_7 : decode cX11_leastWitness 7 = .ok (.getfield 193, 3) := by decide +kernel
theorem dX11_leastWitness_10 : decode cX11_leastWitness 10 = .ok (.if_icmp .ge 27, 3) := by decide +kernel
theorem dX11_leastWitness_13 : decode cX11_leastWitness 13 = .ok (.aload_n 0, 1) := by decide +kernel
theorem dX11_leastWitness_14 : decode cX11_leastWitness 14 = .ok (.getfield 78, 3) := by decide +kernel
theorem dX11_leastWitness_17 : decode cX11_leastWitness 17 = .ok (.iload_n 2, 1) := by decide +kernel
theorem dX11_leastWitness_18 : decode cX11_leastWitness 18 = .ok (.aload_n 0, 1) := by decide +kernel
theorem dX11_leastWitness_19 : decode cX11_leastWitness 19 = .ok (.getfield 42, 3) := by decide +kernel
theorem dX11_leastWitness_22 : decode cX11_leastWitness 22 = .ok (.aload_n 0, 1) := by decide +kernel
theorem dX11_leastWitness_23 : decode cX11_leastWitness 23 = .ok (.iload_n 2, 1) := by decide +kernel
theorem dX11_leastWitness_24 : decode cX11_leastWitness 24 = .ok (.invokevirtual 258, 3) := by decide +kernel
theorem dX11_leastWitness_27 : decode cX11_leastWitness 27 = .ok (.invokevirtual 322, 3) := by decide +kernel
theorem dX11_leastWitness_30 : decode cX11_leastWitness 30 = .ok (.iastore, 1) := by decide +kernel
theorem dX11_leastWitness_31 : decode cX11_leastWitness 31 = .ok (.iinc 2 1, 3) := by decide +kernel
theorem dX11_leastWitness_34 : decode cX11_leastWitness 34 = .ok (.goto (-32), 3) := by decide +kernel
theorem dX11_leastWitness_37 : decode cX11_leastWitness 37 = .ok (.iconst (-1), 1) := by decide +kernel
theorem dX11_leastWitness_38 : decode cX11_leastWitness 38 = .ok (.istore_n 2, 1) := by decide +kernel
theorem dX11_leastWitness_39 : decode cX11_leastWitness 39 = .ok (.iconst 0, 1) := by decide +kernel
theorem dX11_leastWitness_40 : decode cX11_leastWitness 40 = .ok (.istore_n 3, 1) := by decide +kernel
theorem dX11_leastWitness_41 : decode cX11_leastWitness 41 = .ok (.iload_n 3, 1) := by decide +kernel
theorem dX11_leastWitness_42 : decode cX11_leastWitness 42 = .ok (.aload_n 0, 1) := by decide +kernel
theorem dX11_leastWitness_43 : decode cX11_leastWitness 43 = .ok (.getfield 42, 3) := by decide +kernel
theorem dX11_leastWitness_46 : decode cX11_leastWitness 46 = .ok (.invokevirtual 455, 3) := by decide +kernel
theorem dX11_leastWitness_49 : decode cX11_leastWitness 49 = .ok (.if_icmp .gt 48, 3) := by decide +kernel
theorem dX11_leastWitness_52 : decode cX11_leastWitness 52 = .ok (.iload_n 2, 1) := by decide +kernel
theorem dX11_leastWitness_53 : decode cX11_leastWitness 53 = .ok (.iconst (-1), 1) := by decide +kernel
theorem dX11_leastWitness_54 : decode cX11_leastWitness 54 = .ok (.if_icmp .eq 14, 3) := by decide +kernel
theorem dX11_leastWitness_57 : decode cX11_leastWitness 57 = .ok (.iload_n 3, 1) := by decide +kernel
theorem dX11_leastWitness_58 : decode cX11_leastWitness 58 = .ok (.invokestatic 224, 3) := by decide +kernel
theorem dX11_leastWitness_61 : decode cX11_leastWitness 61 = .ok (.iload_n 2, 1) := by decide +kernel
theorem dX11_leastWitness_62 : decode cX11_leastWitness 62 = .ok (.invokestatic 224, 3) := by decide +kernel
theorem dX11_leastWitness_65 : decode cX11_leastWitness 65 = .ok (.if_icmp .ge 7, 3) := by decide +kernel
theorem dX11_leastWitness_68 : decode cX11_leastWitness 68 = .ok (.iconst 1, 1) := by decide +kernel
theorem dX11_leastWitness_69 : decode cX11_leastWitness 69 = .ok (.goto 4, 3) := by decide +kernel
theorem dX11_leastWitness_72 : decode cX11_leastWitness 72 = .ok (.iconst 0, 1) := by decide +kernel
theorem dX11_leastWitness_73 : decode cX11_leastWitness 73 = .ok (.istore 4, 2) := by decide +kernel
theorem dX11_leastWitness_75 : decode cX11_leastWitness 75 = .ok (.iload 4, 2) := by decide +kernel
theorem dX11_leastWitness_77 : decode cX11_leastWitness 77 = .ok (.ifCond .eq 14, 3) := by decide +kernel
theorem dX11_leastWitness_80 : decode cX11_leastWitness 80 = .ok (.aload_n 0, 1) := by decide +kernel
theorem dX11_leastWitness_81 : decode cX11_leastWitness 81 = .ok (.iload_n 3, 1) := by decide +kernel
theorem dX11_leastWitness_82 : decode cX11_leastWitness 82 = .ok (.invokevirtual 469, 3) := by decide +kernel
theorem dX11_leastWitness_85 : decode cX11_leastWitness 85 = .ok (.iload_n 1, 1) := by decide +kernel
theorem dX11_leastWitness_86 : decode cX11_leastWitness 86 = .ok (.if_icmp .ne 5, 3) := by decide +kernel
theorem dX11_leastWitness_89 : decode cX11_leastWitness 89 = .ok (.iload_n 3, 1) := by decide +kernel
theorem dX11_leastWitness_90 : decode cX11_leastWitness 90 = .ok (.istore_n 2, 1) := by decide +kernel
theorem dX11_leastWitness_91 : decode cX11_leastWitness 91 = .ok (.iinc 3 1, 3) := by decide +kernel
theorem dX11_leastWitness_94 : decode cX11_leastWitness 94 = .ok (.goto (-53), 3) := by decide +kernel
theorem dX11_leastWitness_97 : decode cX11_leastWitness 97 = .ok (.iload_n 2, 1) := by decide +kernel
theorem dX11_leastWitness_98 : decode cX11_leastWitness 98 = .ok (.ireturn, 1) := by decide +kernel
theorem dX11_fitsCounted_0 : decode cX11_fitsCounted 0 = .ok (.aload_n 0, 1) := by decide +kernel
theorem dX11_fitsCounted_1 : decode cX11_fitsCounted 1 = .ok (.getfield 42, 3) := by decide +kernel
theorem dX11_fitsCounted_4 : decode cX11_fitsCounted 4 = .ok (.invokevirtual 316, 3) := by decide +kernel
theorem dX11_fitsCounted_7 : decode cX11_fitsCounted 7 = .ok (.istore_n 2, 1) := by decide +kernel
theorem dX11_fitsCounted_8 : decode cX11_fitsCounted 8 = .ok (.iconst 0, 1) := by decide +kernel
theorem dX11_fitsCounted_9 : decode cX11_fitsCounted 9 = .ok (.istore_n 3, 1) := by decide +kernel
theorem dX11_fitsCounted_10 : decode cX11_fitsCounted 10 = .ok (.iload_n 3, 1) := by decide +kernel
theorem dX11_fitsCounted_11 : decode cX11_fitsCounted 11 = .ok (.aload_n 0, 1) := by decide +kernel
theorem dX11_fitsCounted_12 : decode cX11_fitsCounted 12 = .ok (.getfield 42, 3) := by decide +kernel
theorem dX11_fitsCounted_15 : decode cX11_fitsCounted 15 = .ok (.getfield 193, 3) := by decide +kernel
theorem dX11_fitsCounted_18 : decode cX11_fitsCounted 18 = .ok (.if_icmp .ge 26, 3) := by decide +kernel
theorem dX11_fitsCounted_21 : decode cX11_fitsCounted 21 = .ok (.iload_n 1, 1) := by decide +kernel
theorem dX11_fitsCounted_22 : decode cX11_fitsCounted 22 = .ok (.iload_n 3, 1) := by decide +kernel
theorem dX11_fitsCounted_23 : decode cX11_fitsCounted 23 = .ok (.invokestatic 319, 3) := by decide +kernel
theorem dX11_fitsCounted_26 : decode cX11_fitsCounted 26 = .ok (.ifCond .eq 12, 3) := by decide +kernel
theorem dX11_fitsCounted_29 : decode cX11_fitsCounted 29 = .ok (.iload_n 2, 1) := by decide +kernel
theorem dX11_fitsCounted_30 : decode cX11_fitsCounted 30 = .ok (.aload_n 0, 1) := by decide +kernel
theorem dX11_fitsCounted_31 : decode cX11_fitsCounted 31 = .ok (.getfield 78, 3) := by decide +kernel
theorem dX11_fitsCounted_34 : decode cX11_fitsCounted 34 = .ok (.iload_n 3, 1) := by decide +kernel
theorem dX11_fitsCounted_35 : decode cX11_fitsCounted 35 = .ok (.iaload, 1) := by decide +kernel
theorem dX11_fitsCounted_36 : decode cX11_fitsCounted 36 = .ok (.iand, 1) := by decide +kernel
theorem dX11_fitsCounted_37 : decode cX11_fitsCounted 37 = .ok (.istore_n 2, 1) := by decide +kernel
theorem dX11_fitsCounted_38 : decode cX11_fitsCounted 38 = .ok (.iinc 3 1, 3) := by decide +kernel
theorem dX11_fitsCounted_41 : decode cX11_fitsCounted 41 = .ok (.goto (-31), 3) := by decide +kernel
theorem dX11_fitsCounted_44 : decode cX11_fitsCounted 44 = .ok (.iload_n 2, 1) := by decide +kernel
theorem dX11_fitsCounted_45 : decode cX11_fitsCounted 45 = .ok (.ireturn, 1) := by decide +kernel
theorem dX11_bestFilling_0 : decode cX11_bestFilling 0 = .ok (.aload_n 1, 1) := by decide +kernel
theorem dX11_bestFilling_1 : decode cX11_bestFilling 1 = .ok (.iload_n 3, 1) := by decide +kernel
theorem dX11_bestFilling_2 : decode cX11_bestFilling 2 = .ok (.invokevirtual 472, 3) := by decide +kernel
theorem dX11_bestFilling_5 : decode cX11_bestFilling 5 = .ok (.istore 4, 2) := by decide +kernel
theorem dX11_bestFilling_7 : decode cX11_bestFilling 7 = .ok (.iconst (-1), 1) := by decide +kernel
theorem dX11_bestFilling_8 : decode cX11_bestFilling 8 = .ok (.istore 5, 2) := by decide +kernel
theorem dX11_bestFilling_10 : decode cX11_bestFilling 10 = .ok (.ldc_w 409, 3) := by decide +kernel
theorem dX11_bestFilling_13 : decode cX11_bestFilling 13 = .ok (.istore 6, 2) := by decide +kernel
theorem dX11_bestFilling_15 : decode cX11_bestFilling 15 = .ok (.iconst 0, 1) := by decide +kernel
theorem dX11_bestFilling_16 : decode cX11_bestFilling 16 = .ok (.istore 7, 2) := by decide +kernel
theorem dX11_bestFilling_18 : decode cX11_bestFilling 18 = .ok (.iload 7, 2) := by decide +kernel
theorem dX11_bestFilling_20 : decode cX11_bestFilling 20 = .ok (.aload_n 2, 1) := by decide +kernel
theorem dX11_bestFilling_21 : decode cX11_bestFilling 21 = .ok (.getfield 262, 3) := by decide +kernel
theorem dX11_bestFilling_24 : decode cX11_bestFilling 24 = .ok (.if_icmp .ge 88, 3) := by decide +kernel
theorem dX11_bestFilling_27 : decode cX11_bestFilling 27 = .ok (.aload_n 1, 1) := by decide +kernel
theorem dX11_bestFilling_28 : decode cX11_bestFilling 28 = .ok (.getfield 475, 3) := by decide +kernel
theorem dX11_bestFilling_31 : decode cX11_bestFilling 31 = .ok (.aload_n 2, 1) := by decide +kernel
theorem dX11_bestFilling_32 : decode cX11_bestFilling 32 = .ok (.getfield 262, 3) := by decide +kernel
theorem dX11_bestFilling_35 : decode cX11_bestFilling 35 = .ok (.iload 7, 2) := by decide +kernel
theorem dX11_bestFilling_37 : decode cX11_bestFilling 37 = .ok (.isub, 1) := by decide +kernel
theorem dX11_bestFilling_38 : decode cX11_bestFilling 38 = .ok (.invokestatic 199, 3) := by decide +kernel
theorem dX11_bestFilling_41 : decode cX11_bestFilling 41 = .ok (.iload 4, 2) := by decide +kernel
theorem dX11_bestFilling_43 : decode cX11_bestFilling 43 = .ok (.isub, 1) := by decide +kernel
theorem dX11_bestFilling_44 : decode cX11_bestFilling 44 = .ok (.istore 8, 2) := by decide +kernel
theorem dX11_bestFilling_46 : decode cX11_bestFilling 46 = .ok (.iload 8, 2) := by decide +kernel
theorem dX11_bestFilling_48 : decode cX11_bestFilling 48 = .ok (.ifCond .le 58, 3) := by decide +kernel
theorem dX11_bestFilling_51 : decode cX11_bestFilling 51 = .ok (.aload_n 0, 1) := by decide +kernel
theorem dX11_bestFilling_52 : decode cX11_bestFilling 52 = .ok (.getfield 71, 3) := by decide +kernel
theorem dX11_bestFilling_55 : decode cX11_bestFilling 55 = .ok (.aload_n 2, 1) := by decide +kernel
theorem dX11_bestFilling_56 : decode cX11_bestFilling 56 = .ok (.getfield 476, 3) := by decide +kernel
theorem dX11_bestFilling_59 : decode cX11_bestFilling 59 = .ok (.aload_n 2, 1) := by decide +kernel
theorem dX11_bestFilling_60 : decode cX11_bestFilling 60 = .ok (.getfield 478, 3) := by decide +kernel
theorem dX11_bestFilling_63 : decode cX11_bestFilling 63 = .ok (.iload 7, 2) := by decide +kernel
theorem dX11_bestFilling_65 : decode cX11_bestFilling 65 = .ok (.iadd, 1) := by decide +kernel
theorem dX11_bestFilling_66 : decode cX11_bestFilling 66 = .ok (.aload_n 1, 1) := by decide +kernel
theorem dX11_bestFilling_67 : decode cX11_bestFilling 67 = .ok (.iload 4, 2) := by decide +kernel
theorem dX11_bestFilling_69 : decode cX11_bestFilling 69 = .ok (.invokevirtual 481, 3) := by decide +kernel
theorem dX11_bestFilling_72 : decode cX11_bestFilling 72 = .ok (.iadd, 1) := by decide +kernel
theorem dX11_bestFilling_73 : decode cX11_bestFilling 73 = .ok (.iload 8, 2) := by decide +kernel
theorem dX11_bestFilling_75 : decode cX11_bestFilling 75 = .ok (.invokevirtual 484, 3) := by decide +kernel
theorem dX11_bestFilling_78 : decode cX11_bestFilling 78 = .ok (.aload_n 0, 1) := by decide +kernel
theorem dX11_bestFilling_79 : decode cX11_bestFilling 79 = .ok (.getfield 42, 3) := by decide +kernel
theorem dX11_bestFilling_82 : decode cX11_bestFilling 82 = .ok (.aload_n 0, 1) := by decide +kernel
theorem dX11_bestFilling_83 : decode cX11_bestFilling 83 = .ok (.getfield 71, 3) := by decide +kernel
theorem dX11_bestFilling_86 : decode cX11_bestFilling 86 = .ok (.invokevirtual 488, 3) := by decide +kernel
theorem dX11_bestFilling_89 : decode cX11_bestFilling 89 = .ok (.istore 9, 2) := by decide +kernel
theorem dX11_bestFilling_91 : decode cX11_bestFilling 91 = .ok (.iload 9, 2) := by decide +kernel
theorem dX11_bestFilling_93 : decode cX11_bestFilling 93 = .ok (.iload 6, 2) := by decide +kernel
theorem dX11_bestFilling_95 : decode cX11_bestFilling 95 = .ok (.if_icmp .ge 11, 3) := by decide +kernel
theorem dX11_bestFilling_98 : decode cX11_bestFilling 98 = .ok (.iload 9, 2) := by decide +kernel
theorem dX11_bestFilling_100 : decode cX11_bestFilling 100 = .ok (.istore 6, 2) := by decide +kernel
theorem dX11_bestFilling_102 : decode cX11_bestFilling 102 = .ok (.iload 7, 2) := by decide +kernel
theorem dX11_bestFilling_104 : decode cX11_bestFilling 104 = .ok (.istore 5, 2) := by decide +kernel
theorem dX11_bestFilling_106 : decode cX11_bestFilling 106 = .ok (.iinc 7 1, 3) := by decide +kernel
theorem dX11_bestFilling_109 : decode cX11_bestFilling 109 = .ok (.goto (-91), 3) := by decide +kernel
theorem dX11_bestFilling_112 : decode cX11_bestFilling 112 = .ok (.iload 5, 2) := by decide +kernel
theorem dX11_bestFilling_114 : decode cX11_bestFilling 114 = .ok (.ireturn, 1) := by decide +kernel
theorem dX11_leastPiecing_0 : decode cX11_leastPiecing 0 = .ok (.aload_n 1, 1) := by decide +kernel
theorem dX11_leastPiecing_1 : decode cX11_leastPiecing 1 = .ok (.getfield 262, 3) := by decide +kernel
theorem dX11_leastPiecing_4 : decode cX11_leastPiecing 4 = .ok (.bipush 16, 2) := by decide +kernel
theorem dX11_leastPiecing_6 : decode cX11_leastPiecing 6 = .ok (.invokestatic 199, 3) := by decide +kernel
theorem dX11_leastPiecing_9 : decode cX11_leastPiecing 9 = .ok (.istore_n 3, 1) := by decide +kernel
theorem dX11_leastPiecing_10 : decode cX11_leastPiecing 10 = .ok (.iconst 1, 1) := by decide +kernel
theorem dX11_leastPiecing_11 : decode cX11_leastPiecing 11 = .ok (.istore 4, 2) := by decide +kernel
theorem dX11_leastPiecing_13 : decode cX11_leastPiecing 13 = .ok (.iload 4, 2) := by decide +kernel
theorem dX11_leastPiecing_15 : decode cX11_leastPiecing 15 = .ok (.iload_n 3, 1) := by decide +kernel
theorem dX11_leastPiecing_16 : decode cX11_leastPiecing 16 = .ok (.if_icmp .gt 19, 3) := by decide +kernel
theorem dX11_leastPiecing_19 : decode cX11_leastPiecing 19 = .ok (.aload_n 0, 1) := by decide +kernel
theorem dX11_leastPiecing_20 : decode cX11_leastPiecing 20 = .ok (.getfield 78, 3) := by decide +kernel
theorem dX11_leastPiecing_23 : decode cX11_leastPiecing 23 = .ok (.iload 4, 2) := by decide +kernel
theorem dX11_leastPiecing_25 : decode cX11_leastPiecing 25 = .ok (.ldc_w 409, 3) := by decide +kernel
theorem dX11_leastPiecing_28 : decode cX11_leastPiecing 28 = .ok (.iastore, 1) := by decide +kernel
theorem dX11_leastPiecing_29 : decode cX11_leastPiecing 29 = .ok (.iinc 4 1, 3) := by decide +kernel
theorem dX11_leastPiecing_32 : decode cX11_leastPiecing 32 = .ok (.goto (-19), 3) := by decide +kernel
theorem dX11_leastPiecing_35 : decode cX11_leastPiecing 35 = .ok (.aload_n 0, 1) := by decide +kernel
theorem dX11_leastPiecing_36 : decode cX11_leastPiecing 36 = .ok (.getfield 78, 3) := by decide +kernel
theorem dX11_leastPiecing_39 : decode cX11_leastPiecing 39 = .ok (.iconst 0, 1) := by decide +kernel
theorem dX11_leastPiecing_40 : decode cX11_leastPiecing 40 = .ok (.iconst 0, 1) := by decide +kernel
theorem dX11_leastPiecing_41 : decode cX11_leastPiecing 41 = .ok (.iastore, 1) := by decide +kernel
theorem dX11_leastPiecing_42 : decode cX11_leastPiecing 42 = .ok (.iconst 0, 1) := by decide +kernel
theorem dX11_leastPiecing_43 : decode cX11_leastPiecing 43 = .ok (.istore 4, 2) := by decide +kernel
theorem dX11_leastPiecing_45 : decode cX11_leastPiecing 45 = .ok (.iload 4, 2) := by decide +kernel
theorem dX11_leastPiecing_47 : decode cX11_leastPiecing 47 = .ok (.iload_n 3, 1) := by decide +kernel
theorem dX11_leastPiecing_48 : decode cX11_leastPiecing 48 = .ok (.if_icmp .ge 106, 3) := by decide +kernel
theorem dX11_leastPiecing_51 : decode cX11_leastPiecing 51 = .ok (.aload_n 0, 1) := by decide +kernel
theorem dX11_leastPiecing_52 : decode cX11_leastPiecing 52 = .ok (.getfield 78, 3) := by decide +kernel
theorem dX11_leastPiecing_55 : decode cX11_leastPiecing 55 = .ok (.iload 4, 2) := by decide +kernel
theorem dX11_leastPiecing_57 : decode cX11_leastPiecing 57 = .ok (.iaload, 1) := by decide +kernel
theorem dX11_leastPiecing_58 : decode cX11_leastPiecing 58 = .ok (.ldc_w 409, 3) := by decide +kernel
theorem dX11_leastPiecing_61 : decode cX11_leastPiecing 61 = .ok (.if_icmp .ne 7, 3) := by decide +kernel
theorem dX11_leastPiecing_64 : decode cX11_leastPiecing 64 = .ok (.iconst 0, 1) := by decide +kernel
theorem dX11_leastPiecing_65 : decode cX11_leastPiecing 65 = .ok (.goto 10, 3) := by decide +kernel
theorem dX11_leastPiecing_68 : decode cX11_leastPiecing 68 = .ok (.aload_n 0, 1) := by decide +kernel
theorem dX11_leastPiecing_69 : decode cX11_leastPiecing 69 = .ok (.aload_n 1, 1) := by decide +kernel
theorem dX11_leastPiecing_70 : decode cX11_leastPiecing 70 = .ok (.iload 4, 2) := by decide +kernel
theorem dX11_leastPiecing_72 : decode cX11_leastPiecing 72 = .ok (.invokevirtual 491, 3) := by decide +kernel
theorem dX11_leastPiecing_75 : decode cX11_leastPiecing 75 = .ok (.istore 5, 2) := by decide +kernel
theorem dX11_leastPiecing_77 : decode cX11_leastPiecing 77 = .ok (.iload_n 2, 1) := by decide +kernel
theorem dX11_leastPiecing_78 : decode cX11_leastPiecing 78 = .ok (.ifCond .eq 12, 3) := by decide +kernel
theorem dX11_leastPiecing_81 : decode cX11_leastPiecing 81 = .ok (.aload_n 1, 1) := by decide +kernel
theorem dX11_leastPiecing_82 : decode cX11_leastPiecing 82 = .ok (.iload 4, 2) := by decide +kernel
theorem dX11_leastPiecing_84 : decode cX11_leastPiecing 84 = .ok (.invokestatic 494, 3) := by decide +kernel
theorem dX11_leastPiecing_87 : decode cX11_leastPiecing 87 = .ok (.goto 4, 3) := by decide +kernel
theorem dX11_leastPiecing_90 : decode cX11_leastPiecing 90 = .ok (.iconst 1, 1) := by decide +kernel
theorem dX11_leastPiecing_91 : decode cX11_leastPiecing 91 = .ok (.istore 6, 2) := by decide +kernel
theorem dX11_leastPiecing_93 : decode cX11_leastPiecing 93 = .ok (.iload 4, 2) := by decide +kernel
theorem dX11_leastPiecing_95 : decode cX11_leastPiecing 95 = .ok (.iconst 1, 1) := by decide +kernel
theorem dX11_leastPiecing_96 : decode cX11_leastPiecing 96 = .ok (.iadd, 1) := by decide +kernel
theorem dX11_leastPiecing_97 : decode cX11_leastPiecing 97 = .ok (.istore 7, 2) := by decide +kernel
theorem dX11_leastPiecing_99 : decode cX11_leastPiecing 99 = .ok (.iload 7, 2) := by decide +kernel
theorem dX11_leastPiecing_101 : decode cX11_leastPiecing 101 = .ok (.iload 4, 2) := by decide +kernel
theorem dX11_leastPiecing_103 : decode cX11_leastPiecing 103 = .ok (.iload 5, 2) := by decide +kernel
theorem dX11_leastPiecing_105 : decode cX11_leastPiecing 105 = .ok (.iadd, 1) := by decide +kernel
theorem dX11_leastPiecing_106 : decode cX11_leastPiecing 106 = .ok (.if_icmp .gt 42, 3) := by decide +kernel
theorem dX11_leastPiecing_109 : decode cX11_leastPiecing 109 = .ok (.iload 7, 2) := by decide +kernel
theorem dX11_leastPiecing_111 : decode cX11_leastPiecing 111 = .ok (.iload_n 3, 1) := by decide +kernel
theorem dX11_leastPiecing_112 : decode cX11_leastPiecing 112 = .ok (.if_icmp .gt 36, 3) := by decide +kernel
theorem dX11_leastPiecing_115 : decode cX11_leastPiecing 115 = .ok (.aload_n 0, 1) := by decide +kernel
theorem dX11_leastPiecing_116 : decode cX11_leastPiecing 116 = .ok (.getfield 78, 3) := by decide +kernel
theorem dX11_leastPiecing_119 : decode cX11_leastPiecing 119 = .ok (.iload 7, 2) := by decide +kernel
theorem dX11_leastPiecing_121 : decode cX11_leastPiecing 121 = .ok (.aload_n 0, 1) := by decide +kernel
theorem dX11_leastPiecing_122 : decode cX11_leastPiecing 122 = .ok (.getfield 78, 3) := by decide +kernel
theorem dX11_leastPiecing_125 : decode cX11_leastPiecing 125 = .ok (.iload 7, 2) := by decide +kernel
theorem dX11_leastPiecing_127 : decode cX11_leastPiecing 127 = .ok (.iaload, 1) := by decide +kernel
theorem dX11_leastPiecing_128 : decode cX11_leastPiecing 128 = .ok (.aload_n 0, 1) := by decide +kernel
theorem dX11_leastPiecing_129 : decode cX11_leastPiecing 129 = .ok (.getfield 78, 3) := by decide +kernel
theorem dX11_leastPiecing_132 : decode cX11_leastPiecing 132 = .ok (.iload 4, 2) := by decide +kernel
theorem dX11_leastPiecing_134 : decode cX11_leastPiecing 134 = .ok (.iaload, 1) := by decide +kernel
theorem dX11_leastPiecing_135 : decode cX11_leastPiecing 135 = .ok (.iload 6, 2) := by decide +kernel
theorem dX11_leastPiecing_137 : decode cX11_leastPiecing 137 = .ok (.iadd, 1) := by decide +kernel
theorem dX11_leastPiecing_138 : decode cX11_leastPiecing 138 = .ok (.invokestatic 199, 3) := by decide +kernel
theorem dX11_leastPiecing_141 : decode cX11_leastPiecing 141 = .ok (.iastore, 1) := by decide +kernel
theorem dX11_leastPiecing_142 : decode cX11_leastPiecing 142 = .ok (.iinc 7 1, 3) := by decide +kernel
theorem dX11_leastPiecing_145 : decode cX11_leastPiecing 145 = .ok (.goto (-46), 3) := by decide +kernel
theorem dX11_leastPiecing_148 : decode cX11_leastPiecing 148 = .ok (.iinc 4 1, 3) := by decide +kernel
theorem dX11_leastPiecing_151 : decode cX11_leastPiecing 151 = .ok (.goto (-106), 3) := by decide +kernel
theorem dX11_leastPiecing_154 : decode cX11_leastPiecing 154 = .ok (.aload_n 0, 1) := by decide +kernel
theorem dX11_leastPiecing_155 : decode cX11_leastPiecing 155 = .ok (.getfield 78, 3) := by decide +kernel
theorem dX11_leastPiecing_158 : decode cX11_leastPiecing 158 = .ok (.iload_n 3, 1) := by decide +kernel
theorem dX11_leastPiecing_159 : decode cX11_leastPiecing 159 = .ok (.iaload, 1) := by decide +kernel
theorem dX11_leastPiecing_160 : decode cX11_leastPiecing 160 = .ok (.ireturn, 1) := by decide +kernel
theorem dX11_longestPiece_0 : decode cX11_longestPiece 0 = .ok (.iconst 0, 1) := by decide +kernel
theorem dX11_longestPiece_1 : decode cX11_longestPiece 1 = .ok (.istore_n 3, 1) := by decide +kernel
theorem dX11_longestPiece_2 : decode cX11_longestPiece 2 = .ok (.iconst 0, 1) := by decide +kernel
theorem dX11_longestPiece_3 : decode cX11_longestPiece 3 = .ok (.istore 4, 2) := by decide +kernel
theorem dX11_longestPiece_5 : decode cX11_longestPiece 5 = .ok (.iload 4, 2) := by decide +kernel
theorem dX11_longestPiece_7 : decode cX11_longestPiece 7 = .ok (.aload_n 0, 1) := by decide +kernel
theorem dX11_longestPiece_8 : decode cX11_longestPiece 8 = .ok (.getfield 42, 3) := by decide +kernel
theorem dX11_longestPiece_11 : decode cX11_longestPiece 11 = .ok (.getfield 193, 3) := by decide +kernel
theorem dX11_longestPiece_14 : decode cX11_longestPiece 14 = .ok (.if_icmp .ge 25, 3) := by decide +kernel
theorem dX11_longestPiece_17 : decode cX11_longestPiece 17 = .ok (.iload_n 3, 1) := by decide +kernel
theorem dX11_longestPiece_18 : decode cX11_longestPiece 18 = .ok (.aload_n 1, 1) := by decide +kernel
theorem dX11_longestPiece_19 : decode cX11_longestPiece 19 = .ok (.aload_n 0, 1) := by decide +kernel
theorem dX11_longestPiece_20 : decode cX11_longestPiece 20 = .ok (.iload 4, 2) := by decide +kernel
theorem dX11_longestPiece_22 : decode cX11_longestPiece 22 = .ok (.invokevirtual 258, 3) := by decide +kernel
theorem dX11_longestPiece_25 : decode cX11_longestPiece 25 = .ok (.iload_n 2, 1) := by decide +kernel
theorem dX11_longestPiece_26 : decode cX11_longestPiece 26 = .ok (.invokevirtual 360, 3) := by decide +kernel
theorem dX11_longestPiece_29 : decode cX11_longestPiece 29 = .ok (.invokestatic 363, 3) := by decide +kernel
theorem dX11_longestPiece_32 : decode cX11_longestPiece 32 = .ok (.istore_n 3, 1) := by decide +kernel
theorem dX11_longestPiece_33 : decode cX11_longestPiece 33 = .ok (.iinc 4 1, 3) := by decide +kernel
theorem dX11_longestPiece_36 : decode cX11_longestPiece 36 = .ok (.goto (-31), 3) := by decide +kernel
theorem dX11_longestPiece_39 : decode cX11_longestPiece 39 = .ok (.iload_n 3, 1) := by decide +kernel
theorem dX11_longestPiece_40 : decode cX11_longestPiece 40 = .ok (.ireturn, 1) := by decide +kernel
theorem dX11_joinsHeard_0 : decode cX11_joinsHeard 0 = .ok (.iload_n 1, 1) := by decide +kernel
theorem dX11_joinsHeard_1 : decode cX11_joinsHeard 1 = .ok (.ifCond .le 28, 3) := by decide +kernel
theorem dX11_joinsHeard_4 : decode cX11_joinsHeard 4 = .ok (.aload_n 0, 1) := by decide +kernel
theorem dX11_joinsHeard_5 : decode cX11_joinsHeard 5 = .ok (.iload_n 1, 1) := by decide +kernel
theorem dX11_joinsHeard_6 : decode cX11_joinsHeard 6 = .ok (.iconst 1, 1) := by decide +kernel
theorem dX11_joinsHeard_7 : decode cX11_joinsHeard 7 = .ok (.isub, 1) := by decide +kernel
theorem dX11_joinsHeard_8 : decode cX11_joinsHeard 8 = .ok (.invokevirtual 310, 3) := by decide +kernel
theorem dX11_joinsHeard_11 : decode cX11_joinsHeard 11 = .ok (.invokestatic 497, 3) := by decide +kernel
theorem dX11_joinsHeard_14 : decode cX11_joinsHeard 14 = .ok (.aload_n 0, 1) := by decide +kernel
theorem dX11_joinsHeard_15 : decode cX11_joinsHeard 15 = .ok (.iload_n 1, 1) := by decide +kernel
theorem dX11_joinsHeard_16 : decode cX11_joinsHeard 16 = .ok (.invokevirtual 310, 3) := by decide +kernel
theorem dX11_joinsHeard_19 : decode cX11_joinsHeard 19 = .ok (.invokestatic 497, 3) := by decide +kernel
theorem dX11_joinsHeard_22 : decode cX11_joinsHeard 22 = .ok (.if_icmp .ne 7, 3) := by decide +kernel
theorem dX11_joinsHeard_25 : decode cX11_joinsHeard 25 = .ok (.iconst 1, 1) := by decide +kernel
theorem dX11_joinsHeard_26 : decode cX11_joinsHeard 26 = .ok (.goto 4, 3) := by decide +kernel
theorem dX11_joinsHeard_29 : decode cX11_joinsHeard 29 = .ok (.iconst 0, 1) := by decide +kernel
theorem dX11_joinsHeard_30 : decode cX11_joinsHeard 30 = .ok (.ireturn, 1) := by decide +kernel
theorem dX11_isVowel_0 : decode cX11_isVowel 0 = .ok (.iload_n 0, 1) := by decide +kernel
theorem dX11_isVowel_1 : decode cX11_isVowel 1 = .ok (.iconst 1, 1) := by decide +kernel
theorem dX11_isVowel_2 : decode cX11_isVowel 2 = .ok (.if_icmp .eq 26, 3) := by decide +kernel
theorem dX11_isVowel_5 : decode cX11_isVowel 5 = .ok (.iload_n 0, 1) := by decide +kernel
theorem dX11_isVowel_6 : decode cX11_isVowel 6 = .ok (.iconst 5, 1) := by decide +kernel
theorem dX11_isVowel_7 : decode cX11_isVowel 7 = .ok (.if_icmp .eq 21, 3) := by decide +kernel
theorem dX11_isVowel_10 : decode cX11_isVowel 10 = .ok (.iload_n 0, 1) := by decide +kernel
theorem dX11_isVowel_11 : decode cX11_isVowel 11 = .ok (.bipush 9, 2) := by decide +kernel
theorem dX11_isVowel_13 : decode cX11_isVowel 13 = .ok (.if_icmp .eq 15, 3) := by decide +kernel
theorem dX11_isVowel_16 : decode cX11_isVowel 16 = .ok (.iload_n 0, 1) := by decide +kernel
theorem dX11_isVowel_17 : decode cX11_isVowel 17 = .ok (.bipush 15, 2) := by decide +kernel
theorem dX11_isVowel_19 : decode cX11_isVowel 19 = .ok (.if_icmp .eq 9, 3) := by decide +kernel
theorem dX11_isVowel_22 : decode cX11_isVowel 22 = .ok (.iload_n 0, 1) := by decide +kernel
theorem dX11_isVowel_23 : decode cX11_isVowel 23 = .ok (.bipush 21, 2) := by decide +kernel
theorem dX11_isVowel_25 : decode cX11_isVowel 25 = .ok (.if_icmp .ne 7, 3) := by decide +kernel
theorem dX11_isVowel_28 : decode cX11_isVowel 28 = .ok (.iconst 1, 1) := by decide +kernel
theorem dX11_isVowel_29 : decode cX11_isVowel 29 = .ok (.goto 4, 3) := by decide +kernel
theorem dX11_isVowel_32 : decode cX11_isVowel 32 = .ok (.iconst 0, 1) := by decide +kernel
theorem dX11_isVowel_33 : decode cX11_isVowel 33 = .ok (.ireturn, 1) := by decide +kernel
theorem dX11_thirdOf_0 : decode cX11_thirdOf 0 = .ok (.lload_n 0, 1) := by decide +kernel
theorem dX11_thirdOf_1 : decode cX11_thirdOf 1 = .ok (.lload_n 2, 1) := by decide +kernel
theorem dX11_thirdOf_2 : decode cX11_thirdOf 2 = .ok (.ladd, 1) := by decide +kernel
theorem dX11_thirdOf_3 : decode cX11_thirdOf 3 = .ok (.ldc2_w 500, 3) := by decide +kernel
theorem dX11_thirdOf_6 : decode cX11_thirdOf 6 = .ok (.lsub, 1) := by decide +kernel
theorem dX11_thirdOf_7 : decode cX11_thirdOf 7 = .ok (.ldc2_w 453, 3) := by decide +kernel
theorem dX11_thirdOf_10 : decode cX11_thirdOf 10 = .ok (.lrem, 1) := by decide +kernel
theorem dX11_thirdOf_11 : decode cX11_thirdOf 11 = .ok (.lconst 1, 1) := by decide +kernel
theorem dX11_thirdOf_12 : decode cX11_thirdOf 12 = .ok (.ladd, 1) := by decide +kernel
theorem dX11_thirdOf_13 : decode cX11_thirdOf 13 = .ok (.lreturn, 1) := by decide +kernel
theorem dX11_secondOf_0 : decode cX11_secondOf 0 = .ok (.lload_n 2, 1) := by decide +kernel
theorem dX11_secondOf_1 : decode cX11_secondOf 1 = .ok (.lload_n 0, 1) := by decide +kernel
theorem dX11_secondOf_2 : decode cX11_secondOf 2 = .ok (.lsub, 1) := by decide +kernel
theorem dX11_secondOf_3 : decode cX11_secondOf 3 = .ok (.ldc2_w 453, 3) := by decide +kernel
theorem dX11_secondOf_6 : decode cX11_secondOf 6 = .ok (.ladd, 1) := by decide +kernel
theorem dX11_secondOf_7 : decode cX11_secondOf 7 = .ok (.ldc2_w 453, 3) := by decide +kernel
theorem dX11_secondOf_10 : decode cX11_secondOf 10 = .ok (.lrem, 1) := by decide +kernel
theorem dX11_secondOf_11 : decode cX11_secondOf 11 = .ok (.lconst 1, 1) := by decide +kernel
theorem dX11_secondOf_12 : decode cX11_secondOf 12 = .ok (.ladd, 1) := by decide +kernel
theorem dX11_secondOf_13 : decode cX11_secondOf 13 = .ok (.lreturn, 1) := by decide +kernel
theorem dX11_isThird_0 : decode cX11_isThird 0 = .ok (.aload_n 0, 1) := by decide +kernel
theorem dX11_isThird_1 : decode cX11_isThird 1 = .ok (.getfield 262, 3) := by decide +kernel
theorem dX11_isThird_4 : decode cX11_isThird 4 = .ok (.ifCond .le 29, 3) := by decide +kernel
theorem dX11_isThird_7 : decode cX11_isThird 7 = .ok (.aload_n 0, 1) := by decide +kernel
theorem dX11_isThird_8 : decode cX11_isThird 8 = .ok (.getfield 262, 3) := by decide +kernel
theorem dX11_isThird_11 : decode cX11_isThird 11 = .ok (.aload_n 1, 1) := by decide +kernel
theorem dX11_isThird_12 : decode cX11_isThird 12 = .ok (.getfield 262, 3) := by decide +kernel
theorem dX11_isThird_15 : decode cX11_isThird 15 = .ok (.if_icmp .ne 18, 3) := by decide +kernel
theorem dX11_isThird_18 : decode cX11_isThird 18 = .ok (.aload_n 0, 1) := by decide +kernel
theorem dX11_isThird_19 : decode cX11_isThird 19 = .ok (.getfield 262, 3) := by decide +kernel
theorem dX11_isThird_22 : decode cX11_isThird 22 = .ok (.aload_n 2, 1) := by decide +kernel
theorem dX11_isThird_23 : decode cX11_isThird 23 = .ok (.getfield 262, 3) := by decide +kernel
theorem dX11_isThird_26 : decode cX11_isThird 26 = .ok (.if_icmp .ne 7, 3) := by decide +kernel
theorem dX11_isThird_29 : decode cX11_isThird 29 = .ok (.iconst 1, 1) := by decide +kernel
theorem dX11_isThird_30 : decode cX11_isThird 30 = .ok (.goto 4, 3) := by decide +kernel
theorem dX11_isThird_33 : decode cX11_isThird 33 = .ok (.iconst 0, 1) := by decide +kernel
theorem dX11_isThird_34 : decode cX11_isThird 34 = .ok (.istore_n 3, 1) := by decide +kernel
theorem dX11_isThird_35 : decode cX11_isThird 35 = .ok (.iconst 0, 1) := by decide +kernel
theorem dX11_isThird_36 : decode cX11_isThird 36 = .ok (.istore 4, 2) := by decide +kernel
theorem dX11_isThird_38 : decode cX11_isThird 38 = .ok (.iload_n 3, 1) := by decide +kernel
theorem dX11_isThird_39 : decode cX11_isThird 39 = .ok (.ifCond .eq 52, 3) := by decide +kernel
theorem dX11_isThird_42 : decode cX11_isThird 42 = .ok (.iload 4, 2) := by decide +kernel
theorem dX11_isThird_44 : decode cX11_isThird 44 = .ok (.aload_n 0, 1) := by decide +kernel
theorem dX11_isThird_45 : decode cX11_isThird 45 = .ok (.getfield 262, 3) := by decide +kernel
theorem dX11_isThird_48 : decode cX11_isThird 48 = .ok (.if_icmp .ge 43, 3) := by decide +kernel
theorem dX11_isThird_51 : decode cX11_isThird 51 = .ok (.aload_n 0, 1) := by decide +kernel
theorem dX11_isThird_52 : decode cX11_isThird 52 = .ok (.iload 4, 2) := by decide +kernel
theorem dX11_isThird_54 : decode cX11_isThird 54 = .ok (.invokevirtual 310, 3) := by decide +kernel
theorem dX11_isThird_57 : decode cX11_isThird 57 = .ok (.i2l, 1) := by decide +kernel
theorem dX11_isThird_58 : decode cX11_isThird 58 = .ok (.aload_n 1, 1) := by decide +kernel
theorem dX11_isThird_59 : decode cX11_isThird 59 = .ok (.iload 4, 2) := by decide +kernel
theorem dX11_isThird_61 : decode cX11_isThird 61 = .ok (.invokevirtual 310, 3) := by decide +kernel
theorem dX11_isThird_64 : decode cX11_isThird 64 = .ok (.i2l, 1) := by decide +kernel
theorem dX11_isThird_65 : decode cX11_isThird 65 = .ok (.invokestatic 432, 3) := by decide +kernel
theorem dX11_isThird_68 : decode cX11_isThird 68 = .ok (.aload_n 2, 1) := by decide +kernel
theorem dX11_isThird_69 : decode cX11_isThird 69 = .ok (.iload 4, 2) := by decide +kernel
theorem dX11_isThird_71 : decode cX11_isThird 71 = .ok (.invokevirtual 310, 3) := by decide +kernel
theorem dX11_isThird_74 : decode cX11_isThird 74 = .ok (.i2l, 1) := by decide +kernel
theorem dX11_isThird_75 : decode cX11_isThird 75 = .ok (.lcmp, 1) := by decide +kernel
theorem dX11_isThird_76 : decode cX11_isThird 76 = .ok (.ifCond .ne 7, 3) := by decide +kernel
theorem dX11_isThird_79 : decode cX11_isThird 79 = .ok (.iconst 1, 1) := by decide +kernel
theorem dX11_isThird_80 : decode cX11_isThird 80 = .ok (.goto 4, 3) := by decide +kernel
theorem dX11_isThird_83 : decode cX11_isThird 83 = .ok (.iconst 0, 1) := by decide +kernel
theorem dX11_isThird_84 : decode cX11_isThird 84 = .ok (.istore_n 3, 1) := by decide +kernel
theorem dX11_isThird_85 : decode cX11_isThird 85 = .ok (.iinc 4 1, 3) := by decide +kernel
theorem dX11_isThird_88 : decode cX11_isThird 88 = .ok (.goto (-50), 3) := by decide +kernel
theorem dX11_isThird_91 : decode cX11_isThird 91 = .ok (.iload_n 3, 1) := by decide +kernel
theorem dX11_isThird_92 : decode cX11_isThird 92 = .ok (.ireturn, 1) := by decide +kernel
theorem dX12_init_0 : decode cX12_init 0 = .ok (.aload_n 0, 1) := by decide +kernel
theorem dX12_init_1 : decode cX12_init 1 = .ok (.invokespecial 1, 3) := by decide +kernel
theorem dX12_init_4 : decode cX12_init 4 = .ok (.aload_n 0, 1) := by decide +kernel
theorem dX12_init_5 : decode cX12_init 5 = .ok (.lconst 1, 1) := by decide +kernel
theorem dX12_init_6 : decode cX12_init 6 = .ok (.putfield 7, 3) := by decide +kernel
theorem dX12_init_9 : decode cX12_init 9 = .ok (.aload_n 0, 1) := by decide +kernel
theorem dX12_init_10 : decode cX12_init 10 = .ok (.iconst 4, 1) := by decide +kernel
theorem dX12_init_11 : decode cX12_init 11 = .ok (.newarray .int, 2) := by decide +kernel
theorem dX12_init_13 : decode cX12_init 13 = .ok (.putfield 13, 3) := by decide +kernel
theorem dX12_init_16 : decode cX12_init 16 = .ok (.aload_n 0, 1) := by decide +kernel
theorem dX12_init_17 : decode cX12_init 17 = .ok (.iconst 4, 1) := by decide +kernel
theorem dX12_init_18 : decode cX12_init 18 = .ok (.newarray .int, 2) := by decide +kernel
theorem dX12_init_20 : decode cX12_init 20 = .ok (.putfield 17, 3) := by decide +kernel
theorem dX12_init_23 : decode cX12_init 23 = .ok (.aload_n 0, 1) := by decide +kernel
theorem dX12_init_24 : decode cX12_init 24 = .ok (.sipush 240, 3) := by decide +kernel
theorem dX12_init_27 : decode cX12_init 27 = .ok (.newarray .long, 2) := by decide +kernel
theorem dX12_init_29 : decode cX12_init 29 = .ok (.putfield 20, 3) := by decide +kernel
theorem dX12_init_32 : decode cX12_init 32 = .ok (.aload_n 0, 1) := by decide +kernel
theorem dX12_init_33 : decode cX12_init 33 = .ok (.sipush 900, 3) := by decide +kernel
theorem dX12_init_36 : decode cX12_init 36 = .ok (.newarray .byte, 2) := by decide +kernel
theorem dX12_init_38 : decode cX12_init 38 = .ok (.putfield 24, 3) := by decide +kernel
theorem dX12_init_41 : decode cX12_init 41 = .ok (.aload_n 0, 1) := by decide +kernel
theorem dX12_init_42 : decode cX12_init 42 = .ok (.iconst (-1), 1) := by decide +kernel
theorem dX12_init_43 : decode cX12_init 43 = .ok (.putfield 28, 3) := by decide +kernel
theorem dX12_init_46 : decode cX12_init 46 = .ok (.aload_n 0, 1) := by decide +kernel
theorem dX12_init_47 : decode cX12_init 47 = .ok (.iconst (-1), 1) := by decide +kernel
theorem dX12_init_48 : decode cX12_init 48 = .ok (.putfield 32, 3) := by decide +kernel
theorem dX12_init_51 : decode cX12_init 51 = .ok (.aload_n 0, 1) := by decide +kernel
theorem dX12_init_52 : decode cX12_init 52 = .ok (.sipush 1850, 3) := by decide +kernel
theorem dX12_init_55 : decode cX12_init 55 = .ok (.newarray .int, 2) := by decide +kernel
theorem dX12_init_57 : decode cX12_init 57 = .ok (.putfield 35, 3) := by decide +kernel
theorem dX12_init_60 : decode cX12_init 60 = .ok (.aload_n 0, 1) := by decide +kernel
theorem dX12_init_61 : decode cX12_init 61 = .ok (.bipush 16, 2) := by decide +kernel
theorem dX12_init_63 : decode cX12_init 63 = .ok (.newarray .long, 2) := by decide +kernel
theorem dX12_init_65 : decode cX12_init 65 = .ok (.putfield 38, 3) := by decide +kernel
theorem dX12_init_68 : decode cX12_init 68 = .ok (.aload_n 0, 1) := by decide +kernel
theorem dX12_init_69 : decode cX12_init 69 = .ok (.bipush 80, 2) := by decide +kernel
theorem dX12_init_71 : decode cX12_init 71 = .ok (.newarray .int, 2) := by decide +kernel
theorem dX12_init_73 : decode cX12_init 73 = .ok (.putfield 41, 3) := by decide +kernel
theorem dX12_init_76 : decode cX12_init 76 = .ok (.aload_n 0, 1) := by decide +kernel
theorem dX12_init_77 : decode cX12_init 77 = .ok (.bipush 80, 2) := by decide +kernel
theorem dX12_init_79 : decode cX12_init 79 = .ok (.newarray .int, 2) := by decide +kernel
theorem dX12_init_81 : decode cX12_init 81 = .ok (.putfield 44, 3) := by decide +kernel
theorem dX12_init_84 : decode cX12_init 84 = .ok (.aload_n 0, 1) := by decide +kernel
theorem dX12_init_85 : decode cX12_init 85 = .ok (.bipush 80, 2) := by decide +kernel
theorem dX12_init_87 : decode cX12_init 87 = .ok (.newarray .int, 2) := by decide +kernel
theorem dX12_init_89 : decode cX12_init 89 = .ok (.putfield 47, 3) := by decide +kernel
theorem dX12_init_92 : decode cX12_init 92 = .ok (.aload_n 0, 1) := by decide +kernel
theorem dX12_init_93 : decode cX12_init 93 = .ok (.sipush 289, 3) := by decide +kernel
theorem dX12_init_96 : decode cX12_init 96 = .ok (.newarray .int, 2) := by decide +kernel
theorem dX12_init_98 : decode cX12_init 98 = .ok (.putfield 50, 3) := by decide +kernel
theorem dX12_init_101 : decode cX12_init 101 = .ok (.aload_n 0, 1) := by decide +kernel
theorem dX12_init_102 : decode cX12_init 102 = .ok (.bipush 8, 2) := by decide +kernel
theorem dX12_init_104 : decode cX12_init 104 = .ok (.newarray .int, 2) := by decide +kernel
theorem dX12_init_106 : decode cX12_init 106 = .ok (.putfield 53, 3) := by decide +kernel
theorem dX12_init_109 : decode cX12_init 109 = .ok (.aload_n 0, 1) := by decide +kernel
theorem dX12_init_110 : decode cX12_init 110 = .ok (.bipush 8, 2) := by decide +kernel
theorem dX12_init_112 : decode cX12_init 112 = .ok (.newarray .int, 2) := by decide +kernel
theorem dX12_init_114 : decode cX12_init 114 = .ok (.putfield 56, 3) := by decide +kernel
theorem dX12_init_117 : decode cX12_init 117 = .ok (.aload_n 0, 1) := by decide +kernel
theorem dX12_init_118 : decode cX12_init 118 = .ok (.bipush 8, 2) := by decide +kernel
theorem dX12_init_120 : decode cX12_init 120 = .ok (.newarray .int, 2) := by decide +kernel
theorem dX12_init_122 : decode cX12_init 122 = .ok (.putfield 59, 3) := by decide +kernel
theorem dX12_init_125 : decode cX12_init 125 = .ok (.aload_n 0, 1) := by decide +kernel
theorem dX12_init_126 : decode cX12_init 126 = .ok (.bipush 6, 2) := by decide +kernel
theorem dX12_init_128 : decode cX12_init 128 = .ok (.newarray .int, 2) := by decide +kernel
theorem dX12_init_130 : decode cX12_init 130 = .ok (.putfield 62, 3) := by decide +kernel
theorem dX12_init_133 : decode cX12_init 133 = .ok (.aload_n 0, 1) := by decide +kernel
theorem dX12_init_134 : decode cX12_init 134 = .ok (.bipush 80, 2) := by decide +kernel
theorem dX12_init_136 : decode cX12_init 136 = .ok (.newarray .int, 2) := by decide +kernel
theorem dX12_init_138 : decode cX12_init 138 = .ok (.putfield 65, 3) := by decide +kernel
theorem dX12_init_141 : decode cX12_init 141 = .ok (.aload_n 0, 1) := by decide +kernel
theorem dX12_init_142 : decode cX12_init 142 = .ok (.bipush 80, 2) := by decide +kernel
theorem dX12_init_144 : decode cX12_init 144 = .ok (.newarray .int, 2) := by decide +kernel
theorem dX12_init_146 : decode cX12_init 146 = .ok (.putfield 68, 3) := by decide +kernel
theorem dX12_init_149 : decode cX12_init 149 = .ok (.aload_n 0, 1) := by decide +kernel
theorem dX12_init_150 : decode cX12_init 150 = .ok (.sipush 256, 3) := by decide +kernel
theorem dX12_init_153 : decode cX12_init 153 = .ok (.newarray .int, 2) := by decide +kernel
theorem dX12_init_155 : decode cX12_init 155 = .ok (.putfield 71, 3) := by decide +kernel
theorem dX12_init_158 : decode cX12_init 158 = .ok (.aload_n 0, 1) := by decide +kernel
theorem dX12_init_159 : decode cX12_init 159 = .ok (.bipush 8, 2) := by decide +kernel
theorem dX12_init_161 : decode cX12_init 161 = .ok (.newarray .int, 2) := by decide +kernel
theorem dX12_init_163 : decode cX12_init 163 = .ok (.putfield 74, 3) := by decide +kernel
theorem dX12_init_166 : decode cX12_init 166 = .ok (.aload_n 0, 1) := by decide +kernel
theorem dX12_init_167 : decode cX12_init 167 = .ok (.bipush 17, 2) := by decide +kernel
theorem dX12_init_169 : decode cX12_init 169 = .ok (.newarray .int, 2) := by decide +kernel
theorem dX12_init_171 : decode cX12_init 171 = .ok (.putfield 77, 3) := by decide +kernel
theorem dX12_init_174 : decode cX12_init 174 = .ok (.aload_n 0, 1) := by decide +kernel
theorem dX12_init_175 : decode cX12_init 175 = .ok (.bipush 17, 2) := by decide +kernel
theorem dX12_init_177 : decode cX12_init 177 = .ok (.newarray .int, 2) := by decide +kernel
theorem dX12_init_179 : decode cX12_init 179 = .ok (.putfield 80, 3) := by decide +kernel
theorem dX12_init_182 : decode cX12_init 182 = .ok (.aload_n 0, 1) := by decide +kernel
theorem dX12_init_183 : decode cX12_init 183 = .ok (.bipush 8, 2) := by decide +kernel
theorem dX12_init_185 : decode cX12_init 185 = .ok (.newarray .int, 2) := by decide +kernel
theorem dX12_init_187 : decode cX12_init 187 = .ok (.putfield 83, 3) := by decide +kernel
theorem dX12_init_190 : decode cX12_init 190 = .ok (.aload_n 0, 1) := by decide +kernel
theorem dX12_init_191 : decode cX12_init 191 = .ok (.bipush 8, 2) := by decide +kernel
theorem dX12_init_193 : decode cX12_init 193 = .ok (.newarray .int, 2) := by decide +kernel
theorem dX12_init_195 : decode cX12_init 195 = .ok (.putfield 86, 3) := by decide +kernel
theorem dX12_init_198 : decode cX12_init 198 = .ok (.iconst 0, 1) := by decide +kernel
theorem dX12_init_199 : decode cX12_init 199 = .ok (.istore_n 1, 1) := by decide +kernel
theorem dX12_init_200 : decode cX12_init 200 = .ok (.iload_n 1, 1) := by decide +kernel
theorem dX12_init_201 : decode cX12_init 201 = .ok (.iconst 4, 1) := by decide +kernel
theorem dX12_init_202 : decode cX12_init 202 = .ok (.if_icmp .ge 16, 3) := by decide +kernel
theorem dX12_init_205 : decode cX12_init 205 = .ok (.aload_n 0, 1) := by decide +kernel
theorem dX12_init_206 : decode cX12_init 206 = .ok (.getfield 17, 3) := by decide +kernel
theorem dX12_init_209 : decode cX12_init 209 = .ok (.iload_n 1, 1) := by decide +kernel
