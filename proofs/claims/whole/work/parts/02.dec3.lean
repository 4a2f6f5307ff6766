theorem dX12_init_210 : decode cX12_init 210 = .ok (.iconst (-1), 1) := by decide +kernel
theorem dX12_init_211 : decode cX12_init 211 = .ok (.iastore, 1) := by decide +kernel
theorem dX12_init_212 : decode cX12_init 212 = .ok (.iinc 1 1, 3) := by decide +kernel
theorem dX12_init_215 : decode cX12_init 215 = .ok (.goto (-15), 3) := by decide +kernel
theorem dX12_init_218 : decode cX12_init 218 = .ok (.return_, 1) := by decide +kernel
theorem dX12_status_0 : decode cX12_status 0 = .ok (.aload_n 0, 1) := by decide +kernel
theorem dX12_status_1 : decode cX12_status 1 = .ok (.iconst 0, 1) := by decide +kernel
theorem dX12_status_2 : decode cX12_status 2 = .ok (.putfield 89, 3) := by decide +kernel
theorem dX12_status_5 : decode cX12_status 5 = .ok (.aload_n 0, 1) := by decide +kernel
theorem dX12_status_6 : decode cX12_status 6 = .ok (.getfield 92, 3) := by decide +kernel
theorem dX12_status_9 : decode cX12_status 9 = .ok (.ireturn, 1) := by decide +kernel
theorem dX12_top_0 : decode cX12_top 0 = .ok (.aload_n 0, 1) := by decide +kernel
theorem dX12_top_1 : decode cX12_top 1 = .ok (.iconst 0, 1) := by decide +kernel
theorem dX12_top_2 : decode cX12_top 2 = .ok (.putfield 89, 3) := by decide +kernel
theorem dX12_top_5 : decode cX12_top 5 = .ok (.aload_n 0, 1) := by decide +kernel
theorem dX12_top_6 : decode cX12_top 6 = .ok (.getfield 95, 3) := by decide +kernel
theorem dX12_top_9 : decode cX12_top 9 = .ok (.lreturn, 1) := by decide +kernel
theorem dX12_bottom_0 : decode cX12_bottom 0 = .ok (.aload_n 0, 1) := by decide +kernel
theorem dX12_bottom_1 : decode cX12_bottom 1 = .ok (.iconst 0, 1) := by decide +kernel
theorem dX12_bottom_2 : decode cX12_bottom 2 = .ok (.putfield 89, 3) := by decide +kernel
theorem dX12_bottom_5 : decode cX12_bottom 5 = .ok (.aload_n 0, 1) := by decide +kernel
theorem dX12_bottom_6 : decode cX12_bottom 6 = .ok (.getfield 7, 3) := by decide +kernel
theorem dX12_bottom_9 : decode cX12_bottom 9 = .ok (.lreturn, 1) := by decide +kernel
theorem dX12_refuse_0 : decode cX12_refuse 0 = .ok (.aload_n 0, 1) := by decide +kernel
theorem dX12_refuse_1 : decode cX12_refuse 1 = .ok (.iload_n 1, 1) := by decide +kernel
theorem dX12_refuse_2 : decode cX12_refuse 2 = .ok (.putfield 92, 3) := by decide +kernel
theorem dX12_refuse_5 : decode cX12_refuse 5 = .ok (.iconst (-1), 1) := by decide +kernel
theorem dX12_refuse_6 : decode cX12_refuse 6 = .ok (.ireturn, 1) := by decide +kernel
theorem dX12_no_0 : decode cX12_no 0 = .ok (.aload_n 0, 1) := by decide +kernel
theorem dX12_no_1 : decode cX12_no 1 = .ok (.iload_n 1, 1) := by decide +kernel
theorem dX12_no_2 : decode cX12_no 2 = .ok (.putfield 92, 3) := by decide +kernel
theorem dX12_no_5 : decode cX12_no 5 = .ok (.iconst 0, 1) := by decide +kernel
theorem dX12_no_6 : decode cX12_no 6 = .ok (.ireturn, 1) := by decide +kernel
theorem dX12_isIn_0 : decode cX12_isIn 0 = .ok (.lload_n 0, 1) := by decide +kernel
theorem dX12_isIn_1 : decode cX12_isIn 1 = .ok (.lload_n 2, 1) := by decide +kernel
theorem dX12_isIn_2 : decode cX12_isIn 2 = .ok (.lcmp, 1) := by decide +kernel
theorem dX12_isIn_3 : decode cX12_isIn 3 = .ok (.ifCond .lt 14, 3) := by decide +kernel
theorem dX12_isIn_6 : decode cX12_isIn 6 = .ok (.lload_n 0, 1) := by decide +kernel
theorem dX12_isIn_7 : decode cX12_isIn 7 = .ok (.lload 4, 2) := by decide +kernel
theorem dX12_isIn_9 : decode cX12_isIn 9 = .ok (.lcmp, 1) := by decide +kernel
theorem dX12_isIn_10 : decode cX12_isIn 10 = .ok (.ifCond .gt 7, 3) := by decide +kernel
theorem dX12_isIn_13 : decode cX12_isIn 13 = .ok (.iconst 1, 1) := by decide +kernel
theorem dX12_isIn_14 : decode cX12_isIn 14 = .ok (.goto 4, 3) := by decide +kernel
theorem dX12_isIn_17 : decode cX12_isIn 17 = .ok (.iconst 0, 1) := by decide +kernel
theorem dX12_isIn_18 : decode cX12_isIn 18 = .ok (.ireturn, 1) := by decide +kernel
theorem dX12_fraction_0 : decode cX12_fraction 0 = .ok (.lload_n 1, 1) := by decide +kernel
theorem dX12_fraction_1 : decode cX12_fraction 1 = .ok (.invokestatic 98, 3) := by decide +kernel
theorem dX12_fraction_4 : decode cX12_fraction 4 = .ok (.lstore 5, 2) := by decide +kernel
theorem dX12_fraction_6 : decode cX12_fraction 6 = .ok (.lload_n 3, 1) := by decide +kernel
theorem dX12_fraction_7 : decode cX12_fraction 7 = .ok (.lstore 7, 2) := by decide +kernel
theorem dX12_fraction_9 : decode cX12_fraction 9 = .ok (.lload 7, 2) := by decide +kernel
theorem dX12_fraction_11 : decode cX12_fraction 11 = .ok (.lconst 0, 1) := by decide +kernel
theorem dX12_fraction_12 : decode cX12_fraction 12 = .ok (.lcmp, 1) := by decide +kernel
theorem dX12_fraction_13 : decode cX12_fraction 13 = .ok (.ifCond .eq 21, 3) := by decide +kernel
theorem dX12_fraction_16 : decode cX12_fraction 16 = .ok (.lload 5, 2) := by decide +kernel
theorem dX12_fraction_18 : decode cX12_fraction 18 = .ok (.lload 7, 2) := by decide +kernel
theorem dX12_fraction_20 : decode cX12_fraction 20 = .ok (.lrem, 1) := by decide +kernel
theorem dX12_fraction_21 : decode cX12_fraction 21 = .ok (.lstore 9, 2) := by decide +kernel
theorem dX12_fraction_23 : decode cX12_fraction 23 = .ok (.lload 7, 2) := by decide +kernel
theorem dX12_fraction_25 : decode cX12_fraction 25 = .ok (.lstore 5, 2) := by decide +kernel
theorem dX12_fraction_27 : decode cX12_fraction 27 = .ok (.lload 9, 2) := by decide +kernel
theorem dX12_fraction_29 : decode cX12_fraction 29 = .ok (.lstore 7, 2) := by decide +kernel
theorem dX12_fraction_31 : decode cX12_fraction 31 = .ok (.goto (-22), 3) := by decide +kernel
theorem dX12_fraction_34 : decode cX12_fraction 34 = .ok (.aload_n 0, 1) := by decide +kernel
theorem dX12_fraction_35 : decode cX12_fraction 35 = .ok (.lload_n 1, 1) := by decide +kernel
theorem dX12_fraction_36 : decode cX12_fraction 36 = .ok (.lload 5, 2) := by decide +kernel
theorem dX12_fraction_38 : decode cX12_fraction 38 = .ok (.ldiv, 1) := by decide +kernel
theorem dX12_fraction_39 : decode cX12_fraction 39 = .ok (.putfield 95, 3) := by decide +kernel
theorem dX12_fraction_42 : decode cX12_fraction 42 = .ok (.aload_n 0, 1) := by decide +kernel
theorem dX12_fraction_43 : decode cX12_fraction 43 = .ok (.lload_n 3, 1) := by decide +kernel
theorem dX12_fraction_44 : decode cX12_fraction 44 = .ok (.lload 5, 2) := by decide +kernel
theorem dX12_fraction_46 : decode cX12_fraction 46 = .ok (.ldiv, 1) := by decide +kernel
theorem dX12_fraction_47 : decode cX12_fraction 47 = .ok (.putfield 7, 3) := by decide +kernel
theorem dX12_fraction_50 : decode cX12_fraction 50 = .ok (.iconst 1, 1) := by decide +kernel
theorem dX12_fraction_51 : decode cX12_fraction 51 = .ok (.ireturn, 1) := by decide +kernel
theorem dX12_cut_0 : decode cX12_cut 0 = .ok (.iload_n 0, 1) := by decide +kernel
theorem dX12_cut_1 : decode cX12_cut 1 = .ok (.ifCond .ne 10, 3) := by decide +kernel
theorem dX12_cut_4 : decode cX12_cut 4 = .ok (.lload_n 1, 1) := by decide +kernel
theorem dX12_cut_5 : decode cX12_cut 5 = .ok (.l2i, 1) := by decide +kernel
theorem dX12_cut_6 : decode cX12_cut 6 = .ok (.i2b, 1) := by decide +kernel
theorem dX12_cut_7 : decode cX12_cut 7 = .ok (.i2l, 1) := by decide +kernel
theorem dX12_cut_8 : decode cX12_cut 8 = .ok (.goto 27, 3) := by decide +kernel
theorem dX12_cut_11 : decode cX12_cut 11 = .ok (.iload_n 0, 1) := by decide +kernel
theorem dX12_cut_12 : decode cX12_cut 12 = .ok (.iconst 1, 1) := by decide +kernel
theorem dX12_cut_13 : decode cX12_cut 13 = .ok (.if_icmp .ne 10, 3) := by decide +kernel
theorem dX12_cut_16 : decode cX12_cut 16 = .ok (.lload_n 1, 1) := by decide +kernel
theorem dX12_cut_17 : decode cX12_cut 17 = .ok (.l2i, 1) := by decide +kernel
theorem dX12_cut_18 : decode cX12_cut 18 = .ok (.i2s, 1) := by decide +kernel
theorem dX12_cut_19 : decode cX12_cut 19 = .ok (.i2l, 1) := by decide +kernel
theorem dX12_cut_20 : decode cX12_cut 20 = .ok (.goto 15, 3) := by decide +kernel
theorem dX12_cut_23 : decode cX12_cut 23 = .ok (.iload_n 0, 1) := by decide +kernel
theorem dX12_cut_24 : decode cX12_cut 24 = .ok (.iconst 2, 1) := by decide +kernel
theorem dX12_cut_25 : decode cX12_cut 25 = .ok (.if_icmp .ne 9, 3) := by decide +kernel
theorem dX12_cut_28 : decode cX12_cut 28 = .ok (.lload_n 1, 1) := by decide +kernel
theorem dX12_cut_29 : decode cX12_cut 29 = .ok (.l2i, 1) := by decide +kernel
theorem dX12_cut_30 : decode cX12_cut 30 = .ok (.i2l, 1) := by decide +kernel
theorem dX12_cut_31 : decode cX12_cut 31 = .ok (.goto 4, 3) := by decide +kernel
theorem dX12_cut_34 : decode cX12_cut 34 = .ok (.lload_n 1, 1) := by decide +kernel
theorem dX12_cut_35 : decode cX12_cut 35 = .ok (.lreturn, 1) := by decide +kernel
theorem dX12_tray_0 : decode cX12_tray 0 = .ok (.aload_n 0, 1) := by decide +kernel
theorem dX12_tray_1 : decode cX12_tray 1 = .ok (.iconst 0, 1) := by decide +kernel
theorem dX12_tray_2 : decode cX12_tray 2 = .ok (.putfield 89, 3) := by decide +kernel
theorem dX12_tray_5 : decode cX12_tray 5 = .ok (.aload_n 0, 1) := by decide +kernel
theorem dX12_tray_6 : decode cX12_tray 6 = .ok (.iconst 0, 1) := by decide +kernel
theorem dX12_tray_7 : decode cX12_tray 7 = .ok (.putfield 92, 3) := by decide +kernel
theorem dX12_tray_10 : decode cX12_tray 10 = .ok (.iload_n 1, 1) := by decide +kernel
theorem dX12_tray_11 : decode cX12_tray 11 = .ok (.ifCond .lt 17, 3) := by decide +kernel
theorem dX12_tray_14 : decode cX12_tray 14 = .ok (.iload_n 1, 1) := by decide +kernel
theorem dX12_tray_15 : decode cX12_tray 15 = .ok (.iconst 4, 1) := by decide +kernel
theorem dX12_tray_16 : decode cX12_tray 16 = .ok (.if_icmp .ge 12, 3) := by decide +kernel
theorem dX12_tray_19 : decode cX12_tray 19 = .ok (.iload_n 2, 1) := by decide +kernel
theorem dX12_tray_20 : decode cX12_tray 20 = .ok (.ifCond .lt 8, 3) := by decide +kernel
theorem dX12_tray_23 : decode cX12_tray 23 = .ok (.iload_n 2, 1) := by decide +kernel
theorem dX12_tray_24 : decode cX12_tray 24 = .ok (.iconst 3, 1) := by decide +kernel
theorem dX12_tray_25 : decode cX12_tray 25 = .ok (.if_icmp .le 9, 3) := by decide +kernel
theorem dX12_tray_28 : decode cX12_tray 28 = .ok (.aload_n 0, 1) := by decide +kernel
theorem dX12_tray_29 : decode cX12_tray 29 = .ok (.iconst 1, 1) := by decide +kernel
theorem dX12_tray_30 : decode cX12_tray 30 = .ok (.invokevirtual 104, 3) := by decide +kernel
theorem dX12_tray_33 : decode cX12_tray 33 = .ok (.ireturn, 1) := by decide +kernel
theorem dX12_tray_34 : decode cX12_tray 34 = .ok (.iload_n 3, 1) := by decide +kernel
theorem dX12_tray_35 : decode cX12_tray 35 = .ok (.bipush 60, 2) := by decide +kernel
theorem dX12_tray_37 : decode cX12_tray 37 = .ok (.if_icmp .le 9, 3) := by decide +kernel
theorem dX12_tray_40 : decode cX12_tray 40 = .ok (.aload_n 0, 1) := by decide +kernel
theorem dX12_tray_41 : decode cX12_tray 41 = .ok (.iconst 5, 1) := by decide +kernel
theorem dX12_tray_42 : decode cX12_tray 42 = .ok (.invokevirtual 104, 3) := by decide +kernel
theorem dX12_tray_45 : decode cX12_tray 45 = .ok (.ireturn, 1) := by decide +kernel
theorem dX12_tray_46 : decode cX12_tray 46 = .ok (.iload_n 3, 1) := by decide +kernel
theorem dX12_tray_47 : decode cX12_tray 47 = .ok (.ifCond .ge 10, 3) := by decide +kernel
theorem dX12_tray_50 : decode cX12_tray 50 = .ok (.aload_n 0, 1) := by decide +kernel
theorem dX12_tray_51 : decode cX12_tray 51 = .ok (.bipush 6, 2) := by decide +kernel
theorem dX12_tray_53 : decode cX12_tray 53 = .ok (.invokevirtual 104, 3) := by decide +kernel
theorem dX12_tray_56 : decode cX12_tray 56 = .ok (.ireturn, 1) := by decide +kernel
theorem dX12_tray_57 : decode cX12_tray 57 = .ok (.aload_n 0, 1) := by decide +kernel
theorem dX12_tray_58 : decode cX12_tray 58 = .ok (.getfield 13, 3) := by decide +kernel
theorem dX12_tray_61 : decode cX12_tray 61 = .ok (.iload_n 1, 1) := by decide +kernel
theorem dX12_tray_62 : decode cX12_tray 62 = .ok (.iload_n 2, 1) := by decide +kernel
theorem dX12_tray_63 : decode cX12_tray 63 = .ok (.iastore, 1) := by decide +kernel
theorem dX12_tray_64 : decode cX12_tray 64 = .ok (.aload_n 0, 1) := by decide +kernel
theorem dX12_tray_65 : decode cX12_tray 65 = .ok (.getfield 17, 3) := by decide +kernel
theorem dX12_tray_68 : decode cX12_tray 68 = .ok (.iload_n 1, 1) := by decide +kernel
theorem dX12_tray_69 : decode cX12_tray 69 = .ok (.iload_n 3, 1) := by decide +kernel
theorem dX12_tray_70 : decode cX12_tray 70 = .ok (.iastore, 1) := by decide +kernel
theorem dX12_tray_71 : decode cX12_tray 71 = .ok (.iconst 0, 1) := by decide +kernel
theorem dX12_tray_72 : decode cX12_tray 72 = .ok (.istore 4, 2) := by decide +kernel
theorem dX12_tray_74 : decode cX12_tray 74 = .ok (.iload 4, 2) := by decide +kernel
theorem dX12_tray_76 : decode cX12_tray 76 = .ok (.iload_n 3, 1) := by decide +kernel
theorem dX12_tray_77 : decode cX12_tray 77 = .ok (.if_icmp .ge 22, 3) := by decide +kernel
theorem dX12_tray_80 : decode cX12_tray 80 = .ok (.aload_n 0, 1) := by decide +kernel
theorem dX12_tray_81 : decode cX12_tray 81 = .ok (.getfield 20, 3) := by decide +kernel
theorem dX12_tray_84 : decode cX12_tray 84 = .ok (.bipush 60, 2) := by decide +kernel
theorem dX12_tray_86 : decode cX12_tray 86 = .ok (.iload_n 1, 1) := by decide +kernel
theorem dX12_tray_87 : decode cX12_tray 87 = .ok (.imul, 1) := by decide +kernel
theorem dX12_tray_88 : decode cX12_tray 88 = .ok (.iload 4, 2) := by decide +kernel
theorem dX12_tray_90 : decode cX12_tray 90 = .ok (.iadd, 1) := by decide +kernel
theorem dX12_tray_91 : decode cX12_tray 91 = .ok (.lconst 0, 1) := by decide +kernel
theorem dX12_tray_92 : decode cX12_tray 92 = .ok (.lastore, 1) := by decide +kernel
theorem dX12_tray_93 : decode cX12_tray 93 = .ok (.iinc 4 1, 3) := by decide +kernel
theorem dX12_tray_96 : decode cX12_tray 96 = .ok (.goto (-22), 3) := by decide +kernel
theorem dX12_tray_99 : decode cX12_tray 99 = .ok (.iconst 1, 1) := by decide +kernel
theorem dX12_tray_100 : decode cX12_tray 100 = .ok (.ireturn, 1) := by decide +kernel
theorem dX12_trayed_0 : decode cX12_trayed 0 = .ok (.iload_n 1, 1) := by decide +kernel
theorem dX12_trayed_1 : decode cX12_trayed 1 = .ok (.ifCond .lt 8, 3) := by decide +kernel
theorem dX12_trayed_4 : decode cX12_trayed 4 = .ok (.iload_n 1, 1) := by decide +kernel
theorem dX12_trayed_5 : decode cX12_trayed 5 = .ok (.iconst 4, 1) := by decide +kernel
theorem dX12_trayed_6 : decode cX12_trayed 6 = .ok (.if_icmp .lt 7, 3) := by decide +kernel
theorem dX12_trayed_9 : decode cX12_trayed 9 = .ok (.iconst 1, 1) := by decide +kernel
theorem dX12_trayed_10 : decode cX12_trayed 10 = .ok (.goto 17, 3) := by decide +kernel
theorem dX12_trayed_13 : decode cX12_trayed 13 = .ok (.aload_n 0, 1) := by decide +kernel
theorem dX12_trayed_14 : decode cX12_trayed 14 = .ok (.getfield 17, 3) := by decide +kernel
theorem dX12_trayed_17 : decode cX12_trayed 17 = .ok (.iload_n 1, 1) := by decide +kernel
theorem dX12_trayed_18 : decode cX12_trayed 18 = .ok (.iaload, 1) := by decide +kernel
theorem dX12_trayed_19 : decode cX12_trayed 19 = .ok (.ifCond .ge 7, 3) := by decide +kernel
theorem dX12_trayed_22 : decode cX12_trayed 22 = .ok (.iconst 3, 1) := by decide +kernel
theorem dX12_trayed_23 : decode cX12_trayed 23 = .ok (.goto 4, 3) := by decide +kernel
theorem dX12_trayed_26 : decode cX12_trayed 26 = .ok (.iconst 0, 1) := by decide +kernel
theorem dX12_trayed_27 : decode cX12_trayed 27 = .ok (.ireturn, 1) := by decide +kernel
theorem dX12_placed_0 : decode cX12_placed 0 = .ok (.aload_n 0, 1) := by decide +kernel
theorem dX12_placed_1 : decode cX12_placed 1 = .ok (.iload_n 1, 1) := by decide +kernel
theorem dX12_placed_2 : decode cX12_placed 2 = .ok (.invokevirtual 108, 3) := by decide +kernel
theorem dX12_placed_5 : decode cX12_placed 5 = .ok (.istore_n 3, 1) := by decide +kernel
theorem dX12_placed_6 : decode cX12_placed 6 = .ok (.iload_n 3, 1) := by decide +kernel
theorem dX12_placed_7 : decode cX12_placed 7 = .ok (.ifCond .le 7, 3) := by decide +kernel
theorem dX12_placed_10 : decode cX12_placed 10 = .ok (.iload_n 3, 1) := by decide +kernel
theorem dX12_placed_11 : decode cX12_placed 11 = .ok (.goto 22, 3) := by decide +kernel
theorem dX12_placed_14 : decode cX12_placed 14 = .ok (.iload_n 2, 1) := by decide +kernel
theorem dX12_placed_15 : decode cX12_placed 15 = .ok (.ifCond .lt 13, 3) := by decide +kernel
theorem dX12_placed_18 : decode cX12_placed 18 = .ok (.iload_n 2, 1) := by decide +kernel
theorem dX12_placed_19 : decode cX12_placed 19 = .ok (.aload_n 0, 1) := by decide +kernel
theorem dX12_placed_20 : decode cX12_placed 20 = .ok (.getfield 17, 3) := by decide +kernel
theorem dX12_placed_23 : decode cX12_placed 23 = .ok (.iload_n 1, 1) := by decide +kernel
theorem dX12_placed_24 : decode cX12_placed 24 = .ok (.iaload, 1) := by decide +kernel
theorem dX12_placed_25 : decode cX12_placed 25 = .ok (.if_icmp .lt 7, 3) := by decide +kernel
theorem dX12_placed_28 : decode cX12_placed 28 = .ok (.iconst 4, 1) := by decide +kernel
theorem dX12_placed_29 : decode cX12_placed 29 = .ok (.goto 4, 3) := by decide +kernel
theorem dX12_placed_32 : decode cX12_placed 32 = .ok (.iconst 0, 1) := by decide +kernel
theorem dX12_placed_33 : decode cX12_placed 33 = .ok (.ireturn, 1) := by decide +kernel
theorem dX12_write_0 : decode cX12_write 0 = .ok (.aload_n 0, 1) := by decide +kernel
theorem dX12_write_1 : decode cX12_write 1 = .ok (.iconst 0, 1) := by decide +kernel
theorem dX12_write_2 : decode cX12_write 2 = .ok (.putfield 89, 3) := by decide +kernel
theorem dX12_write_5 : decode cX12_write 5 = .ok (.aload_n 0, 1) := by decide +kernel
theorem dX12_write_6 : decode cX12_write 6 = .ok (.aload_n 0, 1) := by decide +kernel
theorem dX12_write_7 : decode cX12_write 7 = .ok (.iload_n 1, 1) := by decide +kernel
theorem dX12_write_8 : decode cX12_write 8 = .ok (.iload_n 2, 1) := by decide +kernel
theorem dX12_write_9 : decode cX12_write 9 = .ok (.invokevirtual 112, 3) := by decide +kernel
theorem dX12_write_12 : decode cX12_write 12 = .ok (.putfield 92, 3) := by decide +kernel
theorem dX12_write_15 : decode cX12_write 15 = .ok (.aload_n 0, 1) := by decide +kernel
theorem dX12_write_16 : decode cX12_write 16 = .ok (.getfield 92, 3) := by decide +kernel
theorem dX12_write_19 : decode cX12_write 19 = .ok (.ifCond .le 5, 3) := by decide +kernel
theorem dX12_write_22 : decode cX12_write 22 = .ok (.iconst 0, 1) := by decide +kernel
theorem dX12_write_23 : decode cX12_write 23 = .ok (.ireturn, 1) := by decide +kernel
theorem dX12_write_24 : decode cX12_write 24 = .ok (.aload_n 0, 1) := by decide +kernel
theorem dX12_write_25 : decode cX12_write 25 = .ok (.getfield 20, 3) := by decide +kernel
theorem dX12_write_28 : decode cX12_write 28 = .ok (.bipush 60, 2) := by decide +kernel
theorem dX12_write_30 : decode cX12_write 30 = .ok (.iload_n 1, 1) := by decide +kernel
theorem dX12_write_31 : decode cX12_write 31 = .ok (.imul, 1) := by decide +kernel
theorem dX12_write_32 : decode cX12_write 32 = .ok (.iload_n 2, 1) := by decide +kernel
theorem dX12_write_33 : decode cX12_write 33 = .ok (.iadd, 1) := by decide +kernel
theorem dX12_write_34 : decode cX12_write 34 = .ok (.aload_n 0, 1) := by decide +kernel
theorem dX12_write_35 : decode cX12_write 35 = .ok (.getfield 13, 3) := by decide +kernel
theorem dX12_write_38 : decode cX12_write 38 = .ok (.iload_n 1, 1) := by decide +kernel
theorem dX12_write_39 : decode cX12_write 39 = .ok (.iaload, 1) := by decide +kernel
theorem dX12_write_40 : decode cX12_write 40 = .ok (.lload_n 3, 1) := by decide +kernel
theorem dX12_write_41 : decode cX12_write 41 = .ok (.invokestatic 116, 3) := by decide +kernel
theorem dX12_write_44 : decode cX12_write 44 = .ok (.lastore, 1) := by decide +kernel
theorem dX12_write_45 : decode cX12_write 45 = .ok (.iconst 1, 1) := by decide +kernel
theorem dX12_write_46 : decode cX12_write 46 = .ok (.ireturn, 1) := by decide +kernel
theorem dX12_read_0 : decode cX12_read 0 = .ok (.aload_n 0, 1) := by decide +kernel
theorem dX12_read_1 : decode cX12_read 1 = .ok (.iconst 0, 1) := by decide +kernel
theorem dX12_read_2 : decode cX12_read 2 = .ok (.putfield 89, 3) := by decide +kernel
theorem dX12_read_5 : decode cX12_read 5 = .ok (.aload_n 0, 1) := by decide +kernel
theorem dX12_read_6 : decode cX12_read 6 = .ok (.aload_n 0, 1) := by decide +kernel
theorem dX12_read_7 : decode cX12_read 7 = .ok (.iload_n 1, 1) := by decide +kernel
theorem dX12_read_8 : decode cX12_read 8 = .ok (.iload_n 2, 1) := by decide +kernel
theorem dX12_read_9 : decode cX12_read 9 = .ok (.invokevirtual 112, 3) := by decide +kernel
theorem dX12_read_12 : decode cX12_read 12 = .ok (.putfield 92, 3) := by decide +kernel
theorem dX12_read_15 : decode cX12_read 15 = .ok (.aload_n 0, 1) := by decide +kernel
theorem dX12_read_16 : decode cX12_read 16 = .ok (.getfield 92, 3) := by decide +kernel
theorem dX12_read_19 : decode cX12_read 19 = .ok (.ifCond .le 9, 3) := by decide +kernel
theorem dX12_read_22 : decode cX12_read 22 = .ok (.ldc2_w 120, 3) := by decide +kernel
theorem dX12_read_25 : decode cX12_read 25 = .ok (.goto 14, 3) := by decide +kernel
theorem dX12_read_28 : decode cX12_read 28 = .ok (.aload_n 0, 1) := by decide +kernel
theorem dX12_read_29 : decode cX12_read 29 = .ok (.getfield 20, 3) := by decide +kernel
theorem dX12_read_32 : decode cX12_read 32 = .ok (.bipush 60, 2) := by decide +kernel
theorem dX12_read_34 : decode cX12_read 34 = .ok (.iload_n 1, 1) := by decide +kernel
theorem dX12_read_35 : decode cX12_read 35 = .ok (.imul, 1) := by decide +kernel
theorem dX12_read_36 : decode cX12_read 36 = .ok (.iload_n 2, 1) := by decide +kernel
theorem dX12_read_37 : decode cX12_read 37 = .ok (.iadd, 1) := by decide +kernel
theorem dX12_read_38 : decode cX12_read 38 = .ok (.laload, 1) := by decide +kernel
theorem dX12_read_39 : decode cX12_read 39 = .ok (.lreturn, 1) := by decide +kernel
theorem dX12_pour_0 : decode cX12_pour 0 = .ok (.aload_n 0, 1) := by decide +kernel
theorem dX12_pour_1 : decode cX12_pour 1 = .ok (.iconst 0, 1) := by decide +kernel
theorem dX12_pour_2 : decode cX12_pour 2 = .ok (.putfield 89, 3) := by decide +kernel
theorem dX12_pour_5 : decode cX12_pour 5 = .ok (.aload_n 0, 1) := by decide +kernel
theorem dX12_pour_6 : decode cX12_pour 6 = .ok (.iconst 0, 1) := by decide +kernel
theorem dX12_pour_7 : decode cX12_pour 7 = .ok (.putfield 92, 3) := by decide +kernel
theorem dX12_pour_10 : decode cX12_pour 10 = .ok (.iload_n 1, 1) := by decide +kernel
theorem dX12_pour_11 : decode cX12_pour 11 = .ok (.ifCond .lt 17, 3) := by decide +kernel
theorem dX12_pour_14 : decode cX12_pour 14 = .ok (.iload_n 1, 1) := by decide +kernel
theorem dX12_pour_15 : decode cX12_pour 15 = .ok (.iconst 4, 1) := by decide +kernel
theorem dX12_pour_16 : decode cX12_pour 16 = .ok (.if_icmp .ge 12, 3) := by decide +kernel
theorem dX12_pour_19 : decode cX12_pour 19 = .ok (.iload_n 3, 1) := by decide +kernel
theorem dX12_pour_20 : decode cX12_pour 20 = .ok (.ifCond .lt 8, 3) := by decide +kernel
theorem dX12_pour_23 : decode cX12_pour 23 = .ok (.iload_n 3, 1) := by decide +kernel
theorem dX12_pour_24 : decode cX12_pour 24 = .ok (.iconst 4, 1) := by decide +kernel
theorem dX12_pour_25 : decode cX12_pour 25 = .ok (.if_icmp .lt 9, 3) := by decide +kernel
theorem dX12_pour_28 : decode cX12_pour 28 = .ok (.aload_n 0, 1) := by decide +kernel
theorem dX12_pour_29 : decode cX12_pour 29 = .ok (.iconst 1, 1) := by decide +kernel
theorem dX12_pour_30 : decode cX12_pour 30 = .ok (.invokevirtual 104, 3) := by decide +kernel
theorem dX12_pour_33 : decode cX12_pour 33 = .ok (.ireturn, 1) := by decide +kernel
theorem dX12_pour_34 : decode cX12_pour 34 = .ok (.aload_n 0, 1) := by decide +kernel
theorem dX12_pour_35 : decode cX12_pour 35 = .ok (.getfield 17, 3) := by decide +kernel
theorem dX12_pour_38 : decode cX12_pour 38 = .ok (.iload_n 1, 1) := by decide +kernel
theorem dX12_pour_39 : decode cX12_pour 39 = .ok (.iaload, 1) := by decide +kernel
theorem dX12_pour_40 : decode cX12_pour 40 = .ok (.ifCond .lt 12, 3) := by decide +kernel
theorem dX12_pour_43 : decode cX12_pour 43 = .ok (.aload_n 0, 1) := by decide +kernel
theorem dX12_pour_44 : decode cX12_pour 44 = .ok (.getfield 17, 3) := by decide +kernel
theorem dX12_pour_47 : decode cX12_pour 47 = .ok (.iload_n 3, 1) := by decide +kernel
theorem dX12_pour_48 : decode cX12_pour 48 = .ok (.iaload, 1) := by decide +kernel
theorem dX12_pour_49 : decode cX12_pour 49 = .ok (.ifCond .ge 9, 3) := by decide +kernel
theorem dX12_pour_52 : decode cX12_pour 52 = .ok (.aload_n 0, 1) := by decide +kernel
theorem dX12_pour_53 : decode cX12_pour 53 = .ok (.iconst 3, 1) := by decide +kernel
theorem dX12_pour_54 : decode cX12_pour 54 = .ok (.invokevirtual 104, 3) := by decide +kernel
theorem dX12_pour_57 : decode cX12_pour 57 = .ok (.ireturn, 1) := by decide +kernel
theorem dX12_pour_58 : decode cX12_pour 58 = .ok (.aload_n 0, 1) := by decide +kernel
theorem dX12_pour_59 : decode cX12_pour 59 = .ok (.getfield 13, 3) := by decide +kernel
theorem dX12_pour_62 : decode cX12_pour 62 = .ok (.iload_n 1, 1) := by decide +kernel
theorem dX12_pour_63 : decode cX12_pour 63 = .ok (.iaload, 1) := by decide +kernel
theorem dX12_pour_64 : decode cX12_pour 64 = .ok (.aload_n 0, 1) := by decide +kernel
theorem dX12_pour_65 : decode cX12_pour 65 = .ok (.getfield 13, 3) := by decide +kernel
theorem dX12_pour_68 : decode cX12_pour 68 = .ok (.iload_n 3, 1) := by decide +kernel
theorem dX12_pour_69 : decode cX12_pour 69 = .ok (.iaload, 1) := by decide +kernel
theorem dX12_pour_70 : decode cX12_pour 70 = .ok (.if_icmp .eq 10, 3) := by decide +kernel
theorem dX12_pour_73 : decode cX12_pour 73 = .ok (.aload_n 0, 1) := by decide +kernel
theorem dX12_pour_74 : decode cX12_pour 74 = .ok (.bipush 11, 2) := by decide +kernel
theorem dX12_pour_76 : decode cX12_pour 76 = .ok (.invokevirtual 104, 3) := by decide +kernel
theorem dX12_pour_79 : decode cX12_pour 79 = .ok (.ireturn, 1) := by decide +kernel
theorem dX12_pour_80 : decode cX12_pour 80 = .ok (.iload 5, 2) := by decide +kernel
theorem dX12_pour_82 : decode cX12_pour 82 = .ok (.ifCond .ge 10, 3) := by decide +kernel
theorem dX12_pour_85 : decode cX12_pour 85 = .ok (.aload_n 0, 1) := by decide +kernel
theorem dX12_pour_86 : decode cX12_pour 86 = .ok (.bipush 6, 2) := by decide +kernel
theorem dX12_pour_88 : decode cX12_pour 88 = .ok (.invokevirtual 104, 3) := by decide +kernel
theorem dX12_pour_91 : decode cX12_pour 91 = .ok (.ireturn, 1) := by decide +kernel
theorem dX12_pour_92 : decode cX12_pour 92 = .ok (.iload_n 2, 1) := by decide +kernel
theorem dX12_pour_93 : decode cX12_pour 93 = .ok (.ifCond .lt 43, 3) := by decide +kernel
theorem dX12_pour_96 : decode cX12_pour 96 = .ok (.iload 4, 2) := by decide +kernel
theorem dX12_pour_98 : decode cX12_pour 98 = .ok (.ifCond .lt 38, 3) := by decide +kernel
theorem dX12_pour_101 : decode cX12_pour 101 = .ok (.iload_n 2, 1) := by decide +kernel
theorem dX12_pour_102 : decode cX12_pour 102 = .ok (.i2l, 1) := by decide +kernel
theorem dX12_pour_103 : decode cX12_pour 103 = .ok (.iload 5, 2) := by decide +kernel
theorem dX12_pour_105 : decode cX12_pour 105 = .ok (.i2l, 1) := by decide +kernel
theorem dX12_pour_106 : decode cX12_pour 106 = .ok (.ladd, 1) := by decide +kernel
theorem dX12_pour_107 : decode cX12_pour 107 = .ok (.aload_n 0, 1) := by decide +kernel
theorem dX12_pour_108 : decode cX12_pour 108 = .ok (.getfield 17, 3) := by decide +kernel
theorem dX12_pour_111 : decode cX12_pour 111 = .ok (.iload_n 1, 1) := by decide +kernel
theorem dX12_pour_112 : decode cX12_pour 112 = .ok (.iaload, 1) := by decide +kernel
theorem dX12_pour_113 : decode cX12_pour 113 = .ok (.i2l, 1) := by decide +kernel
theorem dX12_pour_114 : decode cX12_pour 114 = .ok (.lcmp, 1) := by decide +kernel
theorem dX12_pour_115 : decode cX12_pour 115 = .ok (.ifCond .gt 21, 3) := by decide +kernel
theorem dX12_pour_118 : decode cX12_pour 118 = .ok (.iload 4, 2) := by decide +kernel
theorem dX12_pour_120 : decode cX12_pour 120 = .ok (.i2l, 1) := by decide +kernel
theorem dX12_pour_121 : decode cX12_pour 121 = .ok (.iload 5, 2) := by decide +kernel
theorem dX12_pour_123 : decode cX12_pour 123 = .ok (.i2l, 1) := by decide +kernel
theorem dX12_pour_124 : decode cX12_pour 124 = .ok (.ladd, 1) := by decide +kernel
theorem dX12_pour_125 : decode cX12_pour 125 = .ok (.aload_n 0, 1) := by decide +kernel
theorem dX12_pour_126 : decode cX12_pour 126 = .ok (.getfield 17, 3) := by decide +kernel
theorem dX12_pour_129 : decode cX12_pour 129 = .ok (.iload_n 3, 1) := by decide +kernel
theorem dX12_pour_130 : decode cX12_pour 130 = .ok (.iaload, 1) := by decide +kernel
theorem dX12_pour_131 : decode cX12_pour 131 = .ok (.i2l, 1) := by decide +kernel
theorem dX12_pour_132 : decode cX12_pour 132 = .ok (.lcmp, 1) := by decide +kernel
theorem dX12_pour_133 : decode cX12_pour 133 = .ok (.ifCond .le 9, 3) := by decide +kernel
theorem dX12_pour_136 : decode cX12_pour 136 = .ok (.aload_n 0, 1) := by decide +kernel
theorem dX12_pour_137 : decode cX12_pour 137 = .ok (.iconst 4, 1) := by decide +kernel
theorem dX12_pour_138 : decode cX12_pour 138 = .ok (.invokevirtual 104, 3) := by decide +kernel
theorem dX12_pour_141 : decode cX12_pour 141 = .ok (.ireturn, 1) := by decide +kernel
theorem dX12_pour_142 : decode cX12_pour 142 = .ok (.iload_n 2, 1) := by decide +kernel
theorem dX12_pour_143 : decode cX12_pour 143 = .ok (.iload 4, 2) := by decide +kernel
theorem dX12_pour_145 : decode cX12_pour 145 = .ok (.if_icmp .ge 7, 3) := by decide +kernel
theorem dX12_pour_148 : decode cX12_pour 148 = .ok (.iconst 1, 1) := by decide +kernel
theorem dX12_pour_149 : decode cX12_pour 149 = .ok (.goto 4, 3) := by decide +kernel
theorem dX12_pour_152 : decode cX12_pour 152 = .ok (.iconst 0, 1) := by decide +kernel
theorem dX12_pour_153 : decode cX12_pour 153 = .ok (.istore 6, 2) := by decide +kernel
theorem dX12_pour_155 : decode cX12_pour 155 = .ok (.iconst 0, 1) := by decide +kernel
theorem dX12_pour_156 : decode cX12_pour 156 = .ok (.istore 7, 2) := by decide +kernel
theorem dX12_pour_158 : decode cX12_pour 158 = .ok (.iload 7, 2) := by decide +kernel
theorem dX12_pour_160 : decode cX12_pour 160 = .ok (.iload 5, 2) := by decide +kernel
theorem dX12_pour_162 : decode cX12_pour 162 = .ok (.if_icmp .ge 57, 3) := by decide +kernel
theorem dX12_pour_165 : decode cX12_pour 165 = .ok (.iload 6, 2) := by decide +kernel
theorem dX12_pour_167 : decode cX12_pour 167 = .ok (.ifCond .eq 13, 3) := by decide +kernel
theorem dX12_pour_170 : decode cX12_pour 170 = .ok (.iload 5, 2) := by decide +kernel
theorem dX12_pour_172 : decode cX12_pour 172 = .ok (.iconst 1, 1) := by decide +kernel
theorem dX12_pour_173 : decode cX12_pour 173 = .ok (.isub, 1) := by decide +kernel
theorem dX12_pour_174 : decode cX12_pour 174 = .ok (.iload 7, 2) := by decide +kernel
theorem dX12_pour_176 : decode cX12_pour 176 = .ok (.isub, 1) := by decide +kernel
theorem dX12_pour_177 : decode cX12_pour 177 = .ok (.goto 5, 3) := by decide +kernel
theorem dX12_pour_180 : decode cX12_pour 180 = .ok (.iload 7, 2) := by decide +kernel
theorem dX12_pour_182 : decode cX12_pour 182 = .ok (.istore 8, 2) := by decide +kernel
theorem dX12_pour_184 : decode cX12_pour 184 = .ok (.aload_n 0, 1) := by decide +kernel
theorem dX12_pour_185 : decode cX12_pour 185 = .ok (.getfield 20, 3) := by decide +kernel
theorem dX12_pour_188 : decode cX12_pour 188 = .ok (.bipush 60, 2) := by decide +kernel
theorem dX12_pour_190 : decode cX12_pour 190 = .ok (.iload_n 3, 1) := by decide +kernel
theorem dX12_pour_191 : decode cX12_pour 191 = .ok (.imul, 1) := by decide +kernel
theorem dX12_pour_192 : decode cX12_pour 192 = .ok (.iload 4, 2) := by decide +kernel
theorem dX12_pour_194 : decode cX12_pour 194 = .ok (.iadd, 1) := by decide +kernel
theorem dX12_pour_195 : decode cX12_pour 195 = .ok (.iload 8, 2) := by decide +kernel
theorem dX12_pour_197 : decode cX12_pour 197 = .ok (.iadd, 1) := by decide +kernel
theorem dX12_pour_198 : decode cX12_pour 198 = .ok (.aload_n 0, 1) := by decide +kernel
theorem dX12_pour_199 : decode cX12_pour 199 = .ok (.getfield 20, 3) := by decide +kernel
theorem dX12_pour_202 : decode cX12_pour 202 = .ok (.bipush 60, 2) := by decide +kernel
theorem dX12_pour_204 : decode cX12_pour 204 = .ok (.iload_n 1, 1) := by decide +kernel
theorem dX12_pour_205 : decode cX12_pour 205 = .ok (.imul, 1) := by decide +kernel
theorem dX12_pour_206 : decode cX12_pour 206 = .ok (.iload_n 2, 1) := by decide +kernel
theorem dX12_pour_207 : decode cX12_pour 207 = .ok (.iadd, 1) := by decide +kernel
theorem dX12_pour_208 : decode cX12_pour 208 = .ok (.iload 8, 2) := by decide +kernel
theorem dX12_pour_210 : decode cX12_pour 210 = .ok (.iadd, 1) := by decide +kernel
theorem dX12_pour_211 : decode cX12_pour 211 = .ok (.laload, 1) := by decide +kernel
theorem dX12_pour_212 : decode cX12_pour 212 = .ok (.lastore, 1) := by decide +kernel
theorem dX12_pour_213 : decode cX12_pour 213 = .ok (.iinc 7 1, 3) := by decide +kernel
theorem dX12_pour_216 : decode cX12_pour 216 = .ok (.goto (-58), 3) := by decide +kernel
theorem dX12_pour_219 : decode cX12_pour 219 = .ok (.iconst 1, 1) := by decide +kernel
theorem dX12_pour_220 : decode cX12_pour 220 = .ok (.ireturn, 1) := by decide +kernel
theorem dX12_numberOf_0 : decode cX12_numberOf 0 = .ok (.aload_n 0, 1) := by decide +kernel
theorem dX12_numberOf_1 : decode cX12_numberOf 1 = .ok (.getfield 20, 3) := by decide +kernel
theorem dX12_numberOf_4 : decode cX12_numberOf 4 = .ok (.bipush 60, 2) := by decide +kernel
theorem dX12_numberOf_6 : decode cX12_numberOf 6 = .ok (.iload_n 1, 1) := by decide +kernel
theorem dX12_numberOf_7 : decode cX12_numberOf 7 = .ok (.imul, 1) := by decide +kernel
theorem dX12_numberOf_8 : decode cX12_numberOf 8 = .ok (.iload_n 2, 1) := by decide +kernel
theorem dX12_numberOf_9 : decode cX12_numberOf 9 = .ok (.iadd, 1) := by decide +kernel
theorem dX12_numberOf_10 : decode cX12_numberOf 10 = .ok (.laload, 1) := by decide +kernel
theorem dX12_numberOf_11 : decode cX12_numberOf 11 = .ok (.lreturn, 1) := by decide +kernel
theorem dX12_isTray_0 : decode cX12_isTray 0 = .ok (.iload_n 1, 1) := by decide +kernel
theorem dX12_isTray_1 : decode cX12_isTray 1 = .ok (.i2l, 1) := by decide +kernel
theorem dX12_isTray_2 : decode cX12_isTray 2 = .ok (.lconst 0, 1) := by decide +kernel
theorem dX12_isTray_3 : decode cX12_isTray 3 = .ok (.ldc2_w 122, 3) := by decide +kernel
theorem dX12_isTray_6 : decode cX12_isTray 6 = .ok (.invokestatic 124, 3) := by decide +kernel
theorem dX12_isTray_9 : decode cX12_isTray 9 = .ok (.ireturn, 1) := by decide +kernel
theorem dX12_look2_0 : decode cX12_look2 0 = .ok (.iload_n 1, 1) := by decide +kernel
theorem dX12_look2_1 : decode cX12_look2 1 = .ok (.aload_n 0, 1) := by decide +kernel
theorem dX12_look2_2 : decode cX12_look2 2 = .ok (.getfield 128, 3) := by decide +kernel
theorem dX12_look2_5 : decode cX12_look2 5 = .ok (.if_icmp .ge 16, 3) := by decide +kernel
theorem dX12_look2_8 : decode cX12_look2 8 = .ok (.aload_n 0, 1) := by decide +kernel
theorem dX12_look2_9 : decode cX12_look2 9 = .ok (.getfield 24, 3) := by decide +kernel
theorem dX12_look2_12 : decode cX12_look2 12 = .ok (.iload_n 1, 1) := by decide +kernel
theorem dX12_look2_13 : decode cX12_look2 13 = .ok (.baload, 1) := by decide +kernel
theorem dX12_look2_14 : decode cX12_look2 14 = .ok (.sipush 255, 3) := by decide +kernel
theorem dX12_look2_17 : decode cX12_look2 17 = .ok (.iand, 1) := by decide +kernel
theorem dX12_look2_18 : decode cX12_look2 18 = .ok (.goto 4, 3) := by decide +kernel
theorem dX12_look2_21 : decode cX12_look2 21 = .ok (.iconst 0, 1) := by decide +kernel
theorem dX12_look2_22 : decode cX12_look2 22 = .ok (.ireturn, 1) := by decide +kernel
theorem dX12_isLetter_0 : decode cX12_isLetter 0 = .ok (.iload_n 0, 1) := by decide +kernel
theorem dX12_isLetter_1 : decode cX12_isLetter 1 = .ok (.bipush 97, 2) := by decide +kernel
theorem dX12_isLetter_3 : decode cX12_isLetter 3 = .ok (.if_icmp .lt 13, 3) := by decide +kernel
theorem dX12_isLetter_6 : decode cX12_isLetter 6 = .ok (.iload_n 0, 1) := by decide +kernel
theorem dX12_isLetter_7 : decode cX12_isLetter 7 = .ok (.bipush 122, 2) := by decide +kernel
theorem dX12_isLetter_9 : decode cX12_isLetter 9 = .ok (.if_icmp .gt 7, 3) := by decide +kernel
theorem dX12_isLetter_12 : decode cX12_isLetter 12 = .ok (.iconst 1, 1) := by decide +kernel
theorem dX12_isLetter_13 : decode cX12_isLetter 13 = .ok (.goto 4, 3) := by decide +kernel
theorem dX12_isLetter_16 : decode cX12_isLetter 16 = .ok (.iconst 0, 1) := by decide +kernel
theorem dX12_isLetter_17 : decode cX12_isLetter 17 = .ok (.ireturn, 1) := by decide +kernel
theorem dX12_isDigit_0 : decode cX12_isDigit 0 = .ok (.iload_n 0, 1) := by decide +kernel
theorem dX12_isDigit_1 : decode cX12_isDigit 1 = .ok (.bipush 48, 2) := by decide +kernel
theorem dX12_isDigit_3 : decode cX12_isDigit 3 = .ok (.if_icmp .lt 13, 3) := by decide +kernel
theorem dX12_isDigit_6 : decode cX12_isDigit 6 = .ok (.iload_n 0, 1) := by decide +kernel
theorem dX12_isDigit_7 : decode cX12_isDigit 7 = .ok (.bipush 57, 2) := by decide +kernel
theorem dX12_isDigit_9 : decode cX12_isDigit 9 = .ok (.if_icmp .gt 7, 3) := by decide +kernel
theorem dX12_isDigit_12 : decode cX12_isDigit 12 = .ok (.iconst 1, 1) := by decide +kernel
theorem dX12_isDigit_13 : decode cX12_isDigit 13 = .ok (.goto 4, 3) := by decide +kernel
theorem dX12_isDigit_16 : decode cX12_isDigit 16 = .ok (.iconst 0, 1) := by decide +kernel
theorem dX12_isDigit_17 : decode cX12_isDigit 17 = .ok (.ireturn, 1) := by decide +kernel
theorem dX12_next_0 : decode cX12_next 0 = .ok (.aload_n 0, 1) := by decide +kernel
theorem dX12_next_1 : decode cX12_next 1 = .ok (.aload_n 0, 1) := by decide +kernel
theorem dX12_next_2 : decode cX12_next 2 = .ok (.getfield 131, 3) := by decide +kernel
theorem dX12_next_5 : decode cX12_next 5 = .ok (.putfield 134, 3) := by decide +kernel
theorem dX12_next_8 : decode cX12_next 8 = .ok (.aload_n 0, 1) := by decide +kernel
theorem dX12_next_9 : decode cX12_next 9 = .ok (.getfield 134, 3) := by decide +kernel
theorem dX12_next_12 : decode cX12_next 12 = .ok (.aload_n 0, 1) := by decide +kernel
theorem dX12_next_13 : decode cX12_next 13 = .ok (.getfield 128, 3) := by decide +kernel
theorem dX12_next_16 : decode cX12_next 16 = .ok (.if_icmp .ge 42, 3) := by decide +kernel
theorem dX12_next_19 : decode cX12_next 19 = .ok (.aload_n 0, 1) := by decide +kernel
theorem dX12_next_20 : decode cX12_next 20 = .ok (.aload_n 0, 1) := by decide +kernel
theorem dX12_next_21 : decode cX12_next 21 = .ok (.getfield 134, 3) := by decide +kernel
theorem dX12_next_24 : decode cX12_next 24 = .ok (.invokevirtual 137, 3) := by decide +kernel
theorem dX12_next_27 : decode cX12_next 27 = .ok (.bipush 10, 2) := by decide +kernel
theorem dX12_next_29 : decode cX12_next 29 = .ok (.if_icmp .eq 16, 3) := by decide +kernel
theorem dX12_next_32 : decode cX12_next 32 = .ok (.aload_n 0, 1) := by decide +kernel
theorem dX12_next_33 : decode cX12_next 33 = .ok (.aload_n 0, 1) := by decide +kernel
theorem dX12_next_34 : decode cX12_next 34 = .ok (.getfield 134, 3) := by decide +kernel
theorem dX12_next_37 : decode cX12_next 37 = .ok (.invokevirtual 137, 3) := by decide +kernel
theorem dX12_next_40 : decode cX12_next 40 = .ok (.bipush 32, 2) := by decide +kernel
theorem dX12_next_42 : decode cX12_next 42 = .ok (.if_icmp .ne 16, 3) := by decide +kernel
theorem dX12_next_45 : decode cX12_next 45 = .ok (.aload_n 0, 1) := by decide +kernel
theorem dX12_next_46 : decode cX12_next 46 = .ok (.dup, 1) := by decide +kernel
theorem dX12_next_47 : decode cX12_next 47 = .ok (.getfield 134, 3) := by decide +kernel
theorem dX12_next_50 : decode cX12_next 50 = .ok (.iconst 1, 1) := by decide +kernel
theorem dX12_next_51 : decode cX12_next 51 = .ok (.iadd, 1) := by decide +kernel
theorem dX12_next_52 : decode cX12_next 52 = .ok (.putfield 134, 3) := by decide +kernel
theorem dX12_next_55 : decode cX12_next 55 = .ok (.goto (-47), 3) := by decide +kernel
theorem dX12_next_58 : decode cX12_next 58 = .ok (.aload_n 0, 1) := by decide +kernel
theorem dX12_next_59 : decode cX12_next 59 = .ok (.aload_n 0, 1) := by decide +kernel
theorem dX12_next_60 : decode cX12_next 60 = .ok (.getfield 134, 3) := by decide +kernel
theorem dX12_next_63 : decode cX12_next 63 = .ok (.putfield 131, 3) := by decide +kernel
theorem dX12_next_66 : decode cX12_next 66 = .ok (.aload_n 0, 1) := by decide +kernel
theorem dX12_next_67 : decode cX12_next 67 = .ok (.getfield 134, 3) := by decide +kernel
theorem dX12_next_70 : decode cX12_next 70 = .ok (.aload_n 0, 1) := by decide +kernel
theorem dX12_next_71 : decode cX12_next 71 = .ok (.getfield 128, 3) := by decide +kernel
theorem dX12_next_74 : decode cX12_next 74 = .ok (.if_icmp .lt 9, 3) := by decide +kernel
theorem dX12_next_77 : decode cX12_next 77 = .ok (.aload_n 0, 1) := by decide +kernel
theorem dX12_next_78 : decode cX12_next 78 = .ok (.iconst 0, 1) := by decide +kernel
theorem dX12_next_79 : decode cX12_next 79 = .ok (.putfield 140, 3) := by decide +kernel
theorem dX12_next_82 : decode cX12_next 82 = .ok (.return_, 1) := by decide +kernel
theorem dX12_next_83 : decode cX12_next 83 = .ok (.aload_n 0, 1) := by decide +kernel
theorem dX12_next_84 : decode cX12_next 84 = .ok (.aload_n 0, 1) := by decide +kernel
theorem dX12_next_85 : decode cX12_next 85 = .ok (.getfield 134, 3) := by decide +kernel
theorem dX12_next_88 : decode cX12_next 88 = .ok (.invokevirtual 137, 3) := by decide +kernel
theorem dX12_next_91 : decode cX12_next 91 = .ok (.istore_n 1, 1) := by decide +kernel
theorem dX12_next_92 : decode cX12_next 92 = .ok (.iload_n 1, 1) := by decide +kernel
theorem dX12_next_93 : decode cX12_next 93 = .ok (.invokestatic 143, 3) := by decide +kernel
theorem dX12_next_96 : decode cX12_next 96 = .ok (.ifCond .eq 102, 3) := by decide +kernel
theorem dX12_next_99 : decode cX12_next 99 = .ok (.aload_n 0, 1) := by decide +kernel
theorem dX12_next_100 : decode cX12_next 100 = .ok (.iconst 1, 1) := by decide +kernel
theorem dX12_next_101 : decode cX12_next 101 = .ok (.putfield 140, 3) := by decide +kernel
theorem dX12_next_104 : decode cX12_next 104 = .ok (.aload_n 0, 1) := by decide +kernel
theorem dX12_next_105 : decode cX12_next 105 = .ok (.lconst 0, 1) := by decide +kernel
theorem dX12_next_106 : decode cX12_next 106 = .ok (.putfield 146, 3) := by decide +kernel
theorem dX12_next_109 : decode cX12_next 109 = .ok (.aload_n 0, 1) := by decide +kernel
theorem dX12_next_110 : decode cX12_next 110 = .ok (.aload_n 0, 1) := by decide +kernel
theorem dX12_next_111 : decode cX12_next 111 = .ok (.getfield 131, 3) := by decide +kernel
theorem dX12_next_114 : decode cX12_next 114 = .ok (.invokevirtual 137, 3) := by decide +kernel
theorem dX12_next_117 : decode cX12_next 117 = .ok (.invokestatic 143, 3) := by decide +kernel
theorem dX12_next_120 : decode cX12_next 120 = .ok (.ifCond .eq 62, 3) := by decide +kernel
theorem dX12_next_123 : decode cX12_next 123 = .ok (.aload_n 0, 1) := by decide +kernel
theorem dX12_next_124 : decode cX12_next 124 = .ok (.aload_n 0, 1) := by decide +kernel
theorem dX12_next_125 : decode cX12_next 125 = .ok (.getfield 131, 3) := by decide +kernel
theorem dX12_next_128 : decode cX12_next 128 = .ok (.aload_n 0, 1) := by decide +kernel
theorem dX12_next_129 : decode cX12_next 129 = .ok (.getfield 134, 3) := by decide +kernel
theorem dX12_next_132 : decode cX12_next 132 = .ok (.isub, 1) := by decide +kernel
theorem dX12_next_133 : decode cX12_next 133 = .ok (.bipush 8, 2) := by decide +kernel
theorem dX12_next_135 : decode cX12_next 135 = .ok (.if_icmp .ge 28, 3) := by decide +kernel
theorem dX12_next_138 : decode cX12_next 138 = .ok (.aload_n 0, 1) := by decide +kernel
theorem dX12_next_139 : decode cX12_next 139 = .ok (.getfield 146, 3) := by decide +kernel
theorem dX12_next_142 : decode cX12_next 142 = .ok (.ldc2_w 149, 3) := by decide +kernel
theorem dX12_next_145 : decode cX12_next 145 = .ok (.lmul, 1) := by decide +kernel
theorem dX12_next_146 : decode cX12_next 146 = .ok (.aload_n 0, 1) := by decide +kernel
theorem dX12_next_147 : decode cX12_next 147 = .ok (.aload_n 0, 1) := by decide +kernel
theorem dX12_next_148 : decode cX12_next 148 = .ok (.getfield 131, 3) := by decide +kernel
theorem dX12_next_151 : decode cX12_next 151 = .ok (.invokevirtual 137, 3) := by decide +kernel
theorem dX12_next_154 : decode cX12_next 154 = .ok (.i2l, 1) := by decide +kernel
theorem dX12_next_155 : decode cX12_next 155 = .ok (.ladd, 1) := by decide +kernel
theorem dX12_next_156 : decode cX12_next 156 = .ok (.ldc2_w 151, 3) := by decide +kernel
theorem dX12_next_159 : decode cX12_next 159 = .ok (.lsub, 1) := by decide +kernel
theorem dX12_next_160 : decode cX12_next 160 = .ok (.goto 6, 3) := by decide +kernel
theorem dX12_next_163 : decode cX12_next 163 = .ok (.ldc2_w 120, 3) := by decide +kernel
theorem dX12_next_166 : decode cX12_next 166 = .ok (.putfield 146, 3) := by decide +kernel
theorem dX12_next_169 : decode cX12_next 169 = .ok (.aload_n 0, 1) := by decide +kernel
theorem dX12_next_170 : decode cX12_next 170 = .ok (.dup, 1) := by decide +kernel
theorem dX12_next_171 : decode cX12_next 171 = .ok (.getfield 131, 3) := by decide +kernel
theorem dX12_next_174 : decode cX12_next 174 = .ok (.iconst 1, 1) := by decide +kernel
theorem dX12_next_175 : decode cX12_next 175 = .ok (.iadd, 1) := by decide +kernel
theorem dX12_next_176 : decode cX12_next 176 = .ok (.putfield 131, 3) := by decide +kernel
theorem dX12_next_179 : decode cX12_next 179 = .ok (.goto (-70), 3) := by decide +kernel
theorem dX12_next_182 : decode cX12_next 182 = .ok (.aload_n 0, 1) := by decide +kernel
theorem dX12_next_183 : decode cX12_next 183 = .ok (.aload_n 0, 1) := by decide +kernel
theorem dX12_next_184 : decode cX12_next 184 = .ok (.getfield 131, 3) := by decide +kernel
theorem dX12_next_187 : decode cX12_next 187 = .ok (.aload_n 0, 1) := by decide +kernel
theorem dX12_next_188 : decode cX12_next 188 = .ok (.getfield 134, 3) := by decide +kernel
theorem dX12_next_191 : decode cX12_next 191 = .ok (.isub, 1) := by decide +kernel
theorem dX12_next_192 : decode cX12_next 192 = .ok (.putfield 153, 3) := by decide +kernel
theorem dX12_next_195 : decode cX12_next 195 = .ok (.goto 128, 3) := by decide +kernel
theorem dX12_next_198 : decode cX12_next 198 = .ok (.iload_n 1, 1) := by decide +kernel
theorem dX12_next_199 : decode cX12_next 199 = .ok (.invokestatic 156, 3) := by decide +kernel
theorem dX12_next_202 : decode cX12_next 202 = .ok (.ifCond .eq 96, 3) := by decide +kernel
theorem dX12_next_205 : decode cX12_next 205 = .ok (.aload_n 0, 1) := by decide +kernel
theorem dX12_next_206 : decode cX12_next 206 = .ok (.iconst 0, 1) := by decide +kernel
theorem dX12_next_207 : decode cX12_next 207 = .ok (.putfield 159, 3) := by decide +kernel
theorem dX12_next_210 : decode cX12_next 210 = .ok (.aload_n 0, 1) := by decide +kernel
theorem dX12_next_211 : decode cX12_next 211 = .ok (.aload_n 0, 1) := by decide +kernel
theorem dX12_next_212 : decode cX12_next 212 = .ok (.getfield 131, 3) := by decide +kernel
theorem dX12_next_215 : decode cX12_next 215 = .ok (.invokevirtual 137, 3) := by decide +kernel
theorem dX12_next_218 : decode cX12_next 218 = .ok (.invokestatic 156, 3) := by decide +kernel
theorem dX12_next_221 : decode cX12_next 221 = .ok (.ifCond .eq 52, 3) := by decide +kernel
theorem dX12_next_224 : decode cX12_next 224 = .ok (.aload_n 0, 1) := by decide +kernel
theorem dX12_next_225 : decode cX12_next 225 = .ok (.getfield 131, 3) := by decide +kernel
theorem dX12_next_228 : decode cX12_next 228 = .ok (.aload_n 0, 1) := by decide +kernel
theorem dX12_next_229 : decode cX12_next 229 = .ok (.getfield 134, 3) := by decide +kernel
theorem dX12_next_232 : decode cX12_next 232 = .ok (.isub, 1) := by decide +kernel
theorem dX12_next_233 : decode cX12_next 233 = .ok (.iconst 4, 1) := by decide +kernel
theorem dX12_next_234 : decode cX12_next 234 = .ok (.if_icmp .ge 26, 3) := by decide +kernel
theorem dX12_next_237 : decode cX12_next 237 = .ok (.aload_n 0, 1) := by decide +kernel
theorem dX12_next_238 : decode cX12_next 238 = .ok (.bipush 10, 2) := by decide +kernel
theorem dX12_next_240 : decode cX12_next 240 = .ok (.aload_n 0, 1) := by decide +kernel
theorem dX12_next_241 : decode cX12_next 241 = .ok (.getfield 159, 3) := by decide +kernel
theorem dX12_next_244 : decode cX12_next 244 = .ok (.imul, 1) := by decide +kernel
theorem dX12_next_245 : decode cX12_next 245 = .ok (.aload_n 0, 1) := by decide +kernel
theorem dX12_next_246 : decode cX12_next 246 = .ok (.aload_n 0, 1) := by decide +kernel
theorem dX12_next_247 : decode cX12_next 247 = .ok (.getfield 131, 3) := by decide +kernel
theorem dX12_next_250 : decode cX12_next 250 = .ok (.invokevirtual 137, 3) := by decide +kernel
theorem dX12_next_253 : decode cX12_next 253 = .ok (.iadd, 1) := by decide +kernel
theorem dX12_next_254 : decode cX12_next 254 = .ok (.bipush 48, 2) := by decide +kernel
theorem dX12_next_256 : decode cX12_next 256 = .ok (.isub, 1) := by decide +kernel
theorem dX12_next_257 : decode cX12_next 257 = .ok (.putfield 159, 3) := by decide +kernel
theorem dX12_next_260 : decode cX12_next 260 = .ok (.aload_n 0, 1) := by decide +kernel
theorem dX12_next_261 : decode cX12_next 261 = .ok (.dup, 1) := by decide +kernel
theorem dX12_next_262 : decode cX12_next 262 = .ok (.getfield 131, 3) := by decide +kernel
theorem dX12_next_265 : decode cX12_next 265 = .ok (.iconst 1, 1) := by decide +kernel
theorem dX12_next_266 : decode cX12_next 266 = .ok (.iadd, 1) := by decide +kernel
theorem dX12_next_267 : decode cX12_next 267 = .ok (.putfield 131, 3) := by decide +kernel
theorem dX12_next_270 : decode cX12_next 270 = .ok (.goto (-60), 3) := by decide +kernel
theorem dX12_next_273 : decode cX12_next 273 = .ok (.aload_n 0, 1) := by decide +kernel
theorem dX12_next_274 : decode cX12_next 274 = .ok (.aload_n 0, 1) := by decide +kernel
theorem dX12_next_275 : decode cX12_next 275 = .ok (.getfield 131, 3) := by decide +kernel
theorem dX12_next_278 : decode cX12_next 278 = .ok (.aload_n 0, 1) := by decide +kernel
theorem dX12_next_279 : decode cX12_next 279 = .ok (.getfield 134, 3) := by decide +kernel
theorem dX12_next_282 : decode cX12_next 282 = .ok (.isub, 1) := by decide +kernel
theorem dX12_next_283 : decode cX12_next 283 = .ok (.iconst 4, 1) := by decide +kernel
theorem dX12_next_284 : decode cX12_next 284 = .ok (.if_icmp .le 7, 3) := by decide +kernel
theorem dX12_next_287 : decode cX12_next 287 = .ok (.iconst 4, 1) := by decide +kernel
theorem dX12_next_288 : decode cX12_next 288 = .ok (.goto 4, 3) := by decide +kernel
theorem dX12_next_291 : decode cX12_next 291 = .ok (.iconst 2, 1) := by decide +kernel
theorem dX12_next_292 : decode cX12_next 292 = .ok (.putfield 140, 3) := by decide +kernel
theorem dX12_next_295 : decode cX12_next 295 = .ok (.goto 28, 3) := by decide +kernel
theorem dX12_next_298 : decode cX12_next 298 = .ok (.aload_n 0, 1) := by decide +kernel
theorem dX12_next_299 : decode cX12_next 299 = .ok (.aload_n 0, 1) := by decide +kernel
theorem dX12_next_300 : decode cX12_next 300 = .ok (.getfield 134, 3) := by decide +kernel
theorem dX12_next_303 : decode cX12_next 303 = .ok (.iconst 1, 1) := by decide +kernel
theorem dX12_next_304 : decode cX12_next 304 = .ok (.iadd, 1) := by decide +kernel
theorem dX12_next_305 : decode cX12_next 305 = .ok (.putfield 131, 3) := by decide +kernel
theorem dX12_next_308 : decode cX12_next 308 = .ok (.aload_n 0, 1) := by decide +kernel
theorem dX12_next_309 : decode cX12_next 309 = .ok (.iload_n 1, 1) := by decide +kernel
theorem dX12_next_310 : decode cX12_next 310 = .ok (.bipush 59, 2) := by decide +kernel
theorem dX12_next_312 : decode cX12_next 312 = .ok (.if_icmp .ne 7, 3) := by decide +kernel
theorem dX12_next_315 : decode cX12_next 315 = .ok (.iconst 3, 1) := by decide +kernel
theorem dX12_next_316 : decode cX12_next 316 = .ok (.goto 4, 3) := by decide +kernel
theorem dX12_next_319 : decode cX12_next 319 = .ok (.iconst 4, 1) := by decide +kernel
theorem dX12_next_320 : decode cX12_next 320 = .ok (.putfield 140, 3) := by decide +kernel
theorem dX12_next_323 : decode cX12_next 323 = .ok (.return_, 1) := by decide +kernel
theorem dX12_spelled_0 : decode cX12_spelled 0 = .ok (.iload_n 0, 1) := by decide +kernel
theorem dX12_spelled_1 : decode cX12_spelled 1 = .ok (.i2l, 1) := by decide +kernel
theorem dX12_spelled_2 : decode cX12_spelled 2 = .ok (.ldc2_w 151, 3) := by decide +kernel
theorem dX12_spelled_5 : decode cX12_spelled 5 = .ok (.lsub, 1) := by decide +kernel
theorem dX12_spelled_6 : decode cX12_spelled 6 = .ok (.ldc2_w 149, 3) := by decide +kernel
theorem dX12_spelled_9 : decode cX12_spelled 9 = .ok (.lmul, 1) := by decide +kernel
theorem dX12_spelled_10 : decode cX12_spelled 10 = .ok (.iload_n 1, 1) := by decide +kernel
theorem dX12_spelled_11 : decode cX12_spelled 11 = .ok (.i2l, 1) := by decide +kernel
theorem dX12_spelled_12 : decode cX12_spelled 12 = .ok (.ladd, 1) := by decide +kernel
theorem dX12_spelled_13 : decode cX12_spelled 13 = .ok (.ldc2_w 151, 3) := by decide +kernel
theorem dX12_spelled_16 : decode cX12_spelled 16 = .ok (.lsub, 1) := by decide +kernel
theorem dX12_spelled_17 : decode cX12_spelled 17 = .ok (.lstore 6, 2) := by decide +kernel
theorem dX12_spelled_19 : decode cX12_spelled 19 = .ok (.iload_n 2, 1) := by decide +kernel
theorem dX12_spelled_20 : decode cX12_spelled 20 = .ok (.ifCond .le 19, 3) := by decide +kernel
theorem dX12_spelled_23 : decode cX12_spelled 23 = .ok (.lload 6, 2) := by decide +kernel
theorem dX12_spelled_25 : decode cX12_spelled 25 = .ok (.ldc2_w 149, 3) := by decide +kernel
theorem dX12_spelled_28 : decode cX12_spelled 28 = .ok (.lmul, 1) := by decide +kernel
theorem dX12_spelled_29 : decode cX12_spelled 29 = .ok (.iload_n 2, 1) := by decide +kernel
theorem dX12_spelled_30 : decode cX12_spelled 30 = .ok (.i2l, 1) := by decide +kernel
theorem dX12_spelled_31 : decode cX12_spelled 31 = .ok (.ladd, 1) := by decide +kernel
theorem dX12_spelled_32 : decode cX12_spelled 32 = .ok (.ldc2_w 151, 3) := by decide +kernel
theorem dX12_spelled_35 : decode cX12_spelled 35 = .ok (.lsub, 1) := by decide +kernel
theorem dX12_spelled_36 : decode cX12_spelled 36 = .ok (.goto 5, 3) := by decide +kernel
theorem dX12_spelled_39 : decode cX12_spelled 39 = .ok (.lload 6, 2) := by decide +kernel
theorem dX12_spelled_41 : decode cX12_spelled 41 = .ok (.lstore 6, 2) := by decide +kernel
theorem dX12_spelled_43 : decode cX12_spelled 43 = .ok (.iload_n 3, 1) := by decide +kernel
theorem dX12_spelled_44 : decode cX12_spelled 44 = .ok (.ifCond .le 19, 3) := by decide +kernel
theorem dX12_spelled_47 : decode cX12_spelled 47 = .ok (.lload 6, 2) := by decide +kernel
theorem dX12_spelled_49 : decode cX12_spelled 49 = .ok (.ldc2_w 149, 3) := by decide +kernel
theorem dX12_spelled_52 : decode cX12_spelled 52 = .ok (.lmul, 1) := by decide +kernel
theorem dX12_spelled_53 : decode cX12_spelled 53 = .ok (.iload_n 3, 1) := by decide +kernel
theorem dX12_spelled_54 : decode cX12_spelled 54 = .ok (.i2l, 1) := by decide +kernel
theorem dX12_spelled_55 : decode cX12_spelled 55 = .ok (.ladd, 1) := by decide +kernel
theorem dX12_spelled_56 : decode cX12_spelled 56 = .ok (.ldc2_w 151, 3) := by decide +kernel
theorem dX12_spelled_59 : decode cX12_spelled 59 = .ok (.lsub, 1) := by decide +kernel
theorem dX12_spelled_60 : decode cX12_spelled 60 = .ok (.goto 5, 3) := by decide +kernel
theorem dX12_spelled_63 : decode cX12_spelled 63 = .ok (.lload 6, 2) := by decide +kernel
theorem dX12_spelled_65 : decode cX12_spelled 65 = .ok (.lstore 6, 2) := by decide +kernel
theorem dX12_spelled_67 : decode cX12_spelled 67 = .ok (.iload 4, 2) := by decide +kernel
theorem dX12_spelled_69 : decode cX12_spelled 69 = .ok (.ifCond .le 20, 3) := by decide +kernel
theorem dX12_spelled_72 : decode cX12_spelled 72 = .ok (.lload 6, 2) := by decide +kernel
theorem dX12_spelled_74 : decode cX12_spelled 74 = .ok (.ldc2_w 149, 3) := by decide +kernel
theorem dX12_spelled_77 : decode cX12_spelled 77 = .ok (.lmul, 1) := by decide +kernel
theorem dX12_spelled_78 : decode cX12_spelled 78 = .ok (.iload 4, 2) := by decide +kernel
theorem dX12_spelled_80 : decode cX12_spelled 80 = .ok (.i2l, 1) := by decide +kernel
theorem dX12_spelled_81 : decode cX12_spelled 81 = .ok (.ladd, 1) := by decide +kernel
theorem dX12_spelled_82 : decode cX12_spelled 82 = .ok (.ldc2_w 151, 3) := by decide +kernel
theorem dX12_spelled_85 : decode cX12_spelled 85 = .ok (.lsub, 1) := by decide +kernel
theorem dX12_spelled_86 : decode cX12_spelled 86 = .ok (.goto 5, 3) := by decide +kernel
theorem dX12_spelled_89 : decode cX12_spelled 89 = .ok (.lload 6, 2) := by decide +kernel
theorem dX12_spelled_91 : decode cX12_spelled 91 = .ok (.lstore 6, 2) := by decide +kernel
theorem dX12_spelled_93 : decode cX12_spelled 93 = .ok (.iload 5, 2) := by decide +kernel
theorem dX12_spelled_95 : decode cX12_spelled 95 = .ok (.ifCond .le 20, 3) := by decide +kernel
theorem dX12_spelled_98 : decode cX12_spelled 98 = .ok (.lload 6, 2) := by decide +kernel
theorem dX12_spelled_100 : decode cX12_spelled 100 = .ok (.ldc2_w 149, 3) := by decide +kernel
theorem dX12_spelled_103 : decode cX12_spelled 103 = .ok (.lmul, 1) := by decide +kernel
theorem dX12_spelled_104 : decode cX12_spelled 104 = .ok (.iload 5, 2) := by decide +kernel
theorem dX12_spelled_106 : decode cX12_spelled 106 = .ok (.i2l, 1) := by decide +kernel
theorem dX12_spelled_107 : decode cX12_spelled 107 = .ok (.ladd, 1) := by decide +kernel
theorem dX12_spelled_108 : decode cX12_spelled 108 = .ok (.ldc2_w 151, 3) := by decide +kernel
theorem dX12_spelled_111 : decode cX12_spelled 111 = .ok (.lsub, 1) := by decide +kernel
theorem dX12_spelled_112 : decode cX12_spelled 112 = .ok (.goto 5, 3) := by decide +kernel
theorem dX12_spelled_115 : decode cX12_spelled 115 = .ok (.lload 6, 2) := by decide +kernel
theorem dX12_spelled_117 : decode cX12_spelled 117 = .ok (.lreturn, 1) := by decide +kernel
theorem dX12_isWord_0 : decode cX12_isWord 0 = .ok (.aload_n 0, 1) := by decide +kernel
theorem dX12_isWord_1 : decode cX12_isWord 1 = .ok (.getfield 140, 3) := by decide +kernel
theorem dX12_isWord_4 : decode cX12_isWord 4 = .ok (.iconst 1, 1) := by decide +kernel
theorem dX12_isWord_5 : decode cX12_isWord 5 = .ok (.if_icmp .ne 16, 3) := by decide +kernel
theorem dX12_isWord_8 : decode cX12_isWord 8 = .ok (.aload_n 0, 1) := by decide +kernel
theorem dX12_isWord_9 : decode cX12_isWord 9 = .ok (.getfield 146, 3) := by decide +kernel
theorem dX12_isWord_12 : decode cX12_isWord 12 = .ok (.lload_n 1, 1) := by decide +kernel
theorem dX12_isWord_13 : decode cX12_isWord 13 = .ok (.lcmp, 1) := by decide +kernel
theorem dX12_isWord_14 : decode cX12_isWord 14 = .ok (.ifCond .ne 7, 3) := by decide +kernel
theorem dX12_isWord_17 : decode cX12_isWord 17 = .ok (.iconst 1, 1) := by decide +kernel
theorem dX12_isWord_18 : decode cX12_isWord 18 = .ok (.goto 4, 3) := by decide +kernel
theorem dX12_isWord_21 : decode cX12_isWord 21 = .ok (.iconst 0, 1) := by decide +kernel
theorem dX12_isWord_22 : decode cX12_isWord 22 = .ok (.ireturn, 1) := by decide +kernel
theorem dX12_isSound_0 : decode cX12_isSound 0 = .ok (.aload_n 0, 1) := by decide +kernel
theorem dX12_isSound_1 : decode cX12_isSound 1 = .ok (.bipush 115, 2) := by decide +kernel
theorem dX12_isSound_3 : decode cX12_isSound 3 = .ok (.bipush 111, 2) := by decide +kernel
theorem dX12_isSound_5 : decode cX12_isSound 5 = .ok (.bipush 117, 2) := by decide +kernel
theorem dX12_isSound_7 : decode cX12_isSound 7 = .ok (.bipush 110, 2) := by decide +kernel
theorem dX12_isSound_9 : decode cX12_isSound 9 = .ok (.bipush 100, 2) := by decide +kernel
theorem dX12_isSound_11 : decode cX12_isSound 11 = .ok (.iconst 0, 1) := by decide +kernel
theorem dX12_isSound_12 : decode cX12_isSound 12 = .ok (.invokestatic 162, 3) := by decide +kernel
theorem dX12_isSound_15 : decode cX12_isSound 15 = .ok (.invokevirtual 166, 3) := by decide +kernel
theorem dX12_isSound_18 : decode cX12_isSound 18 = .ok (.ireturn, 1) := by decide +kernel
theorem dX12_isJar_0 : decode cX12_isJar 0 = .ok (.aload_n 0, 1) := by decide +kernel
theorem dX12_isJar_1 : decode cX12_isJar 1 = .ok (.bipush 106, 2) := by decide +kernel
theorem dX12_isJar_3 : decode cX12_isJar 3 = .ok (.bipush 97, 2) := by decide +kernel
theorem dX12_isJar_5 : decode cX12_isJar 5 = .ok (.bipush 114, 2) := by decide +kernel
theorem dX12_isJar_7 : decode cX12_isJar 7 = .ok (.iconst 0, 1) := by decide +kernel
theorem dX12_isJar_8 : decode cX12_isJar 8 = .ok (.iconst 0, 1) := by decide +kernel
theorem dX12_isJar_9 : decode cX12_isJar 9 = .ok (.iconst 0, 1) := by decide +kernel
theorem dX12_isJar_10 : decode cX12_isJar 10 = .ok (.invokestatic 162, 3) := by decide +kernel
theorem dX12_isJar_13 : decode cX12_isJar 13 = .ok (.invokevirtual 166, 3) := by decide +kernel
theorem dX12_isJar_16 : decode cX12_isJar 16 = .ok (.ireturn, 1) := by decide +kernel
theorem dX12_isSize_0 : decode cX12_isSize 0 = .ok (.aload_n 0, 1) := by decide +kernel
theorem dX12_isSize_1 : decode cX12_isSize 1 = .ok (.bipush 115, 2) := by decide +kernel
theorem dX12_isSize_3 : decode cX12_isSize 3 = .ok (.bipush 105, 2) := by decide +kernel
theorem dX12_isSize_5 : decode cX12_isSize 5 = .ok (.bipush 122, 2) := by decide +kernel
theorem dX12_isSize_7 : decode cX12_isSize 7 = .ok (.bipush 101, 2) := by decide +kernel
theorem dX12_isSize_9 : decode cX12_isSize 9 = .ok (.iconst 0, 1) := by decide +kernel
theorem dX12_isSize_10 : decode cX12_isSize 10 = .ok (.iconst 0, 1) := by decide +kernel
theorem dX12_isSize_11 : decode cX12_isSize 11 = .ok (.invokestatic 162, 3) := by decide +kernel
theorem dX12_isSize_14 : decode cX12_isSize 14 = .ok (.invokevirtual 166, 3) := by decide +kernel
theorem dX12_isSize_17 : decode cX12_isSize 17 = .ok (.ireturn, 1) := by decide +kernel
theorem dX12_isLeaks_0 : decode cX12_isLeaks 0 = .ok (.aload_n 0, 1) := by decide +kernel
theorem dX12_isLeaks_1 : decode cX12_isLeaks 1 = .ok (.bipush 108, 2) := by decide +kernel
theorem dX12_isLeaks_3 : decode cX12_isLeaks 3 = .ok (.bipush 101, 2) := by decide +kernel
theorem dX12_isLeaks_5 : decode cX12_isLeaks 5 = .ok (.bipush 97, 2) := by decide +kernel
theorem dX12_isLeaks_7 : decode cX12_isLeaks 7 = .ok (.bipush 107, 2) := by decide +kernel
theorem dX12_isLeaks_9 : decode cX12_isLeaks 9 = .ok (.bipush 115, 2) := by decide +kernel
theorem dX12_isLeaks_11 : decode cX12_isLeaks 11 = .ok (.iconst 0, 1) := by decide +kernel
theorem dX12_isLeaks_12 : decode cX12_isLeaks 12 = .ok (.invokestatic 162, 3) := by decide +kernel
theorem dX12_isLeaks_15 : decode cX12_isLeaks 15 = .ok (.invokevirtual 166, 3) := by decide +kernel
theorem dX12_isLeaks_18 : decode cX12_isLeaks 18 = .ok (.ireturn, 1) := by decide +kernel
theorem dX12_isHead_0 : decode cX12_isHead 0 = .ok (.aload_n 0, 1) := by decide +kernel
theorem dX12_isHead_1 : decode cX12_isHead 1 = .ok (.bipush 104, 2) := by decide +kernel
theorem dX12_isHead_3 : decode cX12_isHead 3 = .ok (.bipush 101, 2) := by decide +kernel
theorem dX12_isHead_5 : decode cX12_isHead 5 = .ok (.bipush 97, 2) := by decide +kernel
theorem dX12_isHead_7 : decode cX12_isHead 7 = .ok (.bipush 100, 2) := by decide +kernel
theorem dX12_isHead_9 : decode cX12_isHead 9 = .ok (.iconst 0, 1) := by decide +kernel
theorem dX12_isHead_10 : decode cX12_isHead 10 = .ok (.iconst 0, 1) := by decide +kernel
theorem dX12_isHead_11 : decode cX12_isHead 11 = .ok (.invokestatic 162, 3) := by decide +kernel
theorem dX12_isHead_14 : decode cX12_isHead 14 = .ok (.invokevirtual 166, 3) := by decide +kernel
theorem dX12_isHead_17 : decode cX12_isHead 17 = .ok (.ireturn, 1) := by decide +kernel
theorem dX12_isTail_0 : decode cX12_isTail 0 = .ok (.aload_n 0, 1) := by decide +kernel
theorem dX12_isTail_1 : decode cX12_isTail 1 = .ok (.bipush 116, 2) := by decide +kernel
theorem dX12_isTail_3 : decode cX12_isTail 3 = .ok (.bipush 97, 2) := by decide +kernel
theorem dX12_isTail_5 : decode cX12_isTail 5 = .ok (.bipush 105, 2) := by decide +kernel
theorem dX12_isTail_7 : decode cX12_isTail 7 = .ok (.bipush 108, 2) := by decide +kernel
theorem dX12_isTail_9 : decode cX12_isTail 9 = .ok (.iconst 0, 1) := by decide +kernel
theorem dX12_isTail_10 : decode cX12_isTail 10 = .ok (.iconst 0, 1) := by decide +kernel
theorem dX12_isTail_11 : decode cX12_isTail 11 = .ok (.invokestatic 162, 3) := by decide +kernel
theorem dX12_isTail_14 : decode cX12_isTail 14 = .ok (.invokevirtual 166, 3) := by decide +kernel
theorem dX12_isTail_17 : decode cX12_isTail 17 = .ok (.ireturn, 1) := by decide +kernel
theorem dX12_isCosts_0 : decode cX12_isCosts 0 = .ok (.aload_n 0, 1) := by decide +kernel
theorem dX12_isCosts_1 : decode cX12_isCosts 1 = .ok (.bipush 99, 2) := by decide +kernel
theorem dX12_isCosts_3 : decode cX12_isCosts 3 = .ok (.bipush 111, 2) := by decide +kernel
theorem dX12_isCosts_5 : decode cX12_isCosts 5 = .ok (.bipush 115, 2) := by decide +kernel
theorem dX12_isCosts_7 : decode cX12_isCosts 7 = .ok (.bipush 116, 2) := by decide +kernel
theorem dX12_isCosts_9 : decode cX12_isCosts 9 = .ok (.bipush 115, 2) := by decide +kernel
theorem dX12_isCosts_11 : decode cX12_isCosts 11 = .ok (.iconst 0, 1) := by decide +kernel
theorem dX12_isCosts_12 : decode cX12_isCosts 12 = .ok (.invokestatic 162, 3) := by decide +kernel
theorem dX12_isCosts_15 : decode cX12_isCosts 15 = .ok (.invokevirtual 166, 3) := by decide +kernel
theorem dX12_isCosts_18 : decode cX12_isCosts 18 = .ok (.ireturn, 1) := by decide +kernel
theorem dX12_isWorth_0 : decode cX12_isWorth 0 = .ok (.aload_n 0, 1) := by decide +kernel
theorem dX12_isWorth_1 : decode cX12_isWorth 1 = .ok (.bipush 119, 2) := by decide +kernel
theorem dX12_isWorth_3 : decode cX12_isWorth 3 = .ok (.bipush 111, 2) := by decide +kernel
theorem dX12_isWorth_5 : decode cX12_isWorth 5 = .ok (.bipush 114, 2) := by decide +kernel
theorem dX12_isWorth_7 : decode cX12_isWorth 7 = .ok (.bipush 116, 2) := by decide +kernel
theorem dX12_isWorth_9 : decode cX12_isWorth 9 = .ok (.bipush 104, 2) := by decide +kernel
theorem dX12_isWorth_11 : decode cX12_isWorth 11 = .ok (.iconst 0, 1) := by decide +kernel
theorem dX12_isWorth_12 : decode cX12_isWorth 12 = .ok (.invokestatic 162, 3) := by decide +kernel
theorem dX12_isWorth_15 : decode cX12_isWorth 15 = .ok (.invokevirtual 166, 3) := by decide +kernel
theorem dX12_isWorth_18 : decode cX12_isWorth 18 = .ok (.ireturn, 1) := by decide +kernel
theorem dX12_isBreaks_0 : decode cX12_isBreaks 0 = .ok (.aload_n 0, 1) := by decide +kernel
theorem dX12_isBreaks_1 : decode cX12_isBreaks 1 = .ok (.bipush 98, 2) := by decide +kernel
theorem dX12_isBreaks_3 : decode cX12_isBreaks 3 = .ok (.bipush 114, 2) := by decide +kernel
theorem dX12_isBreaks_5 : decode cX12_isBreaks 5 = .ok (.bipush 101, 2) := by decide +kernel
theorem dX12_isBreaks_7 : decode cX12_isBreaks 7 = .ok (.bipush 97, 2) := by decide +kernel
theorem dX12_isBreaks_9 : decode cX12_isBreaks 9 = .ok (.bipush 107, 2) := by decide +kernel
theorem dX12_isBreaks_11 : decode cX12_isBreaks 11 = .ok (.bipush 115, 2) := by decide +kernel
theorem dX12_isBreaks_13 : decode cX12_isBreaks 13 = .ok (.invokestatic 162, 3) := by decide +kernel
theorem dX12_isBreaks_16 : decode cX12_isBreaks 16 = .ok (.invokevirtual 166, 3) := by decide +kernel
theorem dX12_isBreaks_19 : decode cX12_isBreaks 19 = .ok (.ireturn, 1) := by decide +kernel
theorem dX12_isFill_0 : decode cX12_isFill 0 = .ok (.aload_n 0, 1) := by decide +kernel
theorem dX12_isFill_1 : decode cX12_isFill 1 = .ok (.bipush 102, 2) := by decide +kernel
theorem dX12_isFill_3 : decode cX12_isFill 3 = .ok (.bipush 105, 2) := by decide +kernel
theorem dX12_isFill_5 : decode cX12_isFill 5 = .ok (.bipush 108, 2) := by decide +kernel
theorem dX12_isFill_7 : decode cX12_isFill 7 = .ok (.bipush 108, 2) := by decide +kernel
theorem dX12_isFill_9 : decode cX12_isFill 9 = .ok (.iconst 0, 1) := by decide +kernel
theorem dX12_isFill_10 : decode cX12_isFill 10 = .ok (.iconst 0, 1) := by decide +kernel
theorem dX12_isFill_11 : decode cX12_isFill 11 = .ok (.invokestatic 162, 3) := by decide +kernel
theorem dX12_isFill_14 : decode cX12_isFill 14 = .ok (.invokevirtual 166, 3) := by decide +kernel
theorem dX12_isFill_17 : decode cX12_isFill 17 = .ok (.ireturn, 1) := by decide +kernel
theorem dX12_isOf_0 : decode cX12_isOf 0 = .ok (.aload_n 0, 1) := by decide +kernel
theorem dX12_isOf_1 : decode cX12_isOf 1 = .ok (.bipush 111, 2) := by decide +kernel
theorem dX12_isOf_3 : decode cX12_isOf 3 = .ok (.bipush 102, 2) := by decide +kernel
theorem dX12_isOf_5 : decode cX12_isOf 5 = .ok (.iconst 0, 1) := by decide +kernel
theorem dX12_isOf_6 : decode cX12_isOf 6 = .ok (.iconst 0, 1) := by decide +kernel
theorem dX12_isOf_7 : decode cX12_isOf 7 = .ok (.iconst 0, 1) := by decide +kernel
theorem dX12_isOf_8 : decode cX12_isOf 8 = .ok (.iconst 0, 1) := by decide +kernel
theorem dX12_isOf_9 : decode cX12_isOf 9 = .ok (.invokestatic 162, 3) := by decide +kernel
theorem dX12_isOf_12 : decode cX12_isOf 12 = .ok (.invokevirtual 166, 3) := by decide +kernel
theorem dX12_isOf_15 : decode cX12_isOf 15 = .ok (.ireturn, 1) := by decide +kernel
theorem dX12_isFrom_0 : decode cX12_isFrom 0 = .ok (.aload_n 0, 1) := by decide +kernel
theorem dX12_isFrom_1 : decode cX12_isFrom 1 = .ok (.bipush 102, 2) := by decide +kernel
theorem dX12_isFrom_3 : decode cX12_isFrom 3 = .ok (.bipush 114, 2) := by decide +kernel
theorem dX12_isFrom_5 : decode cX12_isFrom 5 = .ok (.bipush 111, 2) := by decide +kernel
theorem dX12_isFrom_7 : decode cX12_isFrom 7 = .ok (.bipush 109, 2) := by decide +kernel
theorem dX12_isFrom_9 : decode cX12_isFrom 9 = .ok (.iconst 0, 1) := by decide +kernel
theorem dX12_isFrom_10 : decode cX12_isFrom 10 = .ok (.iconst 0, 1) := by decide +kernel
theorem dX12_isFrom_11 : decode cX12_isFrom 11 = .ok (.invokestatic 162, 3) := by decide +kernel
theorem dX12_isFrom_14 : decode cX12_isFrom 14 = .ok (.invokevirtual 166, 3) := by decide +kernel
theorem dX12_isFrom_17 : decode cX12_isFrom 17 = .ok (.ireturn, 1) := by decide +kernel
theorem dX12_isOn_0 : decode cX12_isOn 0 = .ok (.aload_n 0, 1) := by decide +kernel
theorem dX12_isOn_1 : decode cX12_isOn 1 = .ok (.bipush 111, 2) := by decide +kernel
theorem dX12_isOn_3 : decode cX12_isOn 3 = .ok (.bipush 110, 2) := by decide +kernel
theorem dX12_isOn_5 : decode cX12_isOn 5 = .ok (.iconst 0, 1) := by decide +kernel
theorem dX12_isOn_6 : decode cX12_isOn 6 = .ok (.iconst 0, 1) := by decide +kernel
theorem dX12_isOn_7 : decode cX12_isOn 7 = .ok (.iconst 0, 1) := by decide +kernel
theorem dX12_isOn_8 : decode cX12_isOn 8 = .ok (.iconst 0, 1) := by decide +kernel
theorem dX12_isOn_9 : decode cX12_isOn 9 = .ok (.invokestatic 162, 3) := by decide +kernel
theorem dX12_isOn_12 : decode cX12_isOn 12 = .ok (.invokevirtual 166, 3) := by decide +kernel
theorem dX12_isOn_15 : decode cX12_isOn 15 = .ok (.ireturn, 1) := by decide +kernel
theorem dX12_isMix_0 : decode cX12_isMix 0 = .ok (.aload_n 0, 1) := by decide +kernel
theorem dX12_isMix_1 : decode cX12_isMix 1 = .ok (.bipush 109, 2) := by decide +kernel
theorem dX12_isMix_3 : decode cX12_isMix 3 = .ok (.bipush 105, 2) := by decide +kernel
theorem dX12_isMix_5 : decode cX12_isMix 5 = .ok (.bipush 120, 2) := by decide +kernel
theorem dX12_isMix_7 : decode cX12_isMix 7 = .ok (.iconst 0, 1) := by decide +kernel
theorem dX12_isMix_8 : decode cX12_isMix 8 = .ok (.iconst 0, 1) := by decide +kernel
theorem dX12_isMix_9 : decode cX12_isMix 9 = .ok (.iconst 0, 1) := by decide +kernel
theorem dX12_isMix_10 : decode cX12_isMix 10 = .ok (.invokestatic 162, 3) := by decide +kernel
theorem dX12_isMix_13 : decode cX12_isMix 13 = .ok (.invokevirtual 166, 3) := by decide +kernel
theorem dX12_isMix_16 : decode cX12_isMix 16 = .ok (.ireturn, 1) := by decide +kernel
theorem dX12_isWith_0 : decode cX12_isWith 0 = .ok (.aload_n 0, 1) := by decide +kernel
theorem dX12_isWith_1 : decode cX12_isWith 1 = .ok (.bipush 119, 2) := by decide +kernel
theorem dX12_isWith_3 : decode cX12_isWith 3 = .ok (.bipush 105, 2) := by decide +kernel
theorem dX12_isWith_5 : decode cX12_isWith 5 = .ok (.bipush 116, 2) := by decide +kernel
theorem dX12_isWith_7 : decode cX12_isWith 7 = .ok (.bipush 104, 2) := by decide +kernel
theorem dX12_isWith_9 : decode cX12_isWith 9 = .ok (.iconst 0, 1) := by decide +kernel
theorem dX12_isWith_10 : decode cX12_isWith 10 = .ok (.iconst 0, 1) := by decide +kernel
theorem dX12_isWith_11 : decode cX12_isWith 11 = .ok (.invokestatic 162, 3) := by decide +kernel
theorem dX12_isWith_14 : decode cX12_isWith 14 = .ok (.invokevirtual 166, 3) := by decide +kernel
theorem dX12_isWith_17 : decode cX12_isWith 17 = .ok (.ireturn, 1) := by decide +kernel
theorem dX12_isGives_0 : decode cX12_isGives 0 = .ok (.aload_n 0, 1) := by decide +kernel
theorem dX12_isGives_1 : decode cX12_isGives 1 = .ok (.bipush 103, 2) := by decide +kernel
theorem dX12_isGives_3 : decode cX12_isGives 3 = .ok (.bipush 105, 2) := by decide +kernel
theorem dX12_isGives_5 : decode cX12_isGives 5 = .ok (.bipush 118, 2) := by decide +kernel
theorem dX12_isGives_7 : decode cX12_isGives 7 = .ok (.bipush 101, 2) := by decide +kernel
theorem dX12_isGives_9 : decode cX12_isGives 9 = .ok (.bipush 115, 2) := by decide +kernel
theorem dX12_isGives_11 : decode cX12_isGives 11 = .ok (.iconst 0, 1) := by decide +kernel
theorem dX12_isGives_12 : decode cX12_isGives 12 = .ok (.invokestatic 162, 3) := by decide +kernel
theorem dX12_isGives_15 : decode cX12_isGives 15 = .ok (.invokevirtual 166, 3) := by decide +kernel
theorem dX12_isGives_18 : decode cX12_isGives 18 = .ok (.ireturn, 1) := by decide +kernel
theorem dX12_isAny_0 : decode cX12_isAny 0 = .ok (.aload_n 0, 1) := by decide +kernel
theorem dX12_isAny_1 : decode cX12_isAny 1 = .ok (.bipush 97, 2) := by decide +kernel
theorem dX12_isAny_3 : decode cX12_isAny 3 = .ok (.bipush 110, 2) := by decide +kernel
theorem dX12_isAny_5 : decode cX12_isAny 5 = .ok (.bipush 121, 2) := by decide +kernel
theorem dX12_isAny_7 : decode cX12_isAny 7 = .ok (.iconst 0, 1) := by decide +kernel
theorem dX12_isAny_8 : decode cX12_isAny 8 = .ok (.iconst 0, 1) := by decide +kernel
theorem dX12_isAny_9 : decode cX12_isAny 9 = .ok (.iconst 0, 1) := by decide +kernel
theorem dX12_isAny_10 : decode cX12_isAny 10 = .ok (.invokestatic 162, 3) := by decide +kernel
theorem dX12_isAny_13 : decode cX12_isAny 13 = .ok (.invokevirtual 166, 3) := by decide +kernel
theorem dX12_isAny_16 : decode cX12_isAny 16 = .ok (.ireturn, 1) := by decide +kernel
theorem dX12_isSame_0 : decode cX12_isSame 0 = .ok (.aload_n 0, 1) := by decide +kernel
theorem dX12_isSame_1 : decode cX12_isSame 1 = .ok (.bipush 115, 2) := by decide +kernel
theorem dX12_isSame_3 : decode cX12_isSame 3 = .ok (.bipush 97, 2) := by decide +kernel
theorem dX12_isSame_5 : decode cX12_isSame 5 = .ok (.bipush 109, 2) := by decide +kernel
theorem dX12_isSame_7 : decode cX12_isSame 7 = .ok (.bipush 101, 2) := by decide +kernel
theorem dX12_isSame_9 : decode cX12_isSame 9 = .ok (.iconst 0, 1) := by decide +kernel
theorem dX12_isSame_10 : decode cX12_isSame 10 = .ok (.iconst 0, 1) := by decide +kernel
theorem dX12_isSame_11 : decode cX12_isSame 11 = .ok (.invokestatic 162, 3) := by decide +kernel
theorem dX12_isSame_14 : decode cX12_isSame 14 = .ok (.invokevirtual 166, 3) := by decide +kernel
theorem dX12_isSame_17 : decode cX12_isSame 17 = .ok (.ireturn, 1) := by decide +kernel
theorem dX12_isRest_0 : decode cX12_isRest 0 = .ok (.aload_n 0, 1) := by decide +kernel
theorem dX12_isRest_1 : decode cX12_isRest 1 = .ok (.bipush 114, 2) := by decide +kernel
theorem dX12_isRest_3 : decode cX12_isRest 3 = .ok (.bipush 101, 2) := by decide +kernel
theorem dX12_isRest_5 : decode cX12_isRest 5 = .ok (.bipush 115, 2) := by decide +kernel
theorem dX12_isRest_7 : decode cX12_isRest 7 = .ok (.bipush 116, 2) := by decide +kernel
theorem dX12_isRest_9 : decode cX12_isRest 9 = .ok (.iconst 0, 1) := by decide +kernel
theorem dX12_isRest_10 : decode cX12_isRest 10 = .ok (.iconst 0, 1) := by decide +kernel
theorem dX12_isRest_11 : decode cX12_isRest 11 = .ok (.invokestatic 162, 3) := by decide +kernel
theorem dX12_isRest_14 : decode cX12_isRest 14 = .ok (.invokevirtual 166, 3) := by decide +kernel
theorem dX12_isRest_17 : decode cX12_isRest 17 = .ok (.ireturn, 1) := by decide +kernel
theorem dX12_isFirst_0 : decode cX12_isFirst 0 = .ok (.aload_n 0, 1) := by decide +kernel
theorem dX12_isFirst_1 : decode cX12_isFirst 1 = .ok (.bipush 102, 2) := by decide +kernel
theorem dX12_isFirst_3 : decode cX12_isFirst 3 = .ok (.bipush 105, 2) := by decide +kernel
theorem dX12_isFirst_5 : decode cX12_isFirst 5 = .ok (.bipush 114, 2) := by decide +kernel
theorem dX12_isFirst_7 : decode cX12_isFirst 7 = .ok (.bipush 115, 2) := by decide +kernel
theorem dX12_isFirst_9 : decode cX12_isFirst 9 = .ok (.bipush 116, 2) := by decide +kernel
theorem dX12_isFirst_11 : decode cX12_isFirst 11 = .ok (.iconst 0, 1) := by decide +kernel
theorem dX12_isFirst_12 : decode cX12_isFirst 12 = .ok (.invokestatic 162, 3) := by decide +kernel
theorem dX12_isFirst_15 : decode cX12_isFirst 15 = .ok (.invokevirtual 166, 3) := by decide +kernel
theorem dX12_isFirst_18 : decode cX12_isFirst 18 = .ok (.ireturn, 1) := by decide +kernel
theorem dX12_isSecond_0 : decode cX12_isSecond 0 = .ok (.aload_n 0, 1) := by decide +kernel
theorem dX12_isSecond_1 : decode cX12_isSecond 1 = .ok (.bipush 115, 2) := by decide +kernel
theorem dX12_isSecond_3 : decode cX12_isSecond 3 = .ok (.bipush 101, 2) := by decide +kernel
theorem dX12_isSecond_5 : decode cX12_isSecond 5 = .ok (.bipush 99, 2) := by decide +kernel
theorem dX12_isSecond_7 : decode cX12_isSecond 7 = .ok (.bipush 111, 2) := by decide +kernel
theorem dX12_isSecond_9 : decode cX12_isSecond 9 = .ok (.bipush 110, 2) := by decide +kernel
theorem dX12_isSecond_11 : decode cX12_isSecond 11 = .ok (.bipush 100, 2) := by decide +kernel
theorem dX12_isSecond_13 : decode cX12_isSecond 13 = .ok (.invokestatic 162, 3) := by decide +kernel
theorem dX12_isSecond_16 : decode cX12_isSecond 16 = .ok (.invokevirtual 166, 3) := by decide +kernel
theorem dX12_isSecond_19 : decode cX12_isSecond 19 = .ok (.ireturn, 1) := by decide +kernel
theorem dX12_isKept_0 : decode cX12_isKept 0 = .ok (.aload_n 0, 1) := by decide +kernel
theorem dX12_isKept_1 : decode cX12_isKept 1 = .ok (.invokevirtual 170, 3) := by decide +kernel
theorem dX12_isKept_4 : decode cX12_isKept 4 = .ok (.ifCond .ne 80, 3) := by decide +kernel
theorem dX12_isKept_7 : decode cX12_isKept 7 = .ok (.aload_n 0, 1) := by decide +kernel
theorem dX12_isKept_8 : decode cX12_isKept 8 = .ok (.invokevirtual 174, 3) := by decide +kernel
theorem dX12_isKept_11 : decode cX12_isKept 11 = .ok (.ifCond .ne 73, 3) := by decide +kernel
theorem dX12_isKept_14 : decode cX12_isKept 14 = .ok (.aload_n 0, 1) := by decide +kernel
theorem dX12_isKept_15 : decode cX12_isKept 15 = .ok (.invokevirtual 177, 3) := by decide +kernel
theorem dX12_isKept_18 : decode cX12_isKept 18 = .ok (.ifCond .ne 66, 3) := by decide +kernel
theorem dX12_isKept_21 : decode cX12_isKept 21 = .ok (.aload_n 0, 1) := by decide +kernel
theorem dX12_isKept_22 : decode cX12_isKept 22 = .ok (.invokevirtual 180, 3) := by decide +kernel
theorem dX12_isKept_25 : decode cX12_isKept 25 = .ok (.ifCond .ne 59, 3) := by decide +kernel
theorem dX12_isKept_28 : decode cX12_isKept 28 = .ok (.aload_n 0, 1) := by decide +kernel
theorem dX12_isKept_29 : decode cX12_isKept 29 = .ok (.invokevirtual 183, 3) := by decide +kernel
theorem dX12_isKept_32 : decode cX12_isKept 32 = .ok (.ifCond .ne 52, 3) := by decide +kernel
theorem dX12_isKept_35 : decode cX12_isKept 35 = .ok (.aload_n 0, 1) := by decide +kernel
theorem dX12_isKept_36 : decode cX12_isKept 36 = .ok (.invokevirtual 186, 3) := by decide +kernel
theorem dX12_isKept_39 : decode cX12_isKept 39 = .ok (.ifCond .ne 45, 3) := by decide +kernel
theorem dX12_isKept_42 : decode cX12_isKept 42 = .ok (.aload_n 0, 1) := by decide +kernel
theorem dX12_isKept_43 : decode cX12_isKept 43 = .ok (.invokevirtual 189, 3) := by decide +kernel
theorem dX12_isKept_46 : decode cX12_isKept 46 = .ok (.ifCond .ne 38, 3) := by decide +kernel
theorem dX12_isKept_49 : decode cX12_isKept 49 = .ok (.aload_n 0, 1) := by decide +kernel
theorem dX12_isKept_50 : decode cX12_isKept 50 = .ok (.invokevirtual 192, 3) := by decide +kernel
theorem dX12_isKept_53 : decode cX12_isKept 53 = .ok (.ifCond .ne 31, 3) := by decide +kernel
theorem dX12_isKept_56 : decode cX12_isKept 56 = .ok (.aload_n 0, 1) := by decide +kernel
theorem dX12_isKept_57 : decode cX12_isKept 57 = .ok (.invokevirtual 195, 3) := by decide +kernel
theorem dX12_isKept_60 : decode cX12_isKept 60 = .ok (.ifCond .ne 24, 3) := by decide +kernel
theorem dX12_isKept_63 : decode cX12_isKept 63 = .ok (.aload_n 0, 1) := by decide +kernel
theorem dX12_isKept_64 : decode cX12_isKept 64 = .ok (.invokevirtual 198, 3) := by decide +kernel
theorem dX12_isKept_67 : decode cX12_isKept 67 = .ok (.ifCond .ne 17, 3) := by decide +kernel
theorem dX12_isKept_70 : decode cX12_isKept 70 = .ok (.aload_n 0, 1) := by decide +kernel
theorem dX12_isKept_71 : decode cX12_isKept 71 = .ok (.invokevirtual 201, 3) := by decide +kernel
theorem dX12_isKept_74 : decode cX12_isKept 74 = .ok (.ifCond .ne 10, 3) := by decide +kernel
theorem dX12_isKept_77 : decode cX12_isKept 77 = .ok (.aload_n 0, 1) := by decide +kernel
theorem dX12_isKept_78 : decode cX12_isKept 78 = .ok (.invokevirtual 204, 3) := by decide +kernel
theorem dX12_isKept_81 : decode cX12_isKept 81 = .ok (.ifCond .eq 5, 3) := by decide +kernel
theorem dX12_isKept_84 : decode cX12_isKept 84 = .ok (.iconst 1, 1) := by decide +kernel
theorem dX12_isKept_85 : decode cX12_isKept 85 = .ok (.ireturn, 1) := by decide +kernel
theorem dX12_isKept_86 : decode cX12_isKept 86 = .ok (.aload_n 0, 1) := by decide +kernel
theorem dX12_isKept_87 : decode cX12_isKept 87 = .ok (.invokevirtual 207, 3) := by decide +kernel
theorem dX12_isKept_90 : decode cX12_isKept 90 = .ok (.ifCond .ne 59, 3) := by decide +kernel
theorem dX12_isKept_93 : decode cX12_isKept 93 = .ok (.aload_n 0, 1) := by decide +kernel
theorem dX12_isKept_94 : decode cX12_isKept 94 = .ok (.invokevirtual 210, 3) := by decide +kernel
theorem dX12_isKept_97 : decode cX12_isKept 97 = .ok (.ifCond .ne 52, 3) := by decide +kernel
theorem dX12_isKept_100 : decode cX12_isKept 100 = .ok (.aload_n 0, 1) := by decide +kernel
theorem dX12_isKept_101 : decode cX12_isKept 101 = .ok (.invokevirtual 213, 3) := by decide +kernel
theorem dX12_isKept_104 : decode cX12_isKept 104 = .ok (.ifCond .ne 45, 3) := by decide +kernel
theorem dX12_isKept_107 : decode cX12_isKept 107 = .ok (.aload_n 0, 1) := by decide +kernel
theorem dX12_isKept_108 : decode cX12_isKept 108 = .ok (.invokevirtual 216, 3) := by decide +kernel
theorem dX12_isKept_111 : decode cX12_isKept 111 = .ok (.ifCond .ne 38, 3) := by decide +kernel
theorem dX12_isKept_114 : decode cX12_isKept 114 = .ok (.aload_n 0, 1) := by decide +kernel
theorem dX12_isKept_115 : decode cX12_isKept 115 = .ok (.invokevirtual 219, 3) := by decide +kernel
theorem dX12_isKept_118 : decode cX12_isKept 118 = .ok (.ifCond .ne 31, 3) := by decide +kernel
theorem dX12_isKept_121 : decode cX12_isKept 121 = .ok (.aload_n 0, 1) := by decide +kernel
theorem dX12_isKept_122 : decode cX12_isKept 122 = .ok (.invokevirtual 222, 3) := by decide +kernel
theorem dX12_isKept_125 : decode cX12_isKept 125 = .ok (.ifCond .ne 24, 3) := by decide +kernel
theorem dX12_isKept_128 : decode cX12_isKept 128 = .ok (.aload_n 0, 1) := by decide +kernel
theorem dX12_isKept_129 : decode cX12_isKept 129 = .ok (.invokevirtual 225, 3) := by decide +kernel
theorem dX12_isKept_132 : decode cX12_isKept 132 = .ok (.ifCond .ne 17, 3) := by decide +kernel
theorem dX12_isKept_135 : decode cX12_isKept 135 = .ok (.aload_n 0, 1) := by decide +kernel
theorem dX12_isKept_136 : decode cX12_isKept 136 = .ok (.invokevirtual 228, 3) := by decide +kernel
theorem dX12_isKept_139 : decode cX12_isKept 139 = .ok (.ifCond .ne 10, 3) := by decide +kernel
theorem dX12_isKept_142 : decode cX12_isKept 142 = .ok (.aload_n 0, 1) := by decide +kernel
theorem dX12_isKept_143 : decode cX12_isKept 143 = .ok (.invokevirtual 231, 3) := by decide +kernel
theorem dX12_isKept_146 : decode cX12_isKept 146 = .ok (.ifCond .eq 7, 3) := by decide +kernel
theorem dX12_isKept_149 : decode cX12_isKept 149 = .ok (.iconst 1, 1) := by decide +kernel
theorem dX12_isKept_150 : decode cX12_isKept 150 = .ok (.goto 4, 3) := by decide +kernel
theorem dX12_isKept_153 : decode cX12_isKept 153 = .ok (.iconst 0, 1) := by decide +kernel
theorem dX12_isKept_154 : decode cX12_isKept 154 = .ok (.ireturn, 1) := by decide +kernel
theorem dX12_isName_0 : decode cX12_isName 0 = .ok (.aload_n 0, 1) := by decide +kernel
theorem dX12_isName_1 : decode cX12_isName 1 = .ok (.getfield 140, 3) := by decide +kernel
theorem dX12_isName_4 : decode cX12_isName 4 = .ok (.iconst 1, 1) := by decide +kernel
theorem dX12_isName_5 : decode cX12_isName 5 = .ok (.if_icmp .ne 23, 3) := by decide +kernel
theorem dX12_isName_8 : decode cX12_isName 8 = .ok (.aload_n 0, 1) := by decide +kernel
theorem dX12_isName_9 : decode cX12_isName 9 = .ok (.getfield 153, 3) := by decide +kernel
theorem dX12_isName_12 : decode cX12_isName 12 = .ok (.bipush 8, 2) := by decide +kernel
theorem dX12_isName_14 : decode cX12_isName 14 = .ok (.if_icmp .gt 14, 3) := by decide +kernel
theorem dX12_isName_17 : decode cX12_isName 17 = .ok (.aload_n 0, 1) := by decide +kernel
theorem dX12_isName_18 : decode cX12_isName 18 = .ok (.invokevirtual 234, 3) := by decide +kernel
theorem dX12_isName_21 : decode cX12_isName 21 = .ok (.ifCond .ne 7, 3) := by decide +kernel
theorem dX12_isName_24 : decode cX12_isName 24 = .ok (.iconst 1, 1) := by decide +kernel
theorem dX12_isName_25 : decode cX12_isName 25 = .ok (.goto 4, 3) := by decide +kernel
theorem dX12_isName_28 : decode cX12_isName 28 = .ok (.iconst 0, 1) := by decide +kernel
theorem dX12_isName_29 : decode cX12_isName 29 = .ok (.ireturn, 1) := by decide +kernel
theorem dX12_fail_0 : decode cX12_fail 0 = .ok (.aload_n 0, 1) := by decide +kernel
theorem dX12_fail_1 : decode cX12_fail 1 = .ok (.getfield 237, 3) := by decide +kernel
theorem dX12_fail_4 : decode cX12_fail 4 = .ok (.ifCond .le 4, 3) := by decide +kernel
theorem dX12_fail_7 : decode cX12_fail 7 = .ok (.return_, 1) := by decide +kernel
theorem dX12_fail_8 : decode cX12_fail 8 = .ok (.aload_n 0, 1) := by decide +kernel
theorem dX12_fail_9 : decode cX12_fail 9 = .ok (.iload_n 1, 1) := by decide +kernel
theorem dX12_fail_10 : decode cX12_fail 10 = .ok (.putfield 237, 3) := by decide +kernel
theorem dX12_fail_13 : decode cX12_fail 13 = .ok (.aload_n 0, 1) := by decide +kernel
theorem dX12_fail_14 : decode cX12_fail 14 = .ok (.iload_n 2, 1) := by decide +kernel
theorem dX12_fail_15 : decode cX12_fail 15 = .ok (.putfield 240, 3) := by decide +kernel
theorem dX12_fail_18 : decode cX12_fail 18 = .ok (.return_, 1) := by decide +kernel
theorem dX12_wrong_0 : decode cX12_wrong 0 = .ok (.aload_n 0, 1) := by decide +kernel
theorem dX12_wrong_1 : decode cX12_wrong 1 = .ok (.aload_n 0, 1) := by decide +kernel
theorem dX12_wrong_2 : decode cX12_wrong 2 = .ok (.getfield 140, 3) := by decide +kernel
theorem dX12_wrong_5 : decode cX12_wrong 5 = .ok (.iconst 4, 1) := by decide +kernel
theorem dX12_wrong_6 : decode cX12_wrong 6 = .ok (.if_icmp .ne 7, 3) := by decide +kernel
theorem dX12_wrong_9 : decode cX12_wrong 9 = .ok (.iconst 1, 1) := by decide +kernel
theorem dX12_wrong_10 : decode cX12_wrong 10 = .ok (.goto 4, 3) := by decide +kernel
theorem dX12_wrong_13 : decode cX12_wrong 13 = .ok (.iconst 2, 1) := by decide +kernel
theorem dX12_wrong_14 : decode cX12_wrong 14 = .ok (.aload_n 0, 1) := by decide +kernel
theorem dX12_wrong_15 : decode cX12_wrong 15 = .ok (.getfield 134, 3) := by decide +kernel
theorem dX12_wrong_18 : decode cX12_wrong 18 = .ok (.invokevirtual 243, 3) := by decide +kernel
theorem dX12_wrong_21 : decode cX12_wrong 21 = .ok (.return_, 1) := by decide +kernel
theorem dX12_must_0 : decode cX12_must 0 = .ok (.aload_n 0, 1) := by decide +kernel
theorem dX12_must_1 : decode cX12_must 1 = .ok (.getfield 237, 3) := by decide +kernel
theorem dX12_must_4 : decode cX12_must 4 = .ok (.ifCond .le 4, 3) := by decide +kernel
theorem dX12_must_7 : decode cX12_must 7 = .ok (.return_, 1) := by decide +kernel
theorem dX12_must_8 : decode cX12_must 8 = .ok (.iload_n 1, 1) := by decide +kernel
theorem dX12_must_9 : decode cX12_must 9 = .ok (.ifCond .eq 10, 3) := by decide +kernel
theorem dX12_must_12 : decode cX12_must 12 = .ok (.aload_n 0, 1) := by decide +kernel
theorem dX12_must_13 : decode cX12_must 13 = .ok (.invokevirtual 247, 3) := by decide +kernel
theorem dX12_must_16 : decode cX12_must 16 = .ok (.goto 7, 3) := by decide +kernel
theorem dX12_must_19 : decode cX12_must 19 = .ok (.aload_n 0, 1) := by decide +kernel
theorem dX12_must_20 : decode cX12_must 20 = .ok (.invokevirtual 250, 3) := by decide +kernel
theorem dX12_must_23 : decode cX12_must 23 = .ok (.return_, 1) := by decide +kernel
theorem dX12_count_0 : decode cX12_count 0 = .ok (.aload_n 0, 1) := by decide +kernel
theorem dX12_count_1 : decode cX12_count 1 = .ok (.getfield 237, 3) := by decide +kernel
theorem dX12_count_4 : decode cX12_count 4 = .ok (.ifCond .ne 15, 3) := by decide +kernel
theorem dX12_count_7 : decode cX12_count 7 = .ok (.aload_n 0, 1) := by decide +kernel
theorem dX12_count_8 : decode cX12_count 8 = .ok (.getfield 140, 3) := by decide +kernel
theorem dX12_count_11 : decode cX12_count 11 = .ok (.iconst 2, 1) := by decide +kernel
theorem dX12_count_12 : decode cX12_count 12 = .ok (.if_icmp .eq 7, 3) := by decide +kernel
theorem dX12_count_15 : decode cX12_count 15 = .ok (.aload_n 0, 1) := by decide +kernel
theorem dX12_count_16 : decode cX12_count 16 = .ok (.invokevirtual 250, 3) := by decide +kernel
theorem dX12_count_19 : decode cX12_count 19 = .ok (.aload_n 0, 1) := by decide +kernel
theorem dX12_count_20 : decode cX12_count 20 = .ok (.getfield 237, 3) := by decide +kernel
theorem dX12_count_23 : decode cX12_count 23 = .ok (.ifCond .ne 27, 3) := by decide +kernel
theorem dX12_count_26 : decode cX12_count 26 = .ok (.aload_n 0, 1) := by decide +kernel
theorem dX12_count_27 : decode cX12_count 27 = .ok (.getfield 159, 3) := by decide +kernel
theorem dX12_count_30 : decode cX12_count 30 = .ok (.i2l, 1) := by decide +kernel
theorem dX12_count_31 : decode cX12_count 31 = .ok (.iload_n 1, 1) := by decide +kernel
theorem dX12_count_32 : decode cX12_count 32 = .ok (.i2l, 1) := by decide +kernel
theorem dX12_count_33 : decode cX12_count 33 = .ok (.iload_n 2, 1) := by decide +kernel
theorem dX12_count_34 : decode cX12_count 34 = .ok (.i2l, 1) := by decide +kernel
theorem dX12_count_35 : decode cX12_count 35 = .ok (.invokestatic 124, 3) := by decide +kernel
theorem dX12_count_38 : decode cX12_count 38 = .ok (.ifCond .ne 12, 3) := by decide +kernel
theorem dX12_count_41 : decode cX12_count 41 = .ok (.aload_n 0, 1) := by decide +kernel
theorem dX12_count_42 : decode cX12_count 42 = .ok (.iconst 4, 1) := by decide +kernel
theorem dX12_count_43 : decode cX12_count 43 = .ok (.aload_n 0, 1) := by decide +kernel
theorem dX12_count_44 : decode cX12_count 44 = .ok (.getfield 134, 3) := by decide +kernel
theorem dX12_count_47 : decode cX12_count 47 = .ok (.invokevirtual 243, 3) := by decide +kernel
theorem dX12_count_50 : decode cX12_count 50 = .ok (.aload_n 0, 1) := by decide +kernel
theorem dX12_count_51 : decode cX12_count 51 = .ok (.getfield 237, 3) := by decide +kernel
theorem dX12_count_54 : decode cX12_count 54 = .ok (.ifCond .le 5, 3) := by decide +kernel
theorem dX12_count_57 : decode cX12_count 57 = .ok (.iconst 0, 1) := by decide +kernel
theorem dX12_count_58 : decode cX12_count 58 = .ok (.ireturn, 1) := by decide +kernel
theorem dX12_count_59 : decode cX12_count 59 = .ok (.aload_n 0, 1) := by decide +kernel
theorem dX12_count_60 : decode cX12_count 60 = .ok (.getfield 159, 3) := by decide +kernel
theorem dX12_count_63 : decode cX12_count 63 = .ok (.istore_n 3, 1) := by decide +kernel
theorem dX12_count_64 : decode cX12_count 64 = .ok (.aload_n 0, 1) := by decide +kernel
theorem dX12_count_65 : decode cX12_count 65 = .ok (.invokevirtual 247, 3) := by decide +kernel
theorem dX12_count_68 : decode cX12_count 68 = .ok (.iload_n 3, 1) := by decide +kernel
theorem dX12_count_69 : decode cX12_count 69 = .ok (.ireturn, 1) := by decide +kernel
theorem dX12_feed_0 : decode cX12_feed 0 = .ok (.aload_n 0, 1) := by decide +kernel
theorem dX12_feed_1 : decode cX12_feed 1 = .ok (.iconst 0, 1) := by decide +kernel
theorem dX12_feed_2 : decode cX12_feed 2 = .ok (.putfield 89, 3) := by decide +kernel
theorem dX12_feed_5 : decode cX12_feed 5 = .ok (.aload_n 0, 1) := by decide +kernel
theorem dX12_feed_6 : decode cX12_feed 6 = .ok (.getfield 253, 3) := by decide +kernel
theorem dX12_feed_9 : decode cX12_feed 9 = .ok (.bipush 20, 2) := by decide +kernel
theorem dX12_feed_11 : decode cX12_feed 11 = .ok (.iadd, 1) := by decide +kernel
theorem dX12_feed_12 : decode cX12_feed 12 = .ok (.sipush 900, 3) := by decide +kernel
theorem dX12_feed_15 : decode cX12_feed 15 = .ok (.if_icmp .le 5, 3) := by decide +kernel
theorem dX12_feed_18 : decode cX12_feed 18 = .ok (.iconst (-1), 1) := by decide +kernel
theorem dX12_feed_19 : decode cX12_feed 19 = .ok (.ireturn, 1) := by decide +kernel
theorem dX12_feed_20 : decode cX12_feed 20 = .ok (.aload_n 0, 1) := by decide +kernel
theorem dX12_feed_21 : decode cX12_feed 21 = .ok (.iload_n 1, 1) := by decide +kernel
theorem dX12_feed_22 : decode cX12_feed 22 = .ok (.invokevirtual 256, 3) := by decide +kernel
theorem dX12_feed_25 : decode cX12_feed 25 = .ok (.aload_n 0, 1) := by decide +kernel
theorem dX12_feed_26 : decode cX12_feed 26 = .ok (.iload_n 2, 1) := by decide +kernel
theorem dX12_feed_27 : decode cX12_feed 27 = .ok (.invokevirtual 256, 3) := by decide +kernel
theorem dX12_feed_30 : decode cX12_feed 30 = .ok (.aload_n 0, 1) := by decide +kernel
theorem dX12_feed_31 : decode cX12_feed 31 = .ok (.iload_n 3, 1) := by decide +kernel
theorem dX12_feed_32 : decode cX12_feed 32 = .ok (.invokevirtual 256, 3) := by decide +kernel
theorem dX12_feed_35 : decode cX12_feed 35 = .ok (.aload_n 0, 1) := by decide +kernel
theorem dX12_feed_36 : decode cX12_feed 36 = .ok (.iload 4, 2) := by decide +kernel
theorem dX12_feed_38 : decode cX12_feed 38 = .ok (.invokevirtual 256, 3) := by decide +kernel
theorem dX12_feed_41 : decode cX12_feed 41 = .ok (.aload_n 0, 1) := by decide +kernel
theorem dX12_feed_42 : decode cX12_feed 42 = .ok (.iload 5, 2) := by decide +kernel
theorem dX12_feed_44 : decode cX12_feed 44 = .ok (.invokevirtual 256, 3) := by decide +kernel
theorem dX12_feed_47 : decode cX12_feed 47 = .ok (.aload_n 0, 1) := by decide +kernel
theorem dX12_feed_48 : decode cX12_feed 48 = .ok (.getfield 253, 3) := by decide +kernel
theorem dX12_feed_51 : decode cX12_feed 51 = .ok (.ireturn, 1) := by decide +kernel
theorem dX12_lay_0 : decode cX12_lay 0 = .ok (.iconst 3, 1) := by decide +kernel
theorem dX12_lay_1 : decode cX12_lay 1 = .ok (.istore_n 2, 1) := by decide +kernel
theorem dX12_lay_2 : decode cX12_lay 2 = .ok (.iload_n 2, 1) := by decide +kernel
theorem dX12_lay_3 : decode cX12_lay 3 = .ok (.ifCond .lt 35, 3) := by decide +kernel
theorem dX12_lay_6 : decode cX12_lay 6 = .ok (.aload_n 0, 1) := by decide +kernel
theorem dX12_lay_7 : decode cX12_lay 7 = .ok (.getfield 24, 3) := by decide +kernel
theorem dX12_lay_10 : decode cX12_lay 10 = .ok (.aload_n 0, 1) := by decide +kernel
theorem dX12_lay_11 : decode cX12_lay 11 = .ok (.getfield 253, 3) := by decide +kernel
theorem dX12_lay_14 : decode cX12_lay 14 = .ok (.iload_n 1, 1) := by decide +kernel
theorem dX12_lay_15 : decode cX12_lay 15 = .ok (.bipush 8, 2) := by decide +kernel
theorem dX12_lay_17 : decode cX12_lay 17 = .ok (.iload_n 2, 1) := by decide +kernel
theorem dX12_lay_18 : decode cX12_lay 18 = .ok (.imul, 1) := by decide +kernel
theorem dX12_lay_19 : decode cX12_lay 19 = .ok (.ishr, 1) := by decide +kernel
theorem dX12_lay_20 : decode cX12_lay 20 = .ok (.i2b, 1) := by decide +kernel
theorem dX12_lay_21 : decode cX12_lay 21 = .ok (.bastore, 1) := by decide +kernel
theorem dX12_lay_22 : decode cX12_lay 22 = .ok (.aload_n 0, 1) := by decide +kernel
theorem dX12_lay_23 : decode cX12_lay 23 = .ok (.dup, 1) := by decide +kernel
theorem dX12_lay_24 : decode cX12_lay 24 = .ok (.getfield 253, 3) := by decide +kernel
theorem dX12_lay_27 : decode cX12_lay 27 = .ok (.iconst 1, 1) := by decide +kernel
theorem dX12_lay_28 : decode cX12_lay 28 = .ok (.iadd, 1) := by decide +kernel
theorem dX12_lay_29 : decode cX12_lay 29 = .ok (.putfield 253, 3) := by decide +kernel
theorem dX12_lay_32 : decode cX12_lay 32 = .ok (.iinc 2 (-1), 3) := by decide +kernel
theorem dX12_lay_35 : decode cX12_lay 35 = .ok (.goto (-33), 3) := by decide +kernel
theorem dX12_lay_38 : decode cX12_lay 38 = .ok (.return_, 1) := by decide +kernel
theorem dX12_opens_0 : decode cX12_opens 0 = .ok (.iload_n 1, 1) := by decide +kernel
theorem dX12_opens_1 : decode cX12_opens 1 = .ok (.ifCond .lt 16, 3) := by decide +kernel
theorem dX12_opens_4 : decode cX12_opens 4 = .ok (.iload_n 1, 1) := by decide +kernel
theorem dX12_opens_5 : decode cX12_opens 5 = .ok (.aload_n 0, 1) := by decide +kernel
theorem dX12_opens_6 : decode cX12_opens 6 = .ok (.getfield 253, 3) := by decide +kernel
theorem dX12_opens_9 : decode cX12_opens 9 = .ok (.if_icmp .gt 8, 3) := by decide +kernel
theorem dX12_opens_12 : decode cX12_opens 12 = .ok (.iload_n 1, 1) := by decide +kernel
theorem dX12_opens_13 : decode cX12_opens 13 = .ok (.iload_n 2, 1) := by decide +kernel
theorem dX12_opens_14 : decode cX12_opens 14 = .ok (.if_icmp .le 9, 3) := by decide +kernel
theorem dX12_opens_17 : decode cX12_opens 17 = .ok (.aload_n 0, 1) := by decide +kernel
theorem dX12_opens_18 : decode cX12_opens 18 = .ok (.iconst 5, 1) := by decide +kernel
theorem dX12_opens_19 : decode cX12_opens 19 = .ok (.invokevirtual 104, 3) := by decide +kernel
theorem dX12_opens_22 : decode cX12_opens 22 = .ok (.ireturn, 1) := by decide +kernel
theorem dX12_opens_23 : decode cX12_opens 23 = .ok (.aload_n 0, 1) := by decide +kernel
theorem dX12_opens_24 : decode cX12_opens 24 = .ok (.iload_n 1, 1) := by decide +kernel
theorem dX12_opens_25 : decode cX12_opens 25 = .ok (.putfield 128, 3) := by decide +kernel
theorem dX12_opens_28 : decode cX12_opens 28 = .ok (.aload_n 0, 1) := by decide +kernel
theorem dX12_opens_29 : decode cX12_opens 29 = .ok (.iconst 0, 1) := by decide +kernel
theorem dX12_opens_30 : decode cX12_opens 30 = .ok (.putfield 253, 3) := by decide +kernel
theorem dX12_opens_33 : decode cX12_opens 33 = .ok (.aload_n 0, 1) := by decide +kernel
theorem dX12_opens_34 : decode cX12_opens 34 = .ok (.iconst 0, 1) := by decide +kernel
theorem dX12_opens_35 : decode cX12_opens 35 = .ok (.putfield 131, 3) := by decide +kernel
theorem dX12_opens_38 : decode cX12_opens 38 = .ok (.aload_n 0, 1) := by decide +kernel
theorem dX12_opens_39 : decode cX12_opens 39 = .ok (.iconst 0, 1) := by decide +kernel
theorem dX12_opens_40 : decode cX12_opens 40 = .ok (.putfield 237, 3) := by decide +kernel
theorem dX12_opens_43 : decode cX12_opens 43 = .ok (.aload_n 0, 1) := by decide +kernel
theorem dX12_opens_44 : decode cX12_opens 44 = .ok (.invokevirtual 247, 3) := by decide +kernel
theorem dX12_opens_47 : decode cX12_opens 47 = .ok (.iconst 1, 1) := by decide +kernel
theorem dX12_opens_48 : decode cX12_opens 48 = .ok (.ireturn, 1) := by decide +kernel
theorem dX12_isWell_0 : decode cX12_isWell 0 = .ok (.aload_n 0, 1) := by decide +kernel
theorem dX12_isWell_1 : decode cX12_isWell 1 = .ok (.aload_n 0, 1) := by decide +kernel
theorem dX12_isWell_2 : decode cX12_isWell 2 = .ok (.getfield 237, 3) := by decide +kernel
theorem dX12_isWell_5 : decode cX12_isWell 5 = .ok (.putfield 28, 3) := by decide +kernel
theorem dX12_isWell_8 : decode cX12_isWell 8 = .ok (.aload_n 0, 1) := by decide +kernel
theorem dX12_isWell_9 : decode cX12_isWell 9 = .ok (.aload_n 0, 1) := by decide +kernel
theorem dX12_isWell_10 : decode cX12_isWell 10 = .ok (.getfield 237, 3) := by decide +kernel
theorem dX12_isWell_13 : decode cX12_isWell 13 = .ok (.ifCond .ne 7, 3) := by decide +kernel
theorem dX12_isWell_16 : decode cX12_isWell 16 = .ok (.iconst (-1), 1) := by decide +kernel
theorem dX12_isWell_17 : decode cX12_isWell 17 = .ok (.goto 7, 3) := by decide +kernel
theorem dX12_isWell_20 : decode cX12_isWell 20 = .ok (.aload_n 0, 1) := by decide +kernel
theorem dX12_isWell_21 : decode cX12_isWell 21 = .ok (.getfield 240, 3) := by decide +kernel
theorem dX12_isWell_24 : decode cX12_isWell 24 = .ok (.putfield 32, 3) := by decide +kernel
theorem dX12_isWell_27 : decode cX12_isWell 27 = .ok (.aload_n 0, 1) := by decide +kernel
theorem dX12_isWell_28 : decode cX12_isWell 28 = .ok (.getfield 237, 3) := by decide +kernel
theorem dX12_isWell_31 : decode cX12_isWell 31 = .ok (.ifCond .eq 12, 3) := by decide +kernel
theorem dX12_isWell_34 : decode cX12_isWell 34 = .ok (.aload_n 0, 1) := by decide +kernel
theorem dX12_isWell_35 : decode cX12_isWell 35 = .ok (.bipush 10, 2) := by decide +kernel
theorem dX12_isWell_37 : decode cX12_isWell 37 = .ok (.invokevirtual 104, 3) := by decide +kernel
theorem dX12_isWell_40 : decode cX12_isWell 40 = .ok (.ifCond .eq 7, 3) := by decide +kernel
theorem dX12_isWell_43 : decode cX12_isWell 43 = .ok (.iconst 1, 1) := by decide +kernel
theorem dX12_isWell_44 : decode cX12_isWell 44 = .ok (.goto 4, 3) := by decide +kernel
theorem dX12_isWell_47 : decode cX12_isWell 47 = .ok (.iconst 0, 1) := by decide +kernel
theorem dX12_isWell_48 : decode cX12_isWell 48 = .ok (.ireturn, 1) := by decide +kernel
theorem dX12_fault_0 : decode cX12_fault 0 = .ok (.aload_n 0, 1) := by decide +kernel
theorem dX12_fault_1 : decode cX12_fault 1 = .ok (.iconst 0, 1) := by decide +kernel
theorem dX12_fault_2 : decode cX12_fault 2 = .ok (.putfield 89, 3) := by decide +kernel
theorem dX12_fault_5 : decode cX12_fault 5 = .ok (.iload_n 1, 1) := by decide +kernel
theorem dX12_fault_6 : decode cX12_fault 6 = .ok (.ifCond .ne 10, 3) := by decide +kernel
theorem dX12_fault_9 : decode cX12_fault 9 = .ok (.aload_n 0, 1) := by decide +kernel
theorem dX12_fault_10 : decode cX12_fault 10 = .ok (.getfield 28, 3) := by decide +kernel
theorem dX12_fault_13 : decode cX12_fault 13 = .ok (.goto 16, 3) := by decide +kernel
theorem dX12_fault_16 : decode cX12_fault 16 = .ok (.iload_n 1, 1) := by decide +kernel
theorem dX12_fault_17 : decode cX12_fault 17 = .ok (.iconst 1, 1) := by decide +kernel
theorem dX12_fault_18 : decode cX12_fault 18 = .ok (.if_icmp .ne 10, 3) := by decide +kernel
theorem dX12_fault_21 : decode cX12_fault 21 = .ok (.aload_n 0, 1) := by decide +kernel
theorem dX12_fault_22 : decode cX12_fault 22 = .ok (.getfield 32, 3) := by decide +kernel
theorem dX12_fault_25 : decode cX12_fault 25 = .ok (.goto 4, 3) := by decide +kernel
theorem dX12_fault_28 : decode cX12_fault 28 = .ok (.iconst (-1), 1) := by decide +kernel
theorem dX12_fault_29 : decode cX12_fault 29 = .ok (.ireturn, 1) := by decide +kernel
theorem dX12_named_0 : decode cX12_named 0 = .ok (.iconst 0, 1) := by decide +kernel
theorem dX12_named_1 : decode cX12_named 1 = .ok (.istore_n 3, 1) := by decide +kernel
theorem dX12_named_2 : decode cX12_named 2 = .ok (.iload_n 3, 1) := by decide +kernel
theorem dX12_named_3 : decode cX12_named 3 = .ok (.iload_n 2, 1) := by decide +kernel
theorem dX12_named_4 : decode cX12_named 4 = .ok (.if_icmp .ge 27, 3) := by decide +kernel
theorem dX12_named_7 : decode cX12_named 7 = .ok (.aload_n 0, 1) := by decide +kernel
theorem dX12_named_8 : decode cX12_named 8 = .ok (.getfield 38, 3) := by decide +kernel
theorem dX12_named_11 : decode cX12_named 11 = .ok (.iload_n 1, 1) := by decide +kernel
theorem dX12_named_12 : decode cX12_named 12 = .ok (.iload_n 3, 1) := by decide +kernel
theorem dX12_named_13 : decode cX12_named 13 = .ok (.iadd, 1) := by decide +kernel
theorem dX12_named_14 : decode cX12_named 14 = .ok (.laload, 1) := by decide +kernel
theorem dX12_named_15 : decode cX12_named 15 = .ok (.aload_n 0, 1) := by decide +kernel
theorem dX12_named_16 : decode cX12_named 16 = .ok (.getfield 146, 3) := by decide +kernel
theorem dX12_named_19 : decode cX12_named 19 = .ok (.lcmp, 1) := by decide +kernel
theorem dX12_named_20 : decode cX12_named 20 = .ok (.ifCond .ne 5, 3) := by decide +kernel
theorem dX12_named_23 : decode cX12_named 23 = .ok (.iload_n 3, 1) := by decide +kernel
theorem dX12_named_24 : decode cX12_named 24 = .ok (.ireturn, 1) := by decide +kernel
theorem dX12_named_25 : decode cX12_named 25 = .ok (.iinc 3 1, 3) := by decide +kernel
theorem dX12_named_28 : decode cX12_named 28 = .ok (.goto (-26), 3) := by decide +kernel
theorem dX12_named_31 : decode cX12_named 31 = .ok (.iconst (-1), 1) := by decide +kernel
theorem dX12_named_32 : decode cX12_named 32 = .ok (.ireturn, 1) := by decide +kernel
theorem dX12_readNew_0 : decode cX12_readNew 0 = .ok (.aload_n 0, 1) := by decide +kernel
theorem dX12_readNew_1 : decode cX12_readNew 1 = .ok (.invokevirtual 247, 3) := by decide +kernel
theorem dX12_readNew_4 : decode cX12_readNew 4 = .ok (.aload_n 0, 1) := by decide +kernel
theorem dX12_readNew_5 : decode cX12_readNew 5 = .ok (.invokevirtual 260, 3) := by decide +kernel
theorem dX12_readNew_8 : decode cX12_readNew 8 = .ok (.ifCond .ne 7, 3) := by decide +kernel
theorem dX12_readNew_11 : decode cX12_readNew 11 = .ok (.aload_n 0, 1) := by decide +kernel
theorem dX12_readNew_12 : decode cX12_readNew 12 = .ok (.invokevirtual 250, 3) := by decide +kernel
theorem dX12_readNew_15 : decode cX12_readNew 15 = .ok (.aload_n 0, 1) := by decide +kernel
theorem dX12_readNew_16 : decode cX12_readNew 16 = .ok (.getfield 237, 3) := by decide +kernel
theorem dX12_readNew_19 : decode cX12_readNew 19 = .ok (.ifCond .ne 45, 3) := by decide +kernel
theorem dX12_readNew_22 : decode cX12_readNew 22 = .ok (.aload_n 0, 1) := by decide +kernel
theorem dX12_readNew_23 : decode cX12_readNew 23 = .ok (.iconst 0, 1) := by decide +kernel
theorem dX12_readNew_24 : decode cX12_readNew 24 = .ok (.aload_n 0, 1) := by decide +kernel
theorem dX12_readNew_25 : decode cX12_readNew 25 = .ok (.getfield 35, 3) := by decide +kernel
theorem dX12_readNew_28 : decode cX12_readNew 28 = .ok (.sipush 1481, 3) := by decide +kernel
theorem dX12_readNew_31 : decode cX12_readNew 31 = .ok (.iaload, 1) := by decide +kernel
theorem dX12_readNew_32 : decode cX12_readNew 32 = .ok (.invokevirtual 263, 3) := by decide +kernel
theorem dX12_readNew_35 : decode cX12_readNew 35 = .ok (.ifCond .ge 20, 3) := by decide +kernel
theorem dX12_readNew_38 : decode cX12_readNew 38 = .ok (.aload_n 0, 1) := by decide +kernel
theorem dX12_readNew_39 : decode cX12_readNew 39 = .ok (.bipush 8, 2) := by decide +kernel
theorem dX12_readNew_41 : decode cX12_readNew 41 = .ok (.aload_n 0, 1) := by decide +kernel
theorem dX12_readNew_42 : decode cX12_readNew 42 = .ok (.getfield 35, 3) := by decide +kernel
theorem dX12_readNew_45 : decode cX12_readNew 45 = .ok (.sipush 1482, 3) := by decide +kernel
theorem dX12_readNew_48 : decode cX12_readNew 48 = .ok (.iaload, 1) := by decide +kernel
theorem dX12_readNew_49 : decode cX12_readNew 49 = .ok (.invokevirtual 263, 3) := by decide +kernel
theorem dX12_readNew_52 : decode cX12_readNew 52 = .ok (.ifCond .lt 12, 3) := by decide +kernel
theorem dX12_readNew_55 : decode cX12_readNew 55 = .ok (.aload_n 0, 1) := by decide +kernel
theorem dX12_readNew_56 : decode cX12_readNew 56 = .ok (.iconst 3, 1) := by decide +kernel
theorem dX12_readNew_57 : decode cX12_readNew 57 = .ok (.aload_n 0, 1) := by decide +kernel
theorem dX12_readNew_58 : decode cX12_readNew 58 = .ok (.getfield 134, 3) := by decide +kernel
theorem dX12_readNew_61 : decode cX12_readNew 61 = .ok (.invokevirtual 243, 3) := by decide +kernel
theorem dX12_readNew_64 : decode cX12_readNew 64 = .ok (.aload_n 0, 1) := by decide +kernel
theorem dX12_readNew_65 : decode cX12_readNew 65 = .ok (.getfield 237, 3) := by decide +kernel
theorem dX12_readNew_68 : decode cX12_readNew 68 = .ok (.ifCond .le 4, 3) := by decide +kernel
theorem dX12_readNew_71 : decode cX12_readNew 71 = .ok (.return_, 1) := by decide +kernel
theorem dX12_readNew_72 : decode cX12_readNew 72 = .ok (.aload_n 0, 1) := by decide +kernel
theorem dX12_readNew_73 : decode cX12_readNew 73 = .ok (.getfield 38, 3) := by decide +kernel
theorem dX12_readNew_76 : decode cX12_readNew 76 = .ok (.iload_n 1, 1) := by decide +kernel
theorem dX12_readNew_77 : decode cX12_readNew 77 = .ok (.iload_n 2, 1) := by decide +kernel
theorem dX12_readNew_78 : decode cX12_readNew 78 = .ok (.iadd, 1) := by decide +kernel
theorem dX12_readNew_79 : decode cX12_readNew 79 = .ok (.aload_n 0, 1) := by decide +kernel
theorem dX12_readNew_80 : decode cX12_readNew 80 = .ok (.getfield 146, 3) := by decide +kernel
theorem dX12_readNew_83 : decode cX12_readNew 83 = .ok (.lastore, 1) := by decide +kernel
theorem dX12_readNew_84 : decode cX12_readNew 84 = .ok (.aload_n 0, 1) := by decide +kernel
theorem dX12_readNew_85 : decode cX12_readNew 85 = .ok (.invokevirtual 247, 3) := by decide +kernel
theorem dX12_readNew_88 : decode cX12_readNew 88 = .ok (.return_, 1) := by decide +kernel
theorem dX12_readTold_0 : decode cX12_readTold 0 = .ok (.aload_n 0, 1) := by decide +kernel
theorem dX12_readTold_1 : decode cX12_readTold 1 = .ok (.getfield 237, 3) := by decide +kernel
theorem dX12_readTold_4 : decode cX12_readTold 4 = .ok (.ifCond .ne 14, 3) := by decide +kernel
theorem dX12_readTold_7 : decode cX12_readTold 7 = .ok (.aload_n 0, 1) := by decide +kernel
theorem dX12_readTold_8 : decode cX12_readTold 8 = .ok (.invokevirtual 260, 3) := by decide +kernel
theorem dX12_readTold_11 : decode cX12_readTold 11 = .ok (.ifCond .ne 7, 3) := by decide +kernel
theorem dX12_readTold_14 : decode cX12_readTold 14 = .ok (.aload_n 0, 1) := by decide +kernel
theorem dX12_readTold_15 : decode cX12_readTold 15 = .ok (.invokevirtual 250, 3) := by decide +kernel
theorem dX12_readTold_18 : decode cX12_readTold 18 = .ok (.aload_n 0, 1) := by decide +kernel
theorem dX12_readTold_19 : decode cX12_readTold 19 = .ok (.getfield 237, 3) := by decide +kernel
theorem dX12_readTold_22 : decode cX12_readTold 22 = .ok (.ifCond .ne 12, 3) := by decide +kernel
theorem dX12_readTold_25 : decode cX12_readTold 25 = .ok (.aload_n 0, 1) := by decide +kernel
theorem dX12_readTold_26 : decode cX12_readTold 26 = .ok (.iload_n 1, 1) := by decide +kernel
theorem dX12_readTold_27 : decode cX12_readTold 27 = .ok (.iload_n 2, 1) := by decide +kernel
theorem dX12_readTold_28 : decode cX12_readTold 28 = .ok (.invokevirtual 263, 3) := by decide +kernel
theorem dX12_readTold_31 : decode cX12_readTold 31 = .ok (.goto 4, 3) := by decide +kernel
theorem dX12_readTold_34 : decode cX12_readTold 34 = .ok (.iconst 0, 1) := by decide +kernel
theorem dX12_readTold_35 : decode cX12_readTold 35 = .ok (.istore_n 3, 1) := by decide +kernel
theorem dX12_readTold_36 : decode cX12_readTold 36 = .ok (.aload_n 0, 1) := by decide +kernel
theorem dX12_readTold_37 : decode cX12_readTold 37 = .ok (.getfield 237, 3) := by decide +kernel
theorem dX12_readTold_40 : decode cX12_readTold 40 = .ok (.ifCond .ne 16, 3) := by decide +kernel
theorem dX12_readTold_43 : decode cX12_readTold 43 = .ok (.iload_n 3, 1) := by decide +kernel
theorem dX12_readTold_44 : decode cX12_readTold 44 = .ok (.ifCond .ge 12, 3) := by decide +kernel
theorem dX12_readTold_47 : decode cX12_readTold 47 = .ok (.aload_n 0, 1) := by decide +kernel
theorem dX12_readTold_48 : decode cX12_readTold 48 = .ok (.iconst 3, 1) := by decide +kernel
theorem dX12_readTold_49 : decode cX12_readTold 49 = .ok (.aload_n 0, 1) := by decide +kernel
theorem dX12_readTold_50 : decode cX12_readTold 50 = .ok (.getfield 134, 3) := by decide +kernel
theorem dX12_readTold_53 : decode cX12_readTold 53 = .ok (.invokevirtual 243, 3) := by decide +kernel
theorem dX12_readTold_56 : decode cX12_readTold 56 = .ok (.iload_n 3, 1) := by decide +kernel
theorem dX12_readTold_57 : decode cX12_readTold 57 = .ok (.ireturn, 1) := by decide +kernel
theorem dX12_readSound_0 : decode cX12_readSound 0 = .ok (.aload_n 0, 1) := by decide +kernel
theorem dX12_readSound_1 : decode cX12_readSound 1 = .ok (.getfield 35, 3) := by decide +kernel
theorem dX12_readSound_4 : decode cX12_readSound 4 = .ok (.sipush 1481, 3) := by decide +kernel
theorem dX12_readSound_7 : decode cX12_readSound 7 = .ok (.iaload, 1) := by decide +kernel
theorem dX12_readSound_8 : decode cX12_readSound 8 = .ok (.istore_n 1, 1) := by decide +kernel
theorem dX12_readSound_9 : decode cX12_readSound 9 = .ok (.iload_n 1, 1) := by decide +kernel
theorem dX12_readSound_10 : decode cX12_readSound 10 = .ok (.bipush 8, 2) := by decide +kernel
theorem dX12_readSound_12 : decode cX12_readSound 12 = .ok (.if_icmp .ne 13, 3) := by decide +kernel
theorem dX12_readSound_15 : decode cX12_readSound 15 = .ok (.aload_n 0, 1) := by decide +kernel
theorem dX12_readSound_16 : decode cX12_readSound 16 = .ok (.bipush 6, 2) := by decide +kernel
theorem dX12_readSound_18 : decode cX12_readSound 18 = .ok (.aload_n 0, 1) := by decide +kernel
theorem dX12_readSound_19 : decode cX12_readSound 19 = .ok (.getfield 134, 3) := by decide +kernel
theorem dX12_readSound_22 : decode cX12_readSound 22 = .ok (.invokevirtual 243, 3) := by decide +kernel
theorem dX12_readSound_25 : decode cX12_readSound 25 = .ok (.aload_n 0, 1) := by decide +kernel
theorem dX12_readSound_26 : decode cX12_readSound 26 = .ok (.getfield 237, 3) := by decide +kernel
theorem dX12_readSound_29 : decode cX12_readSound 29 = .ok (.ifCond .le 4, 3) := by decide +kernel
theorem dX12_readSound_32 : decode cX12_readSound 32 = .ok (.return_, 1) := by decide +kernel
theorem dX12_readSound_33 : decode cX12_readSound 33 = .ok (.aload_n 0, 1) := by decide +kernel
theorem dX12_readSound_34 : decode cX12_readSound 34 = .ok (.iconst 0, 1) := by decide +kernel
theorem dX12_readSound_35 : decode cX12_readSound 35 = .ok (.iload_n 1, 1) := by decide +kernel
theorem dX12_readSound_36 : decode cX12_readSound 36 = .ok (.invokevirtual 266, 3) := by decide +kernel
theorem dX12_readSound_39 : decode cX12_readSound 39 = .ok (.aload_n 0, 1) := by decide +kernel
theorem dX12_readSound_40 : decode cX12_readSound 40 = .ok (.getfield 237, 3) := by decide +kernel
theorem dX12_readSound_43 : decode cX12_readSound 43 = .ok (.ifCond .ne 24, 3) := by decide +kernel
theorem dX12_readSound_46 : decode cX12_readSound 46 = .ok (.aload_n 0, 1) := by decide +kernel
theorem dX12_readSound_47 : decode cX12_readSound 47 = .ok (.getfield 140, 3) := by decide +kernel
theorem dX12_readSound_50 : decode cX12_readSound 50 = .ok (.iconst 1, 1) := by decide +kernel
theorem dX12_readSound_51 : decode cX12_readSound 51 = .ok (.if_icmp .ne 12, 3) := by decide +kernel
theorem dX12_readSound_54 : decode cX12_readSound 54 = .ok (.aload_n 0, 1) := by decide +kernel
theorem dX12_readSound_55 : decode cX12_readSound 55 = .ok (.getfield 153, 3) := by decide +kernel
theorem dX12_readSound_58 : decode cX12_readSound 58 = .ok (.bipush 16, 2) := by decide +kernel
theorem dX12_readSound_60 : decode cX12_readSound 60 = .ok (.if_icmp .le 7, 3) := by decide +kernel
theorem dX12_readSound_63 : decode cX12_readSound 63 = .ok (.aload_n 0, 1) := by decide +kernel
theorem dX12_readSound_64 : decode cX12_readSound 64 = .ok (.invokevirtual 250, 3) := by decide +kernel
theorem dX12_readSound_67 : decode cX12_readSound 67 = .ok (.aload_n 0, 1) := by decide +kernel
theorem dX12_readSound_68 : decode cX12_readSound 68 = .ok (.getfield 237, 3) := by decide +kernel
theorem dX12_readSound_71 : decode cX12_readSound 71 = .ok (.ifCond .le 4, 3) := by decide +kernel
theorem dX12_readSound_74 : decode cX12_readSound 74 = .ok (.return_, 1) := by decide +kernel
theorem dX12_readSound_75 : decode cX12_readSound 75 = .ok (.aload_n 0, 1) := by decide +kernel
theorem dX12_readSound_76 : decode cX12_readSound 76 = .ok (.getfield 35, 3) := by decide +kernel
theorem dX12_readSound_79 : decode cX12_readSound 79 = .ok (.sipush 1484, 3) := by decide +kernel
theorem dX12_readSound_82 : decode cX12_readSound 82 = .ok (.iload_n 1, 1) := by decide +kernel
theorem dX12_readSound_83 : decode cX12_readSound 83 = .ok (.iadd, 1) := by decide +kernel
theorem dX12_readSound_84 : decode cX12_readSound 84 = .ok (.aload_n 0, 1) := by decide +kernel
theorem dX12_readSound_85 : decode cX12_readSound 85 = .ok (.getfield 153, 3) := by decide +kernel
theorem dX12_readSound_88 : decode cX12_readSound 88 = .ok (.iastore, 1) := by decide +kernel
theorem dX12_readSound_89 : decode cX12_readSound 89 = .ok (.iconst 0, 1) := by decide +kernel
theorem dX12_readSound_90 : decode cX12_readSound 90 = .ok (.istore_n 2, 1) := by decide +kernel
theorem dX12_readSound_91 : decode cX12_readSound 91 = .ok (.iload_n 2, 1) := by decide +kernel
theorem dX12_readSound_92 : decode cX12_readSound 92 = .ok (.aload_n 0, 1) := by decide +kernel
theorem dX12_readSound_93 : decode cX12_readSound 93 = .ok (.getfield 153, 3) := by decide +kernel
theorem dX12_readSound_96 : decode cX12_readSound 96 = .ok (.if_icmp .ge 37, 3) := by decide +kernel
theorem dX12_readSound_99 : decode cX12_readSound 99 = .ok (.aload_n 0, 1) := by decide +kernel
theorem dX12_readSound_100 : decode cX12_readSound 100 = .ok (.getfield 35, 3) := by decide +kernel
theorem dX12_readSound_103 : decode cX12_readSound 103 = .ok (.sipush 1492, 3) := by decide +kernel
theorem dX12_readSound_106 : decode cX12_readSound 106 = .ok (.bipush 16, 2) := by decide +kernel
theorem dX12_readSound_108 : decode cX12_readSound 108 = .ok (.iload_n 1, 1) := by decide +kernel
theorem dX12_readSound_109 : decode cX12_readSound 109 = .ok (.imul, 1) := by decide +kernel
theorem dX12_readSound_110 : decode cX12_readSound 110 = .ok (.iadd, 1) := by decide +kernel
theorem dX12_readSound_111 : decode cX12_readSound 111 = .ok (.iload_n 2, 1) := by decide +kernel
theorem dX12_readSound_112 : decode cX12_readSound 112 = .ok (.iadd, 1) := by decide +kernel
theorem dX12_readSound_113 : decode cX12_readSound 113 = .ok (.aload_n 0, 1) := by decide +kernel
theorem dX12_readSound_114 : decode cX12_readSound 114 = .ok (.aload_n 0, 1) := by decide +kernel
theorem dX12_readSound_115 : decode cX12_readSound 115 = .ok (.getfield 134, 3) := by decide +kernel
theorem dX12_readSound_118 : decode cX12_readSound 118 = .ok (.iload_n 2, 1) := by decide +kernel
theorem dX12_readSound_119 : decode cX12_readSound 119 = .ok (.iadd, 1) := by decide +kernel
theorem dX12_readSound_120 : decode cX12_readSound 120 = .ok (.invokevirtual 137, 3) := by decide +kernel
theorem dX12_readSound_123 : decode cX12_readSound 123 = .ok (.bipush 96, 2) := by decide +kernel
theorem dX12_readSound_125 : decode cX12_readSound 125 = .ok (.isub, 1) := by decide +kernel
theorem dX12_readSound_126 : decode cX12_readSound 126 = .ok (.iastore, 1) := by decide +kernel
theorem dX12_readSound_127 : decode cX12_readSound 127 = .ok (.iinc 2 1, 3) := by decide +kernel
theorem dX12_readSound_130 : decode cX12_readSound 130 = .ok (.goto (-39), 3) := by decide +kernel
theorem dX12_readSound_133 : decode cX12_readSound 133 = .ok (.aload_n 0, 1) := by decide +kernel
theorem dX12_readSound_134 : decode cX12_readSound 134 = .ok (.invokevirtual 247, 3) := by decide +kernel
theorem dX12_readSound_137 : decode cX12_readSound 137 = .ok (.aload_n 0, 1) := by decide +kernel
theorem dX12_readSound_138 : decode cX12_readSound 138 = .ok (.getfield 35, 3) := by decide +kernel
theorem dX12_readSound_141 : decode cX12_readSound 141 = .ok (.sipush 1481, 3) := by decide +kernel
theorem dX12_readSound_144 : decode cX12_readSound 144 = .ok (.dup2, 1) := by decide +kernel
theorem dX12_readSound_145 : decode cX12_readSound 145 = .ok (.iaload, 1) := by decide +kernel
theorem dX12_readSound_146 : decode cX12_readSound 146 = .ok (.iconst 1, 1) := by decide +kernel
theorem dX12_readSound_147 : decode cX12_readSound 147 = .ok (.iadd, 1) := by decide +kernel
theorem dX12_readSound_148 : decode cX12_readSound 148 = .ok (.iastore, 1) := by decide +kernel
theorem dX12_readSound_149 : decode cX12_readSound 149 = .ok (.return_, 1) := by decide +kernel
theorem dX12_told_0 : decode cX12_told 0 = .ok (.aload_n 0, 1) := by decide +kernel
theorem dX12_told_1 : decode cX12_told 1 = .ok (.getfield 237, 3) := by decide +kernel
theorem dX12_told_4 : decode cX12_told 4 = .ok (.ifCond .gt 7, 3) := by decide +kernel
theorem dX12_told_7 : decode cX12_told 7 = .ok (.iload_n 1, 1) := by decide +kernel
theorem dX12_told_8 : decode cX12_told 8 = .ok (.ifCond .ne 5, 3) := by decide +kernel
theorem dX12_told_11 : decode cX12_told 11 = .ok (.iload_n 2, 1) := by decide +kernel
theorem dX12_told_12 : decode cX12_told 12 = .ok (.ireturn, 1) := by decide +kernel
theorem dX12_told_13 : decode cX12_told 13 = .ok (.aload_n 0, 1) := by decide +kernel
theorem dX12_told_14 : decode cX12_told 14 = .ok (.invokevirtual 247, 3) := by decide +kernel
theorem dX12_told_17 : decode cX12_told 17 = .ok (.aload_n 0, 1) := by decide +kernel
theorem dX12_told_18 : decode cX12_told 18 = .ok (.iload_n 3, 1) := by decide +kernel
theorem dX12_told_19 : decode cX12_told 19 = .ok (.iload 4, 2) := by decide +kernel
theorem dX12_told_21 : decode cX12_told 21 = .ok (.invokevirtual 269, 3) := by decide +kernel
theorem dX12_told_24 : decode cX12_told 24 = .ok (.ireturn, 1) := by decide +kernel
theorem dX12_readJar_0 : decode cX12_readJar 0 = .ok (.aload_n 0, 1) := by decide +kernel
theorem dX12_readJar_1 : decode cX12_readJar 1 = .ok (.getfield 35, 3) := by decide +kernel
theorem dX12_readJar_4 : decode cX12_readJar 4 = .ok (.sipush 1482, 3) := by decide +kernel
theorem dX12_readJar_7 : decode cX12_readJar 7 = .ok (.iaload, 1) := by decide +kernel
theorem dX12_readJar_8 : decode cX12_readJar 8 = .ok (.istore_n 1, 1) := by decide +kernel
theorem dX12_readJar_9 : decode cX12_readJar 9 = .ok (.iload_n 1, 1) := by decide +kernel
theorem dX12_readJar_10 : decode cX12_readJar 10 = .ok (.bipush 8, 2) := by decide +kernel
theorem dX12_readJar_12 : decode cX12_readJar 12 = .ok (.if_icmp .ne 13, 3) := by decide +kernel
theorem dX12_readJar_15 : decode cX12_readJar 15 = .ok (.aload_n 0, 1) := by decide +kernel
theorem dX12_readJar_16 : decode cX12_readJar 16 = .ok (.bipush 6, 2) := by decide +kernel
theorem dX12_readJar_18 : decode cX12_readJar 18 = .ok (.aload_n 0, 1) := by decide +kernel
theorem dX12_readJar_19 : decode cX12_readJar 19 = .ok (.getfield 134, 3) := by decide +kernel
theorem dX12_readJar_22 : decode cX12_readJar 22 = .ok (.invokevirtual 243, 3) := by decide +kernel
theorem dX12_readJar_25 : decode cX12_readJar 25 = .ok (.aload_n 0, 1) := by decide +kernel
theorem dX12_readJar_26 : decode cX12_readJar 26 = .ok (.getfield 237, 3) := by decide +kernel
theorem dX12_readJar_29 : decode cX12_readJar 29 = .ok (.ifCond .le 4, 3) := by decide +kernel
theorem dX12_readJar_32 : decode cX12_readJar 32 = .ok (.return_, 1) := by decide +kernel
theorem dX12_readJar_33 : decode cX12_readJar 33 = .ok (.aload_n 0, 1) := by decide +kernel
theorem dX12_readJar_34 : decode cX12_readJar 34 = .ok (.bipush 8, 2) := by decide +kernel
theorem dX12_readJar_36 : decode cX12_readJar 36 = .ok (.iload_n 1, 1) := by decide +kernel
theorem dX12_readJar_37 : decode cX12_readJar 37 = .ok (.invokevirtual 266, 3) := by decide +kernel
theorem dX12_readJar_40 : decode cX12_readJar 40 = .ok (.aload_n 0, 1) := by decide +kernel
theorem dX12_readJar_41 : decode cX12_readJar 41 = .ok (.aload_n 0, 1) := by decide +kernel
theorem dX12_readJar_42 : decode cX12_readJar 42 = .ok (.invokevirtual 177, 3) := by decide +kernel
theorem dX12_readJar_45 : decode cX12_readJar 45 = .ok (.invokevirtual 272, 3) := by decide +kernel
theorem dX12_readJar_48 : decode cX12_readJar 48 = .ok (.aload_n 0, 1) := by decide +kernel
theorem dX12_readJar_49 : decode cX12_readJar 49 = .ok (.getfield 35, 3) := by decide +kernel
theorem dX12_readJar_52 : decode cX12_readJar 52 = .ok (.sipush 1620, 3) := by decide +kernel
theorem dX12_readJar_55 : decode cX12_readJar 55 = .ok (.iload_n 1, 1) := by decide +kernel
theorem dX12_readJar_56 : decode cX12_readJar 56 = .ok (.iadd, 1) := by decide +kernel
theorem dX12_readJar_57 : decode cX12_readJar 57 = .ok (.aload_n 0, 1) := by decide +kernel
theorem dX12_readJar_58 : decode cX12_readJar 58 = .ok (.iconst 1, 1) := by decide +kernel
theorem dX12_readJar_59 : decode cX12_readJar 59 = .ok (.bipush 12, 2) := by decide +kernel
theorem dX12_readJar_61 : decode cX12_readJar 61 = .ok (.invokevirtual 269, 3) := by decide +kernel
theorem dX12_readJar_64 : decode cX12_readJar 64 = .ok (.iastore, 1) := by decide +kernel
theorem dX12_readJar_65 : decode cX12_readJar 65 = .ok (.aload_n 0, 1) := by decide +kernel
theorem dX12_readJar_66 : decode cX12_readJar 66 = .ok (.aload_n 0, 1) := by decide +kernel
theorem dX12_readJar_67 : decode cX12_readJar 67 = .ok (.invokevirtual 180, 3) := by decide +kernel
theorem dX12_readJar_70 : decode cX12_readJar 70 = .ok (.invokevirtual 272, 3) := by decide +kernel
theorem dX12_readJar_73 : decode cX12_readJar 73 = .ok (.aload_n 0, 1) := by decide +kernel
theorem dX12_readJar_74 : decode cX12_readJar 74 = .ok (.getfield 35, 3) := by decide +kernel
theorem dX12_readJar_77 : decode cX12_readJar 77 = .ok (.sipush 1628, 3) := by decide +kernel
theorem dX12_readJar_80 : decode cX12_readJar 80 = .ok (.iload_n 1, 1) := by decide +kernel
theorem dX12_readJar_81 : decode cX12_readJar 81 = .ok (.iadd, 1) := by decide +kernel
theorem dX12_readJar_82 : decode cX12_readJar 82 = .ok (.aload_n 0, 1) := by decide +kernel
theorem dX12_readJar_83 : decode cX12_readJar 83 = .ok (.iconst 0, 1) := by decide +kernel
theorem dX12_readJar_84 : decode cX12_readJar 84 = .ok (.bipush 99, 2) := by decide +kernel
theorem dX12_readJar_86 : decode cX12_readJar 86 = .ok (.invokevirtual 269, 3) := by decide +kernel
theorem dX12_readJar_89 : decode cX12_readJar 89 = .ok (.iastore, 1) := by decide +kernel
theorem dX12_readJar_90 : decode cX12_readJar 90 = .ok (.aload_n 0, 1) := by decide +kernel
theorem dX12_readJar_91 : decode cX12_readJar 91 = .ok (.getfield 237, 3) := by decide +kernel
theorem dX12_readJar_94 : decode cX12_readJar 94 = .ok (.ifCond .ne 14, 3) := by decide +kernel
theorem dX12_readJar_97 : decode cX12_readJar 97 = .ok (.aload_n 0, 1) := by decide +kernel
theorem dX12_readJar_98 : decode cX12_readJar 98 = .ok (.invokevirtual 183, 3) := by decide +kernel
theorem dX12_readJar_101 : decode cX12_readJar 101 = .ok (.ifCond .eq 7, 3) := by decide +kernel
theorem dX12_readJar_104 : decode cX12_readJar 104 = .ok (.iconst 1, 1) := by decide +kernel
theorem dX12_readJar_105 : decode cX12_readJar 105 = .ok (.goto 4, 3) := by decide +kernel
theorem dX12_readJar_108 : decode cX12_readJar 108 = .ok (.iconst 0, 1) := by decide +kernel
theorem dX12_readJar_109 : decode cX12_readJar 109 = .ok (.istore_n 2, 1) := by decide +kernel
theorem dX12_readJar_110 : decode cX12_readJar 110 = .ok (.iload_n 2, 1) := by decide +kernel
theorem dX12_readJar_111 : decode cX12_readJar 111 = .ok (.ifCond .eq 7, 3) := by decide +kernel
theorem dX12_readJar_114 : decode cX12_readJar 114 = .ok (.aload_n 0, 1) := by decide +kernel
theorem dX12_readJar_115 : decode cX12_readJar 115 = .ok (.invokevirtual 247, 3) := by decide +kernel
theorem dX12_readJar_118 : decode cX12_readJar 118 = .ok (.aload_n 0, 1) := by decide +kernel
theorem dX12_readJar_119 : decode cX12_readJar 119 = .ok (.getfield 237, 3) := by decide +kernel
theorem dX12_readJar_122 : decode cX12_readJar 122 = .ok (.ifCond .ne 14, 3) := by decide +kernel
theorem dX12_readJar_125 : decode cX12_readJar 125 = .ok (.aload_n 0, 1) := by decide +kernel
theorem dX12_readJar_126 : decode cX12_readJar 126 = .ok (.invokevirtual 186, 3) := by decide +kernel
theorem dX12_readJar_129 : decode cX12_readJar 129 = .ok (.ifCond .eq 7, 3) := by decide +kernel
theorem dX12_readJar_132 : decode cX12_readJar 132 = .ok (.iconst 1, 1) := by decide +kernel
theorem dX12_readJar_133 : decode cX12_readJar 133 = .ok (.goto 4, 3) := by decide +kernel
theorem dX12_readJar_136 : decode cX12_readJar 136 = .ok (.iconst 0, 1) := by decide +kernel
theorem dX12_readJar_137 : decode cX12_readJar 137 = .ok (.istore_n 3, 1) := by decide +kernel
theorem dX12_readJar_138 : decode cX12_readJar 138 = .ok (.iload_n 3, 1) := by decide +kernel
theorem dX12_readJar_139 : decode cX12_readJar 139 = .ok (.ifCond .eq 7, 3) := by decide +kernel
theorem dX12_readJar_142 : decode cX12_readJar 142 = .ok (.aload_n 0, 1) := by decide +kernel
theorem dX12_readJar_143 : decode cX12_readJar 143 = .ok (.invokevirtual 247, 3) := by decide +kernel
theorem dX12_readJar_146 : decode cX12_readJar 146 = .ok (.aload_n 0, 1) := by decide +kernel
theorem dX12_readJar_147 : decode cX12_readJar 147 = .ok (.getfield 35, 3) := by decide +kernel
theorem dX12_readJar_150 : decode cX12_readJar 150 = .ok (.sipush 1636, 3) := by decide +kernel
theorem dX12_readJar_153 : decode cX12_readJar 153 = .ok (.iload_n 1, 1) := by decide +kernel
theorem dX12_readJar_154 : decode cX12_readJar 154 = .ok (.iadd, 1) := by decide +kernel
theorem dX12_readJar_155 : decode cX12_readJar 155 = .ok (.iload_n 2, 1) := by decide +kernel
theorem dX12_readJar_156 : decode cX12_readJar 156 = .ok (.iload_n 3, 1) := by decide +kernel
theorem dX12_readJar_157 : decode cX12_readJar 157 = .ok (.if_icmp .ne 7, 3) := by decide +kernel
theorem dX12_readJar_160 : decode cX12_readJar 160 = .ok (.iconst 2, 1) := by decide +kernel
theorem dX12_readJar_161 : decode cX12_readJar 161 = .ok (.goto 12, 3) := by decide +kernel
theorem dX12_readJar_164 : decode cX12_readJar 164 = .ok (.iload_n 2, 1) := by decide +kernel
theorem dX12_readJar_165 : decode cX12_readJar 165 = .ok (.ifCond .eq 7, 3) := by decide +kernel
theorem dX12_readJar_168 : decode cX12_readJar 168 = .ok (.iconst 0, 1) := by decide +kernel
theorem dX12_readJar_169 : decode cX12_readJar 169 = .ok (.goto 4, 3) := by decide +kernel
theorem dX12_readJar_172 : decode cX12_readJar 172 = .ok (.iconst 1, 1) := by decide +kernel
theorem dX12_readJar_173 : decode cX12_readJar 173 = .ok (.iastore, 1) := by decide +kernel
theorem dX12_readJar_174 : decode cX12_readJar 174 = .ok (.aload_n 0, 1) := by decide +kernel
theorem dX12_readJar_175 : decode cX12_readJar 175 = .ok (.getfield 35, 3) := by decide +kernel
theorem dX12_readJar_178 : decode cX12_readJar 178 = .ok (.sipush 1644, 3) := by decide +kernel
theorem dX12_readJar_181 : decode cX12_readJar 181 = .ok (.iload_n 1, 1) := by decide +kernel
theorem dX12_readJar_182 : decode cX12_readJar 182 = .ok (.iadd, 1) := by decide +kernel
theorem dX12_readJar_183 : decode cX12_readJar 183 = .ok (.aload_n 0, 1) := by decide +kernel
theorem dX12_readJar_184 : decode cX12_readJar 184 = .ok (.aload_n 0, 1) := by decide +kernel
theorem dX12_readJar_185 : decode cX12_readJar 185 = .ok (.invokevirtual 189, 3) := by decide +kernel
theorem dX12_readJar_188 : decode cX12_readJar 188 = .ok (.iconst 0, 1) := by decide +kernel
theorem dX12_readJar_189 : decode cX12_readJar 189 = .ok (.iconst 0, 1) := by decide +kernel
theorem dX12_readJar_190 : decode cX12_readJar 190 = .ok (.bipush 99, 2) := by decide +kernel
theorem dX12_readJar_192 : decode cX12_readJar 192 = .ok (.invokevirtual 276, 3) := by decide +kernel
theorem dX12_readJar_195 : decode cX12_readJar 195 = .ok (.iastore, 1) := by decide +kernel
theorem dX12_readJar_196 : decode cX12_readJar 196 = .ok (.aload_n 0, 1) := by decide +kernel
theorem dX12_readJar_197 : decode cX12_readJar 197 = .ok (.getfield 35, 3) := by decide +kernel
theorem dX12_readJar_200 : decode cX12_readJar 200 = .ok (.sipush 1652, 3) := by decide +kernel
theorem dX12_readJar_203 : decode cX12_readJar 203 = .ok (.iload_n 1, 1) := by decide +kernel
theorem dX12_readJar_204 : decode cX12_readJar 204 = .ok (.iadd, 1) := by decide +kernel
theorem dX12_readJar_205 : decode cX12_readJar 205 = .ok (.aload_n 0, 1) := by decide +kernel
theorem dX12_readJar_206 : decode cX12_readJar 206 = .ok (.aload_n 0, 1) := by decide +kernel
theorem dX12_readJar_207 : decode cX12_readJar 207 = .ok (.invokevirtual 192, 3) := by decide +kernel
theorem dX12_readJar_210 : decode cX12_readJar 210 = .ok (.iconst 1, 1) := by decide +kernel
theorem dX12_readJar_211 : decode cX12_readJar 211 = .ok (.iconst 0, 1) := by decide +kernel
theorem dX12_readJar_212 : decode cX12_readJar 212 = .ok (.bipush 99, 2) := by decide +kernel
theorem dX12_readJar_214 : decode cX12_readJar 214 = .ok (.invokevirtual 276, 3) := by decide +kernel
theorem dX12_readJar_217 : decode cX12_readJar 217 = .ok (.iastore, 1) := by decide +kernel
theorem dX12_readJar_218 : decode cX12_readJar 218 = .ok (.aload_n 0, 1) := by decide +kernel
theorem dX12_readJar_219 : decode cX12_readJar 219 = .ok (.getfield 35, 3) := by decide +kernel
theorem dX12_readJar_222 : decode cX12_readJar 222 = .ok (.sipush 1660, 3) := by decide +kernel
theorem dX12_readJar_225 : decode cX12_readJar 225 = .ok (.iload_n 1, 1) := by decide +kernel
theorem dX12_readJar_226 : decode cX12_readJar 226 = .ok (.iadd, 1) := by decide +kernel
theorem dX12_readJar_227 : decode cX12_readJar 227 = .ok (.aload_n 0, 1) := by decide +kernel
theorem dX12_readJar_228 : decode cX12_readJar 228 = .ok (.aload_n 0, 1) := by decide +kernel
theorem dX12_readJar_229 : decode cX12_readJar 229 = .ok (.invokevirtual 195, 3) := by decide +kernel
theorem dX12_readJar_232 : decode cX12_readJar 232 = .ok (.iconst 0, 1) := by decide +kernel
theorem dX12_readJar_233 : decode cX12_readJar 233 = .ok (.iconst 0, 1) := by decide +kernel
theorem dX12_readJar_234 : decode cX12_readJar 234 = .ok (.bipush 15, 2) := by decide +kernel
theorem dX12_readJar_236 : decode cX12_readJar 236 = .ok (.invokevirtual 276, 3) := by decide +kernel
theorem dX12_readJar_239 : decode cX12_readJar 239 = .ok (.iastore, 1) := by decide +kernel
theorem dX12_readJar_240 : decode cX12_readJar 240 = .ok (.aload_n 0, 1) := by decide +kernel
theorem dX12_readJar_241 : decode cX12_readJar 241 = .ok (.getfield 237, 3) := by decide +kernel
theorem dX12_readJar_244 : decode cX12_readJar 244 = .ok (.ifCond .ne 15, 3) := by decide +kernel
theorem dX12_readJar_247 : decode cX12_readJar 247 = .ok (.aload_n 0, 1) := by decide +kernel
theorem dX12_readJar_248 : decode cX12_readJar 248 = .ok (.getfield 35, 3) := by decide +kernel
theorem dX12_readJar_251 : decode cX12_readJar 251 = .ok (.sipush 1482, 3) := by decide +kernel
theorem dX12_readJar_254 : decode cX12_readJar 254 = .ok (.dup2, 1) := by decide +kernel
theorem dX12_readJar_255 : decode cX12_readJar 255 = .ok (.iaload, 1) := by decide +kernel
theorem dX12_readJar_256 : decode cX12_readJar 256 = .ok (.iconst 1, 1) := by decide +kernel
theorem dX12_readJar_257 : decode cX12_readJar 257 = .ok (.iadd, 1) := by decide +kernel
theorem dX12_readJar_258 : decode cX12_readJar 258 = .ok (.iastore, 1) := by decide +kernel
theorem dX12_readJar_259 : decode cX12_readJar 259 = .ok (.return_, 1) := by decide +kernel
theorem dX12_readFill_0 : decode cX12_readFill 0 = .ok (.aload_n 0, 1) := by decide +kernel
theorem dX12_readFill_1 : decode cX12_readFill 1 = .ok (.invokevirtual 247, 3) := by decide +kernel
theorem dX12_readFill_4 : decode cX12_readFill 4 = .ok (.aload_n 0, 1) := by decide +kernel
theorem dX12_readFill_5 : decode cX12_readFill 5 = .ok (.bipush 8, 2) := by decide +kernel
theorem dX12_readFill_7 : decode cX12_readFill 7 = .ok (.aload_n 0, 1) := by decide +kernel
theorem dX12_readFill_8 : decode cX12_readFill 8 = .ok (.getfield 35, 3) := by decide +kernel
theorem dX12_readFill_11 : decode cX12_readFill 11 = .ok (.sipush 1482, 3) := by decide +kernel
theorem dX12_readFill_14 : decode cX12_readFill 14 = .ok (.iaload, 1) := by decide +kernel
theorem dX12_readFill_15 : decode cX12_readFill 15 = .ok (.invokevirtual 280, 3) := by decide +kernel
theorem dX12_readFill_18 : decode cX12_readFill 18 = .ok (.istore_n 1, 1) := by decide +kernel
theorem dX12_readFill_19 : decode cX12_readFill 19 = .ok (.aload_n 0, 1) := by decide +kernel
theorem dX12_readFill_20 : decode cX12_readFill 20 = .ok (.getfield 237, 3) := by decide +kernel
theorem dX12_readFill_23 : decode cX12_readFill 23 = .ok (.ifCond .ne 25, 3) := by decide +kernel
theorem dX12_readFill_26 : decode cX12_readFill 26 = .ok (.aload_n 0, 1) := by decide +kernel
theorem dX12_readFill_27 : decode cX12_readFill 27 = .ok (.getfield 35, 3) := by decide +kernel
theorem dX12_readFill_30 : decode cX12_readFill 30 = .ok (.sipush 1668, 3) := by decide +kernel
theorem dX12_readFill_33 : decode cX12_readFill 33 = .ok (.iload_n 1, 1) := by decide +kernel
theorem dX12_readFill_34 : decode cX12_readFill 34 = .ok (.iadd, 1) := by decide +kernel
theorem dX12_readFill_35 : decode cX12_readFill 35 = .ok (.iaload, 1) := by decide +kernel
theorem dX12_readFill_36 : decode cX12_readFill 36 = .ok (.ifCond .le 12, 3) := by decide +kernel
theorem dX12_readFill_39 : decode cX12_readFill 39 = .ok (.aload_n 0, 1) := by decide +kernel
theorem dX12_readFill_40 : decode cX12_readFill 40 = .ok (.iconst 5, 1) := by decide +kernel
theorem dX12_readFill_41 : decode cX12_readFill 41 = .ok (.aload_n 0, 1) := by decide +kernel
theorem dX12_readFill_42 : decode cX12_readFill 42 = .ok (.getfield 134, 3) := by decide +kernel
theorem dX12_readFill_45 : decode cX12_readFill 45 = .ok (.invokevirtual 243, 3) := by decide +kernel
theorem dX12_readFill_48 : decode cX12_readFill 48 = .ok (.aload_n 0, 1) := by decide +kernel
theorem dX12_readFill_49 : decode cX12_readFill 49 = .ok (.iconst 1, 1) := by decide +kernel
theorem dX12_readFill_50 : decode cX12_readFill 50 = .ok (.invokevirtual 272, 3) := by decide +kernel
theorem dX12_readFill_53 : decode cX12_readFill 53 = .ok (.aload_n 0, 1) := by decide +kernel
theorem dX12_readFill_54 : decode cX12_readFill 54 = .ok (.aload_n 0, 1) := by decide +kernel
theorem dX12_readFill_55 : decode cX12_readFill 55 = .ok (.invokevirtual 201, 3) := by decide +kernel
theorem dX12_readFill_58 : decode cX12_readFill 58 = .ok (.invokevirtual 272, 3) := by decide +kernel
theorem dX12_readFill_61 : decode cX12_readFill 61 = .ok (.aload_n 0, 1) := by decide +kernel
theorem dX12_readFill_62 : decode cX12_readFill 62 = .ok (.iconst 0, 1) := by decide +kernel
theorem dX12_readFill_63 : decode cX12_readFill 63 = .ok (.aload_n 0, 1) := by decide +kernel
theorem dX12_readFill_64 : decode cX12_readFill 64 = .ok (.getfield 35, 3) := by decide +kernel
theorem dX12_readFill_67 : decode cX12_readFill 67 = .ok (.sipush 1481, 3) := by decide +kernel
theorem dX12_readFill_70 : decode cX12_readFill 70 = .ok (.iaload, 1) := by decide +kernel
theorem dX12_readFill_71 : decode cX12_readFill 71 = .ok (.invokevirtual 280, 3) := by decide +kernel
theorem dX12_readFill_74 : decode cX12_readFill 74 = .ok (.istore_n 2, 1) := by decide +kernel
theorem dX12_readFill_75 : decode cX12_readFill 75 = .ok (.aload_n 0, 1) := by decide +kernel
theorem dX12_readFill_76 : decode cX12_readFill 76 = .ok (.iconst 1, 1) := by decide +kernel
theorem dX12_readFill_77 : decode cX12_readFill 77 = .ok (.invokevirtual 272, 3) := by decide +kernel
theorem dX12_readFill_80 : decode cX12_readFill 80 = .ok (.aload_n 0, 1) := by decide +kernel
theorem dX12_readFill_81 : decode cX12_readFill 81 = .ok (.aload_n 0, 1) := by decide +kernel
theorem dX12_readFill_82 : decode cX12_readFill 82 = .ok (.invokevirtual 204, 3) := by decide +kernel
theorem dX12_readFill_85 : decode cX12_readFill 85 = .ok (.invokevirtual 272, 3) := by decide +kernel
theorem dX12_readFill_88 : decode cX12_readFill 88 = .ok (.aload_n 0, 1) := by decide +kernel
theorem dX12_readFill_89 : decode cX12_readFill 89 = .ok (.iconst 0, 1) := by decide +kernel
theorem dX12_readFill_90 : decode cX12_readFill 90 = .ok (.aload_n 0, 1) := by decide +kernel
theorem dX12_readFill_91 : decode cX12_readFill 91 = .ok (.getfield 237, 3) := by decide +kernel
theorem dX12_readFill_94 : decode cX12_readFill 94 = .ok (.ifCond .ne 18, 3) := by decide +kernel
theorem dX12_readFill_97 : decode cX12_readFill 97 = .ok (.aload_n 0, 1) := by decide +kernel
theorem dX12_readFill_98 : decode cX12_readFill 98 = .ok (.getfield 35, 3) := by decide +kernel
theorem dX12_readFill_101 : decode cX12_readFill 101 = .ok (.sipush 1484, 3) := by decide +kernel
theorem dX12_readFill_104 : decode cX12_readFill 104 = .ok (.iload_n 2, 1) := by decide +kernel
theorem dX12_readFill_105 : decode cX12_readFill 105 = .ok (.iadd, 1) := by decide +kernel
theorem dX12_readFill_106 : decode cX12_readFill 106 = .ok (.iaload, 1) := by decide +kernel
theorem dX12_readFill_107 : decode cX12_readFill 107 = .ok (.iconst 1, 1) := by decide +kernel
theorem dX12_readFill_108 : decode cX12_readFill 108 = .ok (.isub, 1) := by decide +kernel
theorem dX12_readFill_109 : decode cX12_readFill 109 = .ok (.goto 4, 3) := by decide +kernel
theorem dX12_readFill_112 : decode cX12_readFill 112 = .ok (.iconst 0, 1) := by decide +kernel
theorem dX12_readFill_113 : decode cX12_readFill 113 = .ok (.invokevirtual 269, 3) := by decide +kernel
theorem dX12_readFill_116 : decode cX12_readFill 116 = .ok (.istore_n 3, 1) := by decide +kernel
theorem dX12_readFill_117 : decode cX12_readFill 117 = .ok (.aload_n 0, 1) := by decide +kernel
theorem dX12_readFill_118 : decode cX12_readFill 118 = .ok (.aload_n 0, 1) := by decide +kernel
theorem dX12_readFill_119 : decode cX12_readFill 119 = .ok (.invokevirtual 207, 3) := by decide +kernel
theorem dX12_readFill_122 : decode cX12_readFill 122 = .ok (.invokevirtual 272, 3) := by decide +kernel
theorem dX12_readFill_125 : decode cX12_readFill 125 = .ok (.aload_n 0, 1) := by decide +kernel
theorem dX12_readFill_126 : decode cX12_readFill 126 = .ok (.iconst 0, 1) := by decide +kernel
theorem dX12_readFill_127 : decode cX12_readFill 127 = .ok (.sipush 999, 3) := by decide +kernel
theorem dX12_readFill_130 : decode cX12_readFill 130 = .ok (.invokevirtual 269, 3) := by decide +kernel
theorem dX12_readFill_133 : decode cX12_readFill 133 = .ok (.istore 4, 2) := by decide +kernel
theorem dX12_readFill_135 : decode cX12_readFill 135 = .ok (.aload_n 0, 1) := by decide +kernel
theorem dX12_readFill_136 : decode cX12_readFill 136 = .ok (.getfield 237, 3) := by decide +kernel
theorem dX12_readFill_139 : decode cX12_readFill 139 = .ok (.ifCond .le 4, 3) := by decide +kernel
theorem dX12_readFill_142 : decode cX12_readFill 142 = .ok (.return_, 1) := by decide +kernel
theorem dX12_readFill_143 : decode cX12_readFill 143 = .ok (.aload_n 0, 1) := by decide +kernel
theorem dX12_readFill_144 : decode cX12_readFill 144 = .ok (.getfield 35, 3) := by decide +kernel
theorem dX12_readFill_147 : decode cX12_readFill 147 = .ok (.sipush 1620, 3) := by decide +kernel
theorem dX12_readFill_150 : decode cX12_readFill 150 = .ok (.iload_n 1, 1) := by decide +kernel
theorem dX12_readFill_151 : decode cX12_readFill 151 = .ok (.iadd, 1) := by decide +kernel
theorem dX12_readFill_152 : decode cX12_readFill 152 = .ok (.iaload, 1) := by decide +kernel
theorem dX12_readFill_153 : decode cX12_readFill 153 = .ok (.aload_n 0, 1) := by decide +kernel
theorem dX12_readFill_154 : decode cX12_readFill 154 = .ok (.getfield 35, 3) := by decide +kernel
theorem dX12_readFill_157 : decode cX12_readFill 157 = .ok (.sipush 1484, 3) := by decide +kernel
theorem dX12_readFill_160 : decode cX12_readFill 160 = .ok (.iload_n 2, 1) := by decide +kernel
theorem dX12_readFill_161 : decode cX12_readFill 161 = .ok (.iadd, 1) := by decide +kernel
theorem dX12_readFill_162 : decode cX12_readFill 162 = .ok (.iaload, 1) := by decide +kernel
theorem dX12_readFill_163 : decode cX12_readFill 163 = .ok (.iload_n 3, 1) := by decide +kernel
theorem dX12_readFill_164 : decode cX12_readFill 164 = .ok (.isub, 1) := by decide +kernel
theorem dX12_readFill_165 : decode cX12_readFill 165 = .ok (.invokestatic 283, 3) := by decide +kernel
theorem dX12_readFill_168 : decode cX12_readFill 168 = .ok (.istore 5, 2) := by decide +kernel
theorem dX12_readFill_170 : decode cX12_readFill 170 = .ok (.aload_n 0, 1) := by decide +kernel
theorem dX12_readFill_171 : decode cX12_readFill 171 = .ok (.getfield 35, 3) := by decide +kernel
theorem dX12_readFill_174 : decode cX12_readFill 174 = .ok (.sipush 1668, 3) := by decide +kernel
theorem dX12_readFill_177 : decode cX12_readFill 177 = .ok (.iload_n 1, 1) := by decide +kernel
theorem dX12_readFill_178 : decode cX12_readFill 178 = .ok (.iadd, 1) := by decide +kernel
theorem dX12_readFill_179 : decode cX12_readFill 179 = .ok (.iload 5, 2) := by decide +kernel
theorem dX12_readFill_181 : decode cX12_readFill 181 = .ok (.iastore, 1) := by decide +kernel
theorem dX12_readFill_182 : decode cX12_readFill 182 = .ok (.aload_n 0, 1) := by decide +kernel
theorem dX12_readFill_183 : decode cX12_readFill 183 = .ok (.getfield 35, 3) := by decide +kernel
theorem dX12_readFill_186 : decode cX12_readFill 186 = .ok (.sipush 1676, 3) := by decide +kernel
theorem dX12_readFill_189 : decode cX12_readFill 189 = .ok (.iload_n 1, 1) := by decide +kernel
theorem dX12_readFill_190 : decode cX12_readFill 190 = .ok (.iadd, 1) := by decide +kernel
theorem dX12_readFill_191 : decode cX12_readFill 191 = .ok (.iload 4, 2) := by decide +kernel
theorem dX12_readFill_193 : decode cX12_readFill 193 = .ok (.iastore, 1) := by decide +kernel
theorem dX12_readFill_194 : decode cX12_readFill 194 = .ok (.aload_n 0, 1) := by decide +kernel
theorem dX12_readFill_195 : decode cX12_readFill 195 = .ok (.getfield 35, 3) := by decide +kernel
theorem dX12_readFill_198 : decode cX12_readFill 198 = .ok (.sipush 1684, 3) := by decide +kernel
theorem dX12_readFill_201 : decode cX12_readFill 201 = .ok (.iload_n 1, 1) := by decide +kernel
theorem dX12_readFill_202 : decode cX12_readFill 202 = .ok (.iadd, 1) := by decide +kernel
theorem dX12_readFill_203 : decode cX12_readFill 203 = .ok (.iload_n 2, 1) := by decide +kernel
theorem dX12_readFill_204 : decode cX12_readFill 204 = .ok (.iastore, 1) := by decide +kernel
theorem dX12_readFill_205 : decode cX12_readFill 205 = .ok (.iconst 0, 1) := by decide +kernel
theorem dX12_readFill_206 : decode cX12_readFill 206 = .ok (.istore 6, 2) := by decide +kernel
theorem dX12_readFill_208 : decode cX12_readFill 208 = .ok (.iload 6, 2) := by decide +kernel
theorem dX12_readFill_210 : decode cX12_readFill 210 = .ok (.iload 5, 2) := by decide +kernel
theorem dX12_readFill_212 : decode cX12_readFill 212 = .ok (.if_icmp .ge 43, 3) := by decide +kernel
theorem dX12_readFill_215 : decode cX12_readFill 215 = .ok (.aload_n 0, 1) := by decide +kernel
theorem dX12_readFill_216 : decode cX12_readFill 216 = .ok (.getfield 35, 3) := by decide +kernel
theorem dX12_readFill_219 : decode cX12_readFill 219 = .ok (.sipush 1692, 3) := by decide +kernel
theorem dX12_readFill_222 : decode cX12_readFill 222 = .ok (.bipush 12, 2) := by decide +kernel
theorem dX12_readFill_224 : decode cX12_readFill 224 = .ok (.iload_n 1, 1) := by decide +kernel
theorem dX12_readFill_225 : decode cX12_readFill 225 = .ok (.imul, 1) := by decide +kernel
theorem dX12_readFill_226 : decode cX12_readFill 226 = .ok (.iadd, 1) := by decide +kernel
theorem dX12_readFill_227 : decode cX12_readFill 227 = .ok (.iload 6, 2) := by decide +kernel
theorem dX12_readFill_229 : decode cX12_readFill 229 = .ok (.iadd, 1) := by decide +kernel
theorem dX12_readFill_230 : decode cX12_readFill 230 = .ok (.aload_n 0, 1) := by decide +kernel
theorem dX12_readFill_231 : decode cX12_readFill 231 = .ok (.getfield 35, 3) := by decide +kernel
theorem dX12_readFill_234 : decode cX12_readFill 234 = .ok (.sipush 1492, 3) := by decide +kernel
theorem dX12_readFill_237 : decode cX12_readFill 237 = .ok (.bipush 16, 2) := by decide +kernel
theorem dX12_readFill_239 : decode cX12_readFill 239 = .ok (.iload_n 2, 1) := by decide +kernel
theorem dX12_readFill_240 : decode cX12_readFill 240 = .ok (.imul, 1) := by decide +kernel
theorem dX12_readFill_241 : decode cX12_readFill 241 = .ok (.iadd, 1) := by decide +kernel
theorem dX12_readFill_242 : decode cX12_readFill 242 = .ok (.iload_n 3, 1) := by decide +kernel
theorem dX12_readFill_243 : decode cX12_readFill 243 = .ok (.iadd, 1) := by decide +kernel
theorem dX12_readFill_244 : decode cX12_readFill 244 = .ok (.iload 6, 2) := by decide +kernel
theorem dX12_readFill_246 : decode cX12_readFill 246 = .ok (.iadd, 1) := by decide +kernel
theorem dX12_readFill_247 : decode cX12_readFill 247 = .ok (.iaload, 1) := by decide +kernel
theorem dX12_readFill_248 : decode cX12_readFill 248 = .ok (.iastore, 1) := by decide +kernel
theorem dX12_readFill_249 : decode cX12_readFill 249 = .ok (.iinc 6 1, 3) := by decide +kernel
theorem dX12_readFill_252 : decode cX12_readFill 252 = .ok (.goto (-44), 3) := by decide +kernel
theorem dX12_readFill_255 : decode cX12_readFill 255 = .ok (.return_, 1) := by decide +kernel
theorem dX12_shop_0 : decode cX12_shop 0 = .ok (.aload_n 0, 1) := by decide +kernel
theorem dX12_shop_1 : decode cX12_shop 1 = .ok (.iconst 0, 1) := by decide +kernel
theorem dX12_shop_2 : decode cX12_shop 2 = .ok (.putfield 89, 3) := by decide +kernel
theorem dX12_shop_5 : decode cX12_shop 5 = .ok (.aload_n 0, 1) := by decide +kernel
theorem dX12_shop_6 : decode cX12_shop 6 = .ok (.iconst 0, 1) := by decide +kernel
theorem dX12_shop_7 : decode cX12_shop 7 = .ok (.putfield 92, 3) := by decide +kernel
theorem dX12_shop_10 : decode cX12_shop 10 = .ok (.aload_n 0, 1) := by decide +kernel
theorem dX12_shop_11 : decode cX12_shop 11 = .ok (.iload_n 1, 1) := by decide +kernel
theorem dX12_shop_12 : decode cX12_shop 12 = .ok (.sipush 900, 3) := by decide +kernel
theorem dX12_shop_15 : decode cX12_shop 15 = .ok (.invokevirtual 286, 3) := by decide +kernel
theorem dX12_shop_18 : decode cX12_shop 18 = .ok (.ifCond .ne 5, 3) := by decide +kernel
theorem dX12_shop_21 : decode cX12_shop 21 = .ok (.iconst (-1), 1) := by decide +kernel
theorem dX12_shop_22 : decode cX12_shop 22 = .ok (.ireturn, 1) := by decide +kernel
theorem dX12_shop_23 : decode cX12_shop 23 = .ok (.iconst 0, 1) := by decide +kernel
theorem dX12_shop_24 : decode cX12_shop 24 = .ok (.istore_n 2, 1) := by decide +kernel
theorem dX12_shop_25 : decode cX12_shop 25 = .ok (.iload_n 2, 1) := by decide +kernel
theorem dX12_shop_26 : decode cX12_shop 26 = .ok (.sipush 370, 3) := by decide +kernel
theorem dX12_shop_29 : decode cX12_shop 29 = .ok (.if_icmp .ge 20, 3) := by decide +kernel
theorem dX12_shop_32 : decode cX12_shop 32 = .ok (.aload_n 0, 1) := by decide +kernel
theorem dX12_shop_33 : decode cX12_shop 33 = .ok (.getfield 35, 3) := by decide +kernel
theorem dX12_shop_36 : decode cX12_shop 36 = .ok (.sipush 1480, 3) := by decide +kernel
theorem dX12_shop_39 : decode cX12_shop 39 = .ok (.iload_n 2, 1) := by decide +kernel
theorem dX12_shop_40 : decode cX12_shop 40 = .ok (.iadd, 1) := by decide +kernel
theorem dX12_shop_41 : decode cX12_shop 41 = .ok (.iconst 0, 1) := by decide +kernel
theorem dX12_shop_42 : decode cX12_shop 42 = .ok (.iastore, 1) := by decide +kernel
theorem dX12_shop_43 : decode cX12_shop 43 = .ok (.iinc 2 1, 3) := by decide +kernel
theorem dX12_shop_46 : decode cX12_shop 46 = .ok (.goto (-21), 3) := by decide +kernel
theorem dX12_shop_49 : decode cX12_shop 49 = .ok (.aload_n 0, 1) := by decide +kernel
theorem dX12_shop_50 : decode cX12_shop 50 = .ok (.getfield 237, 3) := by decide +kernel
theorem dX12_shop_53 : decode cX12_shop 53 = .ok (.ifCond .ne 76, 3) := by decide +kernel
theorem dX12_shop_56 : decode cX12_shop 56 = .ok (.aload_n 0, 1) := by decide +kernel
theorem dX12_shop_57 : decode cX12_shop 57 = .ok (.getfield 140, 3) := by decide +kernel
theorem dX12_shop_60 : decode cX12_shop 60 = .ok (.ifCond .eq 69, 3) := by decide +kernel
theorem dX12_shop_63 : decode cX12_shop 63 = .ok (.aload_n 0, 1) := by decide +kernel
theorem dX12_shop_64 : decode cX12_shop 64 = .ok (.invokevirtual 170, 3) := by decide +kernel
theorem dX12_shop_67 : decode cX12_shop 67 = .ok (.ifCond .eq 10, 3) := by decide +kernel
theorem dX12_shop_70 : decode cX12_shop 70 = .ok (.aload_n 0, 1) := by decide +kernel
theorem dX12_shop_71 : decode cX12_shop 71 = .ok (.invokevirtual 290, 3) := by decide +kernel
theorem dX12_shop_74 : decode cX12_shop 74 = .ok (.goto 35, 3) := by decide +kernel
theorem dX12_shop_77 : decode cX12_shop 77 = .ok (.aload_n 0, 1) := by decide +kernel
theorem dX12_shop_78 : decode cX12_shop 78 = .ok (.invokevirtual 174, 3) := by decide +kernel
theorem dX12_shop_81 : decode cX12_shop 81 = .ok (.ifCond .eq 10, 3) := by decide +kernel
theorem dX12_shop_84 : decode cX12_shop 84 = .ok (.aload_n 0, 1) := by decide +kernel
theorem dX12_shop_85 : decode cX12_shop 85 = .ok (.invokevirtual 293, 3) := by decide +kernel
theorem dX12_shop_88 : decode cX12_shop 88 = .ok (.goto 21, 3) := by decide +kernel
theorem dX12_shop_91 : decode cX12_shop 91 = .ok (.aload_n 0, 1) := by decide +kernel
theorem dX12_shop_92 : decode cX12_shop 92 = .ok (.invokevirtual 198, 3) := by decide +kernel
theorem dX12_shop_95 : decode cX12_shop 95 = .ok (.ifCond .eq 10, 3) := by decide +kernel
theorem dX12_shop_98 : decode cX12_shop 98 = .ok (.aload_n 0, 1) := by decide +kernel
theorem dX12_shop_99 : decode cX12_shop 99 = .ok (.invokevirtual 296, 3) := by decide +kernel
theorem dX12_shop_102 : decode cX12_shop 102 = .ok (.goto 7, 3) := by decide +kernel
theorem dX12_shop_105 : decode cX12_shop 105 = .ok (.aload_n 0, 1) := by decide +kernel
theorem dX12_shop_106 : decode cX12_shop 106 = .ok (.invokevirtual 250, 3) := by decide +kernel
theorem dX12_shop_109 : decode cX12_shop 109 = .ok (.aload_n 0, 1) := by decide +kernel
theorem dX12_shop_110 : decode cX12_shop 110 = .ok (.aload_n 0, 1) := by decide +kernel
theorem dX12_shop_111 : decode cX12_shop 111 = .ok (.getfield 140, 3) := by decide +kernel
theorem dX12_shop_114 : decode cX12_shop 114 = .ok (.iconst 3, 1) := by decide +kernel
theorem dX12_shop_115 : decode cX12_shop 115 = .ok (.if_icmp .ne 7, 3) := by decide +kernel
theorem dX12_shop_118 : decode cX12_shop 118 = .ok (.iconst 1, 1) := by decide +kernel
theorem dX12_shop_119 : decode cX12_shop 119 = .ok (.goto 4, 3) := by decide +kernel
theorem dX12_shop_122 : decode cX12_shop 122 = .ok (.iconst 0, 1) := by decide +kernel
theorem dX12_shop_123 : decode cX12_shop 123 = .ok (.invokevirtual 272, 3) := by decide +kernel
theorem dX12_shop_126 : decode cX12_shop 126 = .ok (.goto (-77), 3) := by decide +kernel
theorem dX12_shop_129 : decode cX12_shop 129 = .ok (.aload_n 0, 1) := by decide +kernel
theorem dX12_shop_130 : decode cX12_shop 130 = .ok (.invokevirtual 299, 3) := by decide +kernel
theorem dX12_shop_133 : decode cX12_shop 133 = .ok (.ifCond .ne 5, 3) := by decide +kernel
theorem dX12_shop_136 : decode cX12_shop 136 = .ok (.iconst (-1), 1) := by decide +kernel
theorem dX12_shop_137 : decode cX12_shop 137 = .ok (.ireturn, 1) := by decide +kernel
theorem dX12_shop_138 : decode cX12_shop 138 = .ok (.iconst 0, 1) := by decide +kernel
theorem dX12_shop_139 : decode cX12_shop 139 = .ok (.istore_n 2, 1) := by decide +kernel
theorem dX12_shop_140 : decode cX12_shop 140 = .ok (.iload_n 2, 1) := by decide +kernel
theorem dX12_shop_141 : decode cX12_shop 141 = .ok (.sipush 370, 3) := by decide +kernel
theorem dX12_shop_144 : decode cX12_shop 144 = .ok (.if_icmp .ge 25, 3) := by decide +kernel
theorem dX12_shop_147 : decode cX12_shop 147 = .ok (.aload_n 0, 1) := by decide +kernel
theorem dX12_shop_148 : decode cX12_shop 148 = .ok (.getfield 35, 3) := by decide +kernel
theorem dX12_shop_151 : decode cX12_shop 151 = .ok (.iload_n 2, 1) := by decide +kernel
theorem dX12_shop_152 : decode cX12_shop 152 = .ok (.aload_n 0, 1) := by decide +kernel
theorem dX12_shop_153 : decode cX12_shop 153 = .ok (.getfield 35, 3) := by decide +kernel
theorem dX12_shop_156 : decode cX12_shop 156 = .ok (.sipush 1480, 3) := by decide +kernel
theorem dX12_shop_159 : decode cX12_shop 159 = .ok (.iload_n 2, 1) := by decide +kernel
theorem dX12_shop_160 : decode cX12_shop 160 = .ok (.iadd, 1) := by decide +kernel
theorem dX12_shop_161 : decode cX12_shop 161 = .ok (.iaload, 1) := by decide +kernel
theorem dX12_shop_162 : decode cX12_shop 162 = .ok (.iastore, 1) := by decide +kernel
theorem dX12_shop_163 : decode cX12_shop 163 = .ok (.iinc 2 1, 3) := by decide +kernel
theorem dX12_shop_166 : decode cX12_shop 166 = .ok (.goto (-26), 3) := by decide +kernel
theorem dX12_shop_169 : decode cX12_shop 169 = .ok (.aload_n 0, 1) := by decide +kernel
theorem dX12_shop_170 : decode cX12_shop 170 = .ok (.iconst 0, 1) := by decide +kernel
theorem dX12_shop_171 : decode cX12_shop 171 = .ok (.putfield 302, 3) := by decide +kernel
theorem dX12_shop_174 : decode cX12_shop 174 = .ok (.aload_n 0, 1) := by decide +kernel
theorem dX12_shop_175 : decode cX12_shop 175 = .ok (.getfield 35, 3) := by decide +kernel
theorem dX12_shop_178 : decode cX12_shop 178 = .ok (.iconst 2, 1) := by decide +kernel
theorem dX12_shop_179 : decode cX12_shop 179 = .ok (.iaload, 1) := by decide +kernel
theorem dX12_shop_180 : decode cX12_shop 180 = .ok (.ireturn, 1) := by decide +kernel
theorem dX12_readKind_0 : decode cX12_readKind 0 = .ok (.aload_n 0, 1) := by decide +kernel
theorem dX12_readKind_1 : decode cX12_readKind 1 = .ok (.getfield 140, 3) := by decide +kernel
theorem dX12_readKind_4 : decode cX12_readKind 4 = .ok (.iconst 1, 1) := by decide +kernel
theorem dX12_readKind_5 : decode cX12_readKind 5 = .ok (.if_icmp .eq 7, 3) := by decide +kernel
theorem dX12_readKind_8 : decode cX12_readKind 8 = .ok (.iconst (-1), 1) := by decide +kernel
theorem dX12_readKind_9 : decode cX12_readKind 9 = .ok (.goto 49, 3) := by decide +kernel
theorem dX12_readKind_12 : decode cX12_readKind 12 = .ok (.aload_n 0, 1) := by decide +kernel
theorem dX12_readKind_13 : decode cX12_readKind 13 = .ok (.getfield 153, 3) := by decide +kernel
theorem dX12_readKind_16 : decode cX12_readKind 16 = .ok (.iconst 1, 1) := by decide +kernel
theorem dX12_readKind_17 : decode cX12_readKind 17 = .ok (.if_icmp .ne 17, 3) := by decide +kernel
theorem dX12_readKind_20 : decode cX12_readKind 20 = .ok (.aload_n 0, 1) := by decide +kernel
theorem dX12_readKind_21 : decode cX12_readKind 21 = .ok (.aload_n 0, 1) := by decide +kernel
theorem dX12_readKind_22 : decode cX12_readKind 22 = .ok (.getfield 134, 3) := by decide +kernel
theorem dX12_readKind_25 : decode cX12_readKind 25 = .ok (.invokevirtual 137, 3) := by decide +kernel
theorem dX12_readKind_28 : decode cX12_readKind 28 = .ok (.bipush 96, 2) := by decide +kernel
theorem dX12_readKind_30 : decode cX12_readKind 30 = .ok (.isub, 1) := by decide +kernel
theorem dX12_readKind_31 : decode cX12_readKind 31 = .ok (.goto 27, 3) := by decide +kernel
theorem dX12_readKind_34 : decode cX12_readKind 34 = .ok (.aload_n 0, 1) := by decide +kernel
theorem dX12_readKind_35 : decode cX12_readKind 35 = .ok (.invokevirtual 219, 3) := by decide +kernel
theorem dX12_readKind_38 : decode cX12_readKind 38 = .ok (.ifCond .eq 8, 3) := by decide +kernel
theorem dX12_readKind_41 : decode cX12_readKind 41 = .ok (.bipush 27, 2) := by decide +kernel
theorem dX12_readKind_43 : decode cX12_readKind 43 = .ok (.goto 15, 3) := by decide +kernel
theorem dX12_readKind_46 : decode cX12_readKind 46 = .ok (.aload_n 0, 1) := by decide +kernel
theorem dX12_readKind_47 : decode cX12_readKind 47 = .ok (.invokevirtual 225, 3) := by decide +kernel
theorem dX12_readKind_50 : decode cX12_readKind 50 = .ok (.ifCond .eq 7, 3) := by decide +kernel
theorem dX12_readKind_53 : decode cX12_readKind 53 = .ok (.iconst 0, 1) := by decide +kernel
theorem dX12_readKind_54 : decode cX12_readKind 54 = .ok (.goto 4, 3) := by decide +kernel
theorem dX12_readKind_57 : decode cX12_readKind 57 = .ok (.iconst (-1), 1) := by decide +kernel
theorem dX12_readKind_58 : decode cX12_readKind 58 = .ok (.istore_n 1, 1) := by decide +kernel
theorem dX12_readKind_59 : decode cX12_readKind 59 = .ok (.aload_n 0, 1) := by decide +kernel
theorem dX12_readKind_60 : decode cX12_readKind 60 = .ok (.iload_n 1, 1) := by decide +kernel
theorem dX12_readKind_61 : decode cX12_readKind 61 = .ok (.ifCond .lt 7, 3) := by decide +kernel
theorem dX12_readKind_64 : decode cX12_readKind 64 = .ok (.iconst 1, 1) := by decide +kernel
theorem dX12_readKind_65 : decode cX12_readKind 65 = .ok (.goto 4, 3) := by decide +kernel
theorem dX12_readKind_68 : decode cX12_readKind 68 = .ok (.iconst 0, 1) := by decide +kernel
theorem dX12_readKind_69 : decode cX12_readKind 69 = .ok (.invokevirtual 272, 3) := by decide +kernel
theorem dX12_readKind_72 : decode cX12_readKind 72 = .ok (.iload_n 1, 1) := by decide +kernel
theorem dX12_readKind_73 : decode cX12_readKind 73 = .ok (.ireturn, 1) := by decide +kernel
theorem dX12_readWhat_0 : decode cX12_readWhat 0 = .ok (.aload_n 0, 1) := by decide +kernel
theorem dX12_readWhat_1 : decode cX12_readWhat 1 = .ok (.getfield 140, 3) := by decide +kernel
theorem dX12_readWhat_4 : decode cX12_readWhat 4 = .ok (.iconst 1, 1) := by decide +kernel
theorem dX12_readWhat_5 : decode cX12_readWhat 5 = .ok (.if_icmp .eq 7, 3) := by decide +kernel
theorem dX12_readWhat_8 : decode cX12_readWhat 8 = .ok (.iconst (-1), 1) := by decide +kernel
theorem dX12_readWhat_9 : decode cX12_readWhat 9 = .ok (.goto 61, 3) := by decide +kernel
theorem dX12_readWhat_12 : decode cX12_readWhat 12 = .ok (.aload_n 0, 1) := by decide +kernel
theorem dX12_readWhat_13 : decode cX12_readWhat 13 = .ok (.getfield 153, 3) := by decide +kernel
theorem dX12_readWhat_16 : decode cX12_readWhat 16 = .ok (.iconst 1, 1) := by decide +kernel
theorem dX12_readWhat_17 : decode cX12_readWhat 17 = .ok (.if_icmp .ne 17, 3) := by decide +kernel
theorem dX12_readWhat_20 : decode cX12_readWhat 20 = .ok (.aload_n 0, 1) := by decide +kernel
theorem dX12_readWhat_21 : decode cX12_readWhat 21 = .ok (.aload_n 0, 1) := by decide +kernel
theorem dX12_readWhat_22 : decode cX12_readWhat 22 = .ok (.getfield 134, 3) := by decide +kernel
theorem dX12_readWhat_25 : decode cX12_readWhat 25 = .ok (.invokevirtual 137, 3) := by decide +kernel
theorem dX12_readWhat_28 : decode cX12_readWhat 28 = .ok (.bipush 96, 2) := by decide +kernel
theorem dX12_readWhat_30 : decode cX12_readWhat 30 = .ok (.isub, 1) := by decide +kernel
theorem dX12_readWhat_31 : decode cX12_readWhat 31 = .ok (.goto 39, 3) := by decide +kernel
theorem dX12_readWhat_34 : decode cX12_readWhat 34 = .ok (.aload_n 0, 1) := by decide +kernel
theorem dX12_readWhat_35 : decode cX12_readWhat 35 = .ok (.invokevirtual 225, 3) := by decide +kernel
theorem dX12_readWhat_38 : decode cX12_readWhat 38 = .ok (.ifCond .eq 7, 3) := by decide +kernel
theorem dX12_readWhat_41 : decode cX12_readWhat 41 = .ok (.iconst 0, 1) := by decide +kernel
theorem dX12_readWhat_42 : decode cX12_readWhat 42 = .ok (.goto 28, 3) := by decide +kernel
theorem dX12_readWhat_45 : decode cX12_readWhat 45 = .ok (.aload_n 0, 1) := by decide +kernel
theorem dX12_readWhat_46 : decode cX12_readWhat 46 = .ok (.invokevirtual 228, 3) := by decide +kernel
theorem dX12_readWhat_49 : decode cX12_readWhat 49 = .ok (.ifCond .eq 8, 3) := by decide +kernel
theorem dX12_readWhat_52 : decode cX12_readWhat 52 = .ok (.bipush 27, 2) := by decide +kernel
theorem dX12_readWhat_54 : decode cX12_readWhat 54 = .ok (.goto 16, 3) := by decide +kernel
theorem dX12_readWhat_57 : decode cX12_readWhat 57 = .ok (.aload_n 0, 1) := by decide +kernel
theorem dX12_readWhat_58 : decode cX12_readWhat 58 = .ok (.invokevirtual 231, 3) := by decide +kernel
theorem dX12_readWhat_61 : decode cX12_readWhat 61 = .ok (.ifCond .eq 8, 3) := by decide +kernel
theorem dX12_readWhat_64 : decode cX12_readWhat 64 = .ok (.bipush 28, 2) := by decide +kernel
theorem dX12_readWhat_66 : decode cX12_readWhat 66 = .ok (.goto 4, 3) := by decide +kernel
theorem dX12_readWhat_69 : decode cX12_readWhat 69 = .ok (.iconst (-1), 1) := by decide +kernel
theorem dX12_readWhat_70 : decode cX12_readWhat 70 = .ok (.istore_n 1, 1) := by decide +kernel
theorem dX12_readWhat_71 : decode cX12_readWhat 71 = .ok (.aload_n 0, 1) := by decide +kernel
theorem dX12_readWhat_72 : decode cX12_readWhat 72 = .ok (.iload_n 1, 1) := by decide +kernel
theorem dX12_readWhat_73 : decode cX12_readWhat 73 = .ok (.ifCond .lt 7, 3) := by decide +kernel
theorem dX12_readWhat_76 : decode cX12_readWhat 76 = .ok (.iconst 1, 1) := by decide +kernel
theorem dX12_readWhat_77 : decode cX12_readWhat 77 = .ok (.goto 4, 3) := by decide +kernel
theorem dX12_readWhat_80 : decode cX12_readWhat 80 = .ok (.iconst 0, 1) := by decide +kernel
theorem dX12_readWhat_81 : decode cX12_readWhat 81 = .ok (.invokevirtual 272, 3) := by decide +kernel
theorem dX12_readWhat_84 : decode cX12_readWhat 84 = .ok (.iload_n 1, 1) := by decide +kernel
theorem dX12_readWhat_85 : decode cX12_readWhat 85 = .ok (.ireturn, 1) := by decide +kernel
theorem dX12_readRule_0 : decode cX12_readRule 0 = .ok (.aload_n 0, 1) := by decide +kernel
theorem dX12_readRule_1 : decode cX12_readRule 1 = .ok (.invokevirtual 210, 3) := by decide +kernel
theorem dX12_readRule_4 : decode cX12_readRule 4 = .ok (.ifCond .ne 7, 3) := by decide +kernel
theorem dX12_readRule_7 : decode cX12_readRule 7 = .ok (.aload_n 0, 1) := by decide +kernel
theorem dX12_readRule_8 : decode cX12_readRule 8 = .ok (.invokevirtual 250, 3) := by decide +kernel
theorem dX12_readRule_11 : decode cX12_readRule 11 = .ok (.aload_n 0, 1) := by decide +kernel
theorem dX12_readRule_12 : decode cX12_readRule 12 = .ok (.getfield 237, 3) := by decide +kernel
theorem dX12_readRule_15 : decode cX12_readRule 15 = .ok (.ifCond .ne 22, 3) := by decide +kernel
theorem dX12_readRule_18 : decode cX12_readRule 18 = .ok (.aload_n 0, 1) := by decide +kernel
theorem dX12_readRule_19 : decode cX12_readRule 19 = .ok (.getfield 305, 3) := by decide +kernel
theorem dX12_readRule_22 : decode cX12_readRule 22 = .ok (.bipush 12, 2) := by decide +kernel
theorem dX12_readRule_24 : decode cX12_readRule 24 = .ok (.if_icmp .ne 13, 3) := by decide +kernel
theorem dX12_readRule_27 : decode cX12_readRule 27 = .ok (.aload_n 0, 1) := by decide +kernel
theorem dX12_readRule_28 : decode cX12_readRule 28 = .ok (.bipush 6, 2) := by decide +kernel
theorem dX12_readRule_30 : decode cX12_readRule 30 = .ok (.aload_n 0, 1) := by decide +kernel
theorem dX12_readRule_31 : decode cX12_readRule 31 = .ok (.getfield 134, 3) := by decide +kernel
theorem dX12_readRule_34 : decode cX12_readRule 34 = .ok (.invokevirtual 243, 3) := by decide +kernel
theorem dX12_readRule_37 : decode cX12_readRule 37 = .ok (.aload_n 0, 1) := by decide +kernel
theorem dX12_readRule_38 : decode cX12_readRule 38 = .ok (.getfield 237, 3) := by decide +kernel
theorem dX12_readRule_41 : decode cX12_readRule 41 = .ok (.ifCond .le 4, 3) := by decide +kernel
theorem dX12_readRule_44 : decode cX12_readRule 44 = .ok (.return_, 1) := by decide +kernel
theorem dX12_readRule_45 : decode cX12_readRule 45 = .ok (.aload_n 0, 1) := by decide +kernel
theorem dX12_readRule_46 : decode cX12_readRule 46 = .ok (.invokevirtual 247, 3) := by decide +kernel
theorem dX12_readRule_49 : decode cX12_readRule 49 = .ok (.sipush 1788, 3) := by decide +kernel
theorem dX12_readRule_52 : decode cX12_readRule 52 = .ok (.iconst 3, 1) := by decide +kernel
theorem dX12_readRule_53 : decode cX12_readRule 53 = .ok (.aload_n 0, 1) := by decide +kernel
theorem dX12_readRule_54 : decode cX12_readRule 54 = .ok (.getfield 305, 3) := by decide +kernel
theorem dX12_readRule_57 : decode cX12_readRule 57 = .ok (.imul, 1) := by decide +kernel
theorem dX12_readRule_58 : decode cX12_readRule 58 = .ok (.iadd, 1) := by decide +kernel
theorem dX12_readRule_59 : decode cX12_readRule 59 = .ok (.istore_n 1, 1) := by decide +kernel
theorem dX12_readRule_60 : decode cX12_readRule 60 = .ok (.aload_n 0, 1) := by decide +kernel
theorem dX12_readRule_61 : decode cX12_readRule 61 = .ok (.getfield 35, 3) := by decide +kernel
theorem dX12_readRule_64 : decode cX12_readRule 64 = .ok (.iload_n 1, 1) := by decide +kernel
theorem dX12_readRule_65 : decode cX12_readRule 65 = .ok (.aload_n 0, 1) := by decide +kernel
theorem dX12_readRule_66 : decode cX12_readRule 66 = .ok (.invokevirtual 308, 3) := by decide +kernel
theorem dX12_readRule_69 : decode cX12_readRule 69 = .ok (.iastore, 1) := by decide +kernel
theorem dX12_readRule_70 : decode cX12_readRule 70 = .ok (.aload_n 0, 1) := by decide +kernel
theorem dX12_readRule_71 : decode cX12_readRule 71 = .ok (.aload_n 0, 1) := by decide +kernel
theorem dX12_readRule_72 : decode cX12_readRule 72 = .ok (.invokevirtual 213, 3) := by decide +kernel
theorem dX12_readRule_75 : decode cX12_readRule 75 = .ok (.invokevirtual 272, 3) := by decide +kernel
theorem dX12_readRule_78 : decode cX12_readRule 78 = .ok (.aload_n 0, 1) := by decide +kernel
theorem dX12_readRule_79 : decode cX12_readRule 79 = .ok (.getfield 35, 3) := by decide +kernel
theorem dX12_readRule_82 : decode cX12_readRule 82 = .ok (.iload_n 1, 1) := by decide +kernel
theorem dX12_readRule_83 : decode cX12_readRule 83 = .ok (.iconst 1, 1) := by decide +kernel
theorem dX12_readRule_84 : decode cX12_readRule 84 = .ok (.iadd, 1) := by decide +kernel
theorem dX12_readRule_85 : decode cX12_readRule 85 = .ok (.aload_n 0, 1) := by decide +kernel
theorem dX12_readRule_86 : decode cX12_readRule 86 = .ok (.invokevirtual 308, 3) := by decide +kernel
theorem dX12_readRule_89 : decode cX12_readRule 89 = .ok (.iastore, 1) := by decide +kernel
theorem dX12_readRule_90 : decode cX12_readRule 90 = .ok (.aload_n 0, 1) := by decide +kernel
theorem dX12_readRule_91 : decode cX12_readRule 91 = .ok (.aload_n 0, 1) := by decide +kernel
theorem dX12_readRule_92 : decode cX12_readRule 92 = .ok (.invokevirtual 216, 3) := by decide +kernel
theorem dX12_readRule_95 : decode cX12_readRule 95 = .ok (.invokevirtual 272, 3) := by decide +kernel
theorem dX12_readRule_98 : decode cX12_readRule 98 = .ok (.aload_n 0, 1) := by decide +kernel
theorem dX12_readRule_99 : decode cX12_readRule 99 = .ok (.getfield 35, 3) := by decide +kernel
theorem dX12_readRule_102 : decode cX12_readRule 102 = .ok (.iload_n 1, 1) := by decide +kernel
theorem dX12_readRule_103 : decode cX12_readRule 103 = .ok (.iconst 2, 1) := by decide +kernel
theorem dX12_readRule_104 : decode cX12_readRule 104 = .ok (.iadd, 1) := by decide +kernel
theorem dX12_readRule_105 : decode cX12_readRule 105 = .ok (.aload_n 0, 1) := by decide +kernel
theorem dX12_readRule_106 : decode cX12_readRule 106 = .ok (.invokevirtual 312, 3) := by decide +kernel
theorem dX12_readRule_109 : decode cX12_readRule 109 = .ok (.iastore, 1) := by decide +kernel
theorem dX12_readRule_110 : decode cX12_readRule 110 = .ok (.aload_n 0, 1) := by decide +kernel
theorem dX12_readRule_111 : decode cX12_readRule 111 = .ok (.aload_n 0, 1) := by decide +kernel
theorem dX12_readRule_112 : decode cX12_readRule 112 = .ok (.getfield 140, 3) := by decide +kernel
theorem dX12_readRule_115 : decode cX12_readRule 115 = .ok (.iconst 3, 1) := by decide +kernel
theorem dX12_readRule_116 : decode cX12_readRule 116 = .ok (.if_icmp .ne 7, 3) := by decide +kernel
theorem dX12_readRule_119 : decode cX12_readRule 119 = .ok (.iconst 1, 1) := by decide +kernel
theorem dX12_readRule_120 : decode cX12_readRule 120 = .ok (.goto 4, 3) := by decide +kernel
theorem dX12_readRule_123 : decode cX12_readRule 123 = .ok (.iconst 0, 1) := by decide +kernel
theorem dX12_readRule_124 : decode cX12_readRule 124 = .ok (.invokevirtual 272, 3) := by decide +kernel
theorem dX12_readRule_127 : decode cX12_readRule 127 = .ok (.aload_n 0, 1) := by decide +kernel
theorem dX12_readRule_128 : decode cX12_readRule 128 = .ok (.getfield 237, 3) := by decide +kernel
theorem dX12_readRule_131 : decode cX12_readRule 131 = .ok (.ifCond .ne 13, 3) := by decide +kernel
theorem dX12_readRule_134 : decode cX12_readRule 134 = .ok (.aload_n 0, 1) := by decide +kernel
theorem dX12_readRule_135 : decode cX12_readRule 135 = .ok (.dup, 1) := by decide +kernel
theorem dX12_readRule_136 : decode cX12_readRule 136 = .ok (.getfield 305, 3) := by decide +kernel
theorem dX12_readRule_139 : decode cX12_readRule 139 = .ok (.iconst 1, 1) := by decide +kernel
theorem dX12_readRule_140 : decode cX12_readRule 140 = .ok (.iadd, 1) := by decide +kernel
theorem dX12_readRule_141 : decode cX12_readRule 141 = .ok (.putfield 305, 3) := by decide +kernel
theorem dX12_readRule_144 : decode cX12_readRule 144 = .ok (.return_, 1) := by decide +kernel
theorem dX12_law_0 : decode cX12_law 0 = .ok (.aload_n 0, 1) := by decide +kernel
theorem dX12_law_1 : decode cX12_law 1 = .ok (.iconst 0, 1) := by decide +kernel
theorem dX12_law_2 : decode cX12_law 2 = .ok (.putfield 89, 3) := by decide +kernel
theorem dX12_law_5 : decode cX12_law 5 = .ok (.aload_n 0, 1) := by decide +kernel
theorem dX12_law_6 : decode cX12_law 6 = .ok (.iconst 0, 1) := by decide +kernel
theorem dX12_law_7 : decode cX12_law 7 = .ok (.putfield 92, 3) := by decide +kernel
theorem dX12_law_10 : decode cX12_law 10 = .ok (.aload_n 0, 1) := by decide +kernel
theorem dX12_law_11 : decode cX12_law 11 = .ok (.iload_n 1, 1) := by decide +kernel
theorem dX12_law_12 : decode cX12_law 12 = .ok (.sipush 300, 3) := by decide +kernel
theorem dX12_law_15 : decode cX12_law 15 = .ok (.invokevirtual 286, 3) := by decide +kernel
theorem dX12_law_18 : decode cX12_law 18 = .ok (.ifCond .ne 5, 3) := by decide +kernel
theorem dX12_law_21 : decode cX12_law 21 = .ok (.iconst (-1), 1) := by decide +kernel
theorem dX12_law_22 : decode cX12_law 22 = .ok (.ireturn, 1) := by decide +kernel
theorem dX12_law_23 : decode cX12_law 23 = .ok (.aload_n 0, 1) := by decide +kernel
theorem dX12_law_24 : decode cX12_law 24 = .ok (.iconst 0, 1) := by decide +kernel
theorem dX12_law_25 : decode cX12_law 25 = .ok (.putfield 305, 3) := by decide +kernel
theorem dX12_law_28 : decode cX12_law 28 = .ok (.aload_n 0, 1) := by decide +kernel
theorem dX12_law_29 : decode cX12_law 29 = .ok (.getfield 237, 3) := by decide +kernel
theorem dX12_law_32 : decode cX12_law 32 = .ok (.ifCond .ne 17, 3) := by decide +kernel
theorem dX12_law_35 : decode cX12_law 35 = .ok (.aload_n 0, 1) := by decide +kernel
theorem dX12_law_36 : decode cX12_law 36 = .ok (.getfield 140, 3) := by decide +kernel
theorem dX12_law_39 : decode cX12_law 39 = .ok (.ifCond .eq 10, 3) := by decide +kernel
theorem dX12_law_42 : decode cX12_law 42 = .ok (.aload_n 0, 1) := by decide +kernel
theorem dX12_law_43 : decode cX12_law 43 = .ok (.invokevirtual 315, 3) := by decide +kernel
theorem dX12_law_46 : decode cX12_law 46 = .ok (.goto (-18), 3) := by decide +kernel
theorem dX12_law_49 : decode cX12_law 49 = .ok (.aload_n 0, 1) := by decide +kernel
theorem dX12_law_50 : decode cX12_law 50 = .ok (.invokevirtual 299, 3) := by decide +kernel
theorem dX12_law_53 : decode cX12_law 53 = .ok (.ifCond .ne 5, 3) := by decide +kernel
theorem dX12_law_56 : decode cX12_law 56 = .ok (.iconst (-1), 1) := by decide +kernel
theorem dX12_law_57 : decode cX12_law 57 = .ok (.ireturn, 1) := by decide +kernel
theorem dX12_law_58 : decode cX12_law 58 = .ok (.aload_n 0, 1) := by decide +kernel
theorem dX12_law_59 : decode cX12_law 59 = .ok (.getfield 35, 3) := by decide +kernel
theorem dX12_law_62 : decode cX12_law 62 = .ok (.iconst 3, 1) := by decide +kernel
theorem dX12_law_63 : decode cX12_law 63 = .ok (.aload_n 0, 1) := by decide +kernel
theorem dX12_law_64 : decode cX12_law 64 = .ok (.getfield 305, 3) := by decide +kernel
theorem dX12_law_67 : decode cX12_law 67 = .ok (.iastore, 1) := by decide +kernel
theorem dX12_law_68 : decode cX12_law 68 = .ok (.sipush 308, 3) := by decide +kernel
theorem dX12_law_71 : decode cX12_law 71 = .ok (.istore_n 2, 1) := by decide +kernel
theorem dX12_law_72 : decode cX12_law 72 = .ok (.iload_n 2, 1) := by decide +kernel
theorem dX12_law_73 : decode cX12_law 73 = .ok (.sipush 370, 3) := by decide +kernel
theorem dX12_law_76 : decode cX12_law 76 = .ok (.if_icmp .ge 25, 3) := by decide +kernel
theorem dX12_law_79 : decode cX12_law 79 = .ok (.aload_n 0, 1) := by decide +kernel
theorem dX12_law_80 : decode cX12_law 80 = .ok (.getfield 35, 3) := by decide +kernel
theorem dX12_law_83 : decode cX12_law 83 = .ok (.iload_n 2, 1) := by decide +kernel
theorem dX12_law_84 : decode cX12_law 84 = .ok (.aload_n 0, 1) := by decide +kernel
theorem dX12_law_85 : decode cX12_law 85 = .ok (.getfield 35, 3) := by decide +kernel
theorem dX12_law_88 : decode cX12_law 88 = .ok (.sipush 1480, 3) := by decide +kernel
theorem dX12_law_91 : decode cX12_law 91 = .ok (.iload_n 2, 1) := by decide +kernel
theorem dX12_law_92 : decode cX12_law 92 = .ok (.iadd, 1) := by decide +kernel
theorem dX12_law_93 : decode cX12_law 93 = .ok (.iaload, 1) := by decide +kernel
theorem dX12_law_94 : decode cX12_law 94 = .ok (.iastore, 1) := by decide +kernel
theorem dX12_law_95 : decode cX12_law 95 = .ok (.iinc 2 1, 3) := by decide +kernel
theorem dX12_law_98 : decode cX12_law 98 = .ok (.goto (-26), 3) := by decide +kernel
theorem dX12_law_101 : decode cX12_law 101 = .ok (.aload_n 0, 1) := by decide +kernel
theorem dX12_law_102 : decode cX12_law 102 = .ok (.getfield 305, 3) := by decide +kernel
theorem dX12_law_105 : decode cX12_law 105 = .ok (.ireturn, 1) := by decide +kernel
theorem dX12_isSoundAt_0 : decode cX12_isSoundAt 0 = .ok (.iload_n 1, 1) := by decide +kernel
theorem dX12_isSoundAt_1 : decode cX12_isSoundAt 1 = .ok (.i2l, 1) := by decide +kernel
theorem dX12_isSoundAt_2 : decode cX12_isSoundAt 2 = .ok (.lconst 0, 1) := by decide +kernel
theorem dX12_isSoundAt_3 : decode cX12_isSoundAt 3 = .ok (.aload_n 0, 1) := by decide +kernel
theorem dX12_isSoundAt_4 : decode cX12_isSoundAt 4 = .ok (.getfield 35, 3) := by decide +kernel
theorem dX12_isSoundAt_7 : decode cX12_isSoundAt 7 = .ok (.iconst 1, 1) := by decide +kernel
theorem dX12_isSoundAt_8 : decode cX12_isSoundAt 8 = .ok (.iaload, 1) := by decide +kernel
theorem dX12_isSoundAt_9 : decode cX12_isSoundAt 9 = .ok (.iconst 1, 1) := by decide +kernel
theorem dX12_isSoundAt_10 : decode cX12_isSoundAt 10 = .ok (.isub, 1) := by decide +kernel
theorem dX12_isSoundAt_11 : decode cX12_isSoundAt 11 = .ok (.i2l, 1) := by decide +kernel
theorem dX12_isSoundAt_12 : decode cX12_isSoundAt 12 = .ok (.invokestatic 124, 3) := by decide +kernel
theorem dX12_isSoundAt_15 : decode cX12_isSoundAt 15 = .ok (.ireturn, 1) := by decide +kernel
theorem dX12_isJarAt_0 : decode cX12_isJarAt 0 = .ok (.iload_n 1, 1) := by decide +kernel
theorem dX12_isJarAt_1 : decode cX12_isJarAt 1 = .ok (.i2l, 1) := by decide +kernel
theorem dX12_isJarAt_2 : decode cX12_isJarAt 2 = .ok (.lconst 0, 1) := by decide +kernel
theorem dX12_isJarAt_3 : decode cX12_isJarAt 3 = .ok (.aload_n 0, 1) := by decide +kernel
theorem dX12_isJarAt_4 : decode cX12_isJarAt 4 = .ok (.getfield 35, 3) := by decide +kernel
theorem dX12_isJarAt_7 : decode cX12_isJarAt 7 = .ok (.iconst 2, 1) := by decide +kernel
theorem dX12_isJarAt_8 : decode cX12_isJarAt 8 = .ok (.iaload, 1) := by decide +kernel
theorem dX12_isJarAt_9 : decode cX12_isJarAt 9 = .ok (.iconst 1, 1) := by decide +kernel
theorem dX12_isJarAt_10 : decode cX12_isJarAt 10 = .ok (.isub, 1) := by decide +kernel
theorem dX12_isJarAt_11 : decode cX12_isJarAt 11 = .ok (.i2l, 1) := by decide +kernel
theorem dX12_isJarAt_12 : decode cX12_isJarAt 12 = .ok (.invokestatic 124, 3) := by decide +kernel
theorem dX12_isJarAt_15 : decode cX12_isJarAt 15 = .ok (.ireturn, 1) := by decide +kernel
theorem dX12_areJars_0 : decode cX12_areJars 0 = .ok (.iload_n 1, 1) := by decide +kernel
theorem dX12_areJars_1 : decode cX12_areJars 1 = .ok (.i2l, 1) := by decide +kernel
theorem dX12_areJars_2 : decode cX12_areJars 2 = .ok (.lconst 0, 1) := by decide +kernel
theorem dX12_areJars_3 : decode cX12_areJars 3 = .ok (.iconst 1, 1) := by decide +kernel
theorem dX12_areJars_4 : decode cX12_areJars 4 = .ok (.aload_n 0, 1) := by decide +kernel
theorem dX12_areJars_5 : decode cX12_areJars 5 = .ok (.getfield 35, 3) := by decide +kernel
theorem dX12_areJars_8 : decode cX12_areJars 8 = .ok (.iconst 2, 1) := by decide +kernel
theorem dX12_areJars_9 : decode cX12_areJars 9 = .ok (.iaload, 1) := by decide +kernel
theorem dX12_areJars_10 : decode cX12_areJars 10 = .ok (.ishl, 1) := by decide +kernel
theorem dX12_areJars_11 : decode cX12_areJars 11 = .ok (.iconst 1, 1) := by decide +kernel
theorem dX12_areJars_12 : decode cX12_areJars 12 = .ok (.isub, 1) := by decide +kernel
theorem dX12_areJars_13 : decode cX12_areJars 13 = .ok (.i2l, 1) := by decide +kernel
theorem dX12_areJars_14 : decode cX12_areJars 14 = .ok (.invokestatic 124, 3) := by decide +kernel
theorem dX12_areJars_17 : decode cX12_areJars 17 = .ok (.ireturn, 1) := by decide +kernel
theorem dX12_has_0 : decode cX12_has 0 = .ok (.iload_n 0, 1) := by decide +kernel
theorem dX12_has_1 : decode cX12_has 1 = .ok (.iload_n 1, 1) := by decide +kernel
theorem dX12_has_2 : decode cX12_has 2 = .ok (.ishr, 1) := by decide +kernel
theorem dX12_has_3 : decode cX12_has 3 = .ok (.iconst 1, 1) := by decide +kernel
theorem dX12_has_4 : decode cX12_has 4 = .ok (.iand, 1) := by decide +kernel
theorem dX12_has_5 : decode cX12_has 5 = .ok (.iconst 1, 1) := by decide +kernel
theorem dX12_has_6 : decode cX12_has 6 = .ok (.if_icmp .ne 7, 3) := by decide +kernel
theorem dX12_has_9 : decode cX12_has 9 = .ok (.iconst 1, 1) := by decide +kernel
theorem dX12_has_10 : decode cX12_has 10 = .ok (.goto 4, 3) := by decide +kernel
theorem dX12_has_13 : decode cX12_has 13 = .ok (.iconst 0, 1) := by decide +kernel
theorem dX12_has_14 : decode cX12_has 14 = .ok (.ireturn, 1) := by decide +kernel
theorem dX12_bits_0 : decode cX12_bits 0 = .ok (.iconst 0, 1) := by decide +kernel
theorem dX12_bits_1 : decode cX12_bits 1 = .ok (.istore_n 1, 1) := by decide +kernel
theorem dX12_bits_2 : decode cX12_bits 2 = .ok (.iconst 0, 1) := by decide +kernel
theorem dX12_bits_3 : decode cX12_bits 3 = .ok (.istore_n 2, 1) := by decide +kernel
theorem dX12_bits_4 : decode cX12_bits 4 = .ok (.iload_n 2, 1) := by decide +kernel
theorem dX12_bits_5 : decode cX12_bits 5 = .ok (.bipush 8, 2) := by decide +kernel
theorem dX12_bits_7 : decode cX12_bits 7 = .ok (.if_icmp .ge 17, 3) := by decide +kernel
theorem dX12_bits_10 : decode cX12_bits 10 = .ok (.iload_n 1, 1) := by decide +kernel
theorem dX12_bits_11 : decode cX12_bits 11 = .ok (.iload_n 0, 1) := by decide +kernel
theorem dX12_bits_12 : decode cX12_bits 12 = .ok (.iload_n 2, 1) := by decide +kernel
theorem dX12_bits_13 : decode cX12_bits 13 = .ok (.ishr, 1) := by decide +kernel
theorem dX12_bits_14 : decode cX12_bits 14 = .ok (.iconst 1, 1) := by decide +kernel
theorem dX12_bits_15 : decode cX12_bits 15 = .ok (.iand, 1) := by decide +kernel
theorem dX12_bits_16 : decode cX12_bits 16 = .ok (.iadd, 1) := by decide +kernel
theorem dX12_bits_17 : decode cX12_bits 17 = .ok (.istore_n 1, 1) := by decide +kernel
theorem dX12_bits_18 : decode cX12_bits 18 = .ok (.iinc 2 1, 3) := by decide +kernel
theorem dX12_bits_21 : decode cX12_bits 21 = .ok (.goto (-17), 3) := by decide +kernel
theorem dX12_bits_24 : decode cX12_bits 24 = .ok (.iload_n 1, 1) := by decide +kernel
theorem dX12_bits_25 : decode cX12_bits 25 = .ok (.ireturn, 1) := by decide +kernel
theorem dX12_empties_0 : decode cX12_empties 0 = .ok (.iconst 0, 1) := by decide +kernel
theorem dX12_empties_1 : decode cX12_empties 1 = .ok (.istore_n 1, 1) := by decide +kernel
theorem dX12_empties_2 : decode cX12_empties 2 = .ok (.iconst 0, 1) := by decide +kernel
theorem dX12_empties_3 : decode cX12_empties 3 = .ok (.istore_n 2, 1) := by decide +kernel
theorem dX12_empties_4 : decode cX12_empties 4 = .ok (.iload_n 2, 1) := by decide +kernel
theorem dX12_empties_5 : decode cX12_empties 5 = .ok (.aload_n 0, 1) := by decide +kernel
theorem dX12_empties_6 : decode cX12_empties 6 = .ok (.getfield 35, 3) := by decide +kernel
theorem dX12_empties_9 : decode cX12_empties 9 = .ok (.iconst 2, 1) := by decide +kernel
theorem dX12_empties_10 : decode cX12_empties 10 = .ok (.iaload, 1) := by decide +kernel
theorem dX12_empties_11 : decode cX12_empties 11 = .ok (.if_icmp .ge 30, 3) := by decide +kernel
theorem dX12_empties_14 : decode cX12_empties 14 = .ok (.iload_n 1, 1) := by decide +kernel
theorem dX12_empties_15 : decode cX12_empties 15 = .ok (.aload_n 0, 1) := by decide +kernel
theorem dX12_empties_16 : decode cX12_empties 16 = .ok (.getfield 35, 3) := by decide +kernel
theorem dX12_empties_19 : decode cX12_empties 19 = .ok (.sipush 188, 3) := by decide +kernel
theorem dX12_empties_22 : decode cX12_empties 22 = .ok (.iload_n 2, 1) := by decide +kernel
theorem dX12_empties_23 : decode cX12_empties 23 = .ok (.iadd, 1) := by decide +kernel
theorem dX12_empties_24 : decode cX12_empties 24 = .ok (.iaload, 1) := by decide +kernel
theorem dX12_empties_25 : decode cX12_empties 25 = .ok (.ifCond .ne 7, 3) := by decide +kernel
theorem dX12_empties_28 : decode cX12_empties 28 = .ok (.iconst 1, 1) := by decide +kernel
theorem dX12_empties_29 : decode cX12_empties 29 = .ok (.goto 4, 3) := by decide +kernel
theorem dX12_empties_32 : decode cX12_empties 32 = .ok (.iconst 0, 1) := by decide +kernel
theorem dX12_empties_33 : decode cX12_empties 33 = .ok (.iadd, 1) := by decide +kernel
theorem dX12_empties_34 : decode cX12_empties 34 = .ok (.istore_n 1, 1) := by decide +kernel
theorem dX12_empties_35 : decode cX12_empties 35 = .ok (.iinc 2 1, 3) := by decide +kernel
theorem dX12_empties_38 : decode cX12_empties 38 = .ok (.goto (-34), 3) := by decide +kernel
theorem dX12_empties_41 : decode cX12_empties 41 = .ok (.iload_n 1, 1) := by decide +kernel
theorem dX12_empties_42 : decode cX12_empties 42 = .ok (.ireturn, 1) := by decide +kernel
theorem dX12_many_0 : decode cX12_many 0 = .ok (.aload_n 0, 1) := by decide +kernel
theorem dX12_many_1 : decode cX12_many 1 = .ok (.iconst 0, 1) := by decide +kernel
theorem dX12_many_2 : decode cX12_many 2 = .ok (.putfield 89, 3) := by decide +kernel
theorem dX12_many_5 : decode cX12_many 5 = .ok (.aload_n 0, 1) := by decide +kernel
theorem dX12_many_6 : decode cX12_many 6 = .ok (.iconst 0, 1) := by decide +kernel
theorem dX12_many_7 : decode cX12_many 7 = .ok (.putfield 92, 3) := by decide +kernel
theorem dX12_many_10 : decode cX12_many 10 = .ok (.iload_n 1, 1) := by decide +kernel
theorem dX12_many_11 : decode cX12_many 11 = .ok (.tableswitch 66 0 4 #[33, 40, 47, 54, 61], 33) := by decide +kernel
theorem dX12_many_44 : decode cX12_many 44 = .ok (.aload_n 0, 1) := by decide +kernel
theorem dX12_many_45 : decode cX12_many 45 = .ok (.getfield 35, 3) := by decide +kernel
theorem dX12_many_48 : decode cX12_many 48 = .ok (.iconst 1, 1) := by decide +kernel
theorem dX12_many_49 : decode cX12_many 49 = .ok (.iaload, 1) := by decide +kernel
theorem dX12_many_50 : decode cX12_many 50 = .ok (.ireturn, 1) := by decide +kernel
theorem dX12_many_51 : decode cX12_many 51 = .ok (.aload_n 0, 1) := by decide +kernel
theorem dX12_many_52 : decode cX12_many 52 = .ok (.getfield 35, 3) := by decide +kernel
theorem dX12_many_55 : decode cX12_many 55 = .ok (.iconst 2, 1) := by decide +kernel
theorem dX12_many_56 : decode cX12_many 56 = .ok (.iaload, 1) := by decide +kernel
theorem dX12_many_57 : decode cX12_many 57 = .ok (.ireturn, 1) := by decide +kernel
theorem dX12_many_58 : decode cX12_many 58 = .ok (.aload_n 0, 1) := by decide +kernel
theorem dX12_many_59 : decode cX12_many 59 = .ok (.getfield 35, 3) := by decide +kernel
theorem dX12_many_62 : decode cX12_many 62 = .ok (.iconst 3, 1) := by decide +kernel
theorem dX12_many_63 : decode cX12_many 63 = .ok (.iaload, 1) := by decide +kernel
theorem dX12_many_64 : decode cX12_many 64 = .ok (.ireturn, 1) := by decide +kernel
theorem dX12_many_65 : decode cX12_many 65 = .ok (.aload_n 0, 1) := by decide +kernel
theorem dX12_many_66 : decode cX12_many 66 = .ok (.getfield 35, 3) := by decide +kernel
theorem dX12_many_69 : decode cX12_many 69 = .ok (.iconst 0, 1) := by decide +kernel
theorem dX12_many_70 : decode cX12_many 70 = .ok (.iaload, 1) := by decide +kernel
theorem dX12_many_71 : decode cX12_many 71 = .ok (.ireturn, 1) := by decide +kernel
theorem dX12_many_72 : decode cX12_many 72 = .ok (.aload_n 0, 1) := by decide +kernel
theorem dX12_many_73 : decode cX12_many 73 = .ok (.invokevirtual 318, 3) := by decide +kernel
theorem dX12_many_76 : decode cX12_many 76 = .ok (.ireturn, 1) := by decide +kernel
theorem dX12_many_77 : decode cX12_many 77 = .ok (.aload_n 0, 1) := by decide +kernel
theorem dX12_many_78 : decode cX12_many 78 = .ok (.iconst 5, 1) := by decide +kernel
theorem dX12_many_79 : decode cX12_many 79 = .ok (.invokevirtual 321, 3) := by decide +kernel
theorem dX12_many_82 : decode cX12_many 82 = .ok (.ireturn, 1) := by decide +kernel
theorem dX12_soundAt_0 : decode cX12_soundAt 0 = .ok (.aload_n 0, 1) := by decide +kernel
theorem dX12_soundAt_1 : decode cX12_soundAt 1 = .ok (.getfield 35, 3) := by decide +kernel
theorem dX12_soundAt_4 : decode cX12_soundAt 4 = .ok (.bipush 12, 2) := by decide +kernel
theorem dX12_soundAt_6 : decode cX12_soundAt 6 = .ok (.bipush 16, 2) := by decide +kernel
theorem dX12_soundAt_8 : decode cX12_soundAt 8 = .ok (.iload_n 1, 1) := by decide +kernel
theorem dX12_soundAt_9 : decode cX12_soundAt 9 = .ok (.imul, 1) := by decide +kernel
theorem dX12_soundAt_10 : decode cX12_soundAt 10 = .ok (.iadd, 1) := by decide +kernel
theorem dX12_soundAt_11 : decode cX12_soundAt 11 = .ok (.iload_n 2, 1) := by decide +kernel
theorem dX12_soundAt_12 : decode cX12_soundAt 12 = .ok (.iadd, 1) := by decide +kernel
theorem dX12_soundAt_13 : decode cX12_soundAt 13 = .ok (.iaload, 1) := by decide +kernel
theorem dX12_soundAt_14 : decode cX12_soundAt 14 = .ok (.ireturn, 1) := by decide +kernel
theorem dX12_letter_0 : decode cX12_letter 0 = .ok (.aload_n 0, 1) := by decide +kernel
theorem dX12_letter_1 : decode cX12_letter 1 = .ok (.iconst 0, 1) := by decide +kernel
theorem dX12_letter_2 : decode cX12_letter 2 = .ok (.putfield 89, 3) := by decide +kernel
theorem dX12_letter_5 : decode cX12_letter 5 = .ok (.aload_n 0, 1) := by decide +kernel
theorem dX12_letter_6 : decode cX12_letter 6 = .ok (.iconst 0, 1) := by decide +kernel
theorem dX12_letter_7 : decode cX12_letter 7 = .ok (.putfield 92, 3) := by decide +kernel
theorem dX12_letter_10 : decode cX12_letter 10 = .ok (.aload_n 0, 1) := by decide +kernel
theorem dX12_letter_11 : decode cX12_letter 11 = .ok (.iload_n 1, 1) := by decide +kernel
theorem dX12_letter_12 : decode cX12_letter 12 = .ok (.invokevirtual 324, 3) := by decide +kernel
theorem dX12_letter_15 : decode cX12_letter 15 = .ok (.ifCond .ne 9, 3) := by decide +kernel
theorem dX12_letter_18 : decode cX12_letter 18 = .ok (.aload_n 0, 1) := by decide +kernel
theorem dX12_letter_19 : decode cX12_letter 19 = .ok (.iconst 2, 1) := by decide +kernel
theorem dX12_letter_20 : decode cX12_letter 20 = .ok (.invokevirtual 321, 3) := by decide +kernel
theorem dX12_letter_23 : decode cX12_letter 23 = .ok (.ireturn, 1) := by decide +kernel
theorem dX12_letter_24 : decode cX12_letter 24 = .ok (.iload_n 2, 1) := by decide +kernel
theorem dX12_letter_25 : decode cX12_letter 25 = .ok (.i2l, 1) := by decide +kernel
theorem dX12_letter_26 : decode cX12_letter 26 = .ok (.lconst 0, 1) := by decide +kernel
theorem dX12_letter_27 : decode cX12_letter 27 = .ok (.aload_n 0, 1) := by decide +kernel
theorem dX12_letter_28 : decode cX12_letter 28 = .ok (.getfield 35, 3) := by decide +kernel
theorem dX12_letter_31 : decode cX12_letter 31 = .ok (.iconst 4, 1) := by decide +kernel
theorem dX12_letter_32 : decode cX12_letter 32 = .ok (.iload_n 1, 1) := by decide +kernel
theorem dX12_letter_33 : decode cX12_letter 33 = .ok (.iadd, 1) := by decide +kernel
theorem dX12_letter_34 : decode cX12_letter 34 = .ok (.iaload, 1) := by decide +kernel
theorem dX12_letter_35 : decode cX12_letter 35 = .ok (.iconst 1, 1) := by decide +kernel
theorem dX12_letter_36 : decode cX12_letter 36 = .ok (.isub, 1) := by decide +kernel
theorem dX12_letter_37 : decode cX12_letter 37 = .ok (.i2l, 1) := by decide +kernel
theorem dX12_letter_38 : decode cX12_letter 38 = .ok (.invokestatic 124, 3) := by decide +kernel
theorem dX12_letter_41 : decode cX12_letter 41 = .ok (.ifCond .eq 12, 3) := by decide +kernel
theorem dX12_letter_44 : decode cX12_letter 44 = .ok (.aload_n 0, 1) := by decide +kernel
theorem dX12_letter_45 : decode cX12_letter 45 = .ok (.iload_n 1, 1) := by decide +kernel
theorem dX12_letter_46 : decode cX12_letter 46 = .ok (.iload_n 2, 1) := by decide +kernel
theorem dX12_letter_47 : decode cX12_letter 47 = .ok (.invokevirtual 327, 3) := by decide +kernel
theorem dX12_letter_50 : decode cX12_letter 50 = .ok (.goto 9, 3) := by decide +kernel
theorem dX12_letter_53 : decode cX12_letter 53 = .ok (.aload_n 0, 1) := by decide +kernel
theorem dX12_letter_54 : decode cX12_letter 54 = .ok (.bipush 8, 2) := by decide +kernel
theorem dX12_letter_56 : decode cX12_letter 56 = .ok (.invokevirtual 321, 3) := by decide +kernel
theorem dX12_letter_59 : decode cX12_letter 59 = .ok (.ireturn, 1) := by decide +kernel
theorem dX12_jar_0 : decode cX12_jar 0 = .ok (.aload_n 0, 1) := by decide +kernel
theorem dX12_jar_1 : decode cX12_jar 1 = .ok (.iconst 0, 1) := by decide +kernel
theorem dX12_jar_2 : decode cX12_jar 2 = .ok (.putfield 89, 3) := by decide +kernel
theorem dX12_jar_5 : decode cX12_jar 5 = .ok (.aload_n 0, 1) := by decide +kernel
theorem dX12_jar_6 : decode cX12_jar 6 = .ok (.iconst 0, 1) := by decide +kernel
theorem dX12_jar_7 : decode cX12_jar 7 = .ok (.putfield 92, 3) := by decide +kernel
theorem dX12_jar_10 : decode cX12_jar 10 = .ok (.aload_n 0, 1) := by decide +kernel
theorem dX12_jar_11 : decode cX12_jar 11 = .ok (.iload_n 1, 1) := by decide +kernel
theorem dX12_jar_12 : decode cX12_jar 12 = .ok (.invokevirtual 330, 3) := by decide +kernel
theorem dX12_jar_15 : decode cX12_jar 15 = .ok (.ifCond .ne 9, 3) := by decide +kernel
theorem dX12_jar_18 : decode cX12_jar 18 = .ok (.aload_n 0, 1) := by decide +kernel
theorem dX12_jar_19 : decode cX12_jar 19 = .ok (.iconst 2, 1) := by decide +kernel
theorem dX12_jar_20 : decode cX12_jar 20 = .ok (.invokevirtual 321, 3) := by decide +kernel
theorem dX12_jar_23 : decode cX12_jar 23 = .ok (.ireturn, 1) := by decide +kernel
theorem dX12_jar_24 : decode cX12_jar 24 = .ok (.iload_n 2, 1) := by decide +kernel
theorem dX12_jar_25 : decode cX12_jar 25 = .ok (.tableswitch 194 0 8 #[51, 62, 73, 84, 95, 106, 117, 128, 161], 51) := by decide +kernel
theorem dX12_jar_76 : decode cX12_jar 76 = .ok (.aload_n 0, 1) := by decide +kernel
theorem dX12_jar_77 : decode cX12_jar 77 = .ok (.getfield 35, 3) := by decide +kernel
theorem dX12_jar_80 : decode cX12_jar 80 = .ok (.sipush 140, 3) := by decide +kernel
theorem dX12_jar_83 : decode cX12_jar 83 = .ok (.iload_n 1, 1) := by decide +kernel
theorem dX12_jar_84 : decode cX12_jar 84 = .ok (.iadd, 1) := by decide +kernel
theorem dX12_jar_85 : decode cX12_jar 85 = .ok (.iaload, 1) := by decide +kernel
theorem dX12_jar_86 : decode cX12_jar 86 = .ok (.ireturn, 1) := by decide +kernel
theorem dX12_jar_87 : decode cX12_jar 87 = .ok (.aload_n 0, 1) := by decide +kernel
theorem dX12_jar_88 : decode cX12_jar 88 = .ok (.getfield 35, 3) := by decide +kernel
theorem dX12_jar_91 : decode cX12_jar 91 = .ok (.sipush 148, 3) := by decide +kernel
theorem dX12_jar_94 : decode cX12_jar 94 = .ok (.iload_n 1, 1) := by decide +kernel
theorem dX12_jar_95 : decode cX12_jar 95 = .ok (.iadd, 1) := by decide +kernel
theorem dX12_jar_96 : decode cX12_jar 96 = .ok (.iaload, 1) := by decide +kernel
theorem dX12_jar_97 : decode cX12_jar 97 = .ok (.ireturn, 1) := by decide +kernel
theorem dX12_jar_98 : decode cX12_jar 98 = .ok (.aload_n 0, 1) := by decide +kernel
theorem dX12_jar_99 : decode cX12_jar 99 = .ok (.getfield 35, 3) := by decide +kernel
theorem dX12_jar_102 : decode cX12_jar 102 = .ok (.sipush 156, 3) := by decide +kernel
theorem dX12_jar_105 : decode cX12_jar 105 = .ok (.iload_n 1, 1) := by decide +kernel
theorem dX12_jar_106 : decode cX12_jar 106 = .ok (.iadd, 1) := by decide +kernel
theorem dX12_jar_107 : decode cX12_jar 107 = .ok (.iaload, 1) := by decide +kernel
theorem dX12_jar_108 : decode cX12_jar 108 = .ok (.ireturn, 1) := by decide +kernel
theorem dX12_jar_109 : decode cX12_jar 109 = .ok (.aload_n 0, 1) := by decide +kernel
theorem dX12_jar_110 : decode cX12_jar 110 = .ok (.getfield 35, 3) := by decide +kernel
theorem dX12_jar_113 : decode cX12_jar 113 = .ok (.sipush 164, 3) := by decide +kernel
theorem dX12_jar_116 : decode cX12_jar 116 = .ok (.iload_n 1, 1) := by decide +kernel
theorem dX12_jar_117 : decode cX12_jar 117 = .ok (.iadd, 1) := by decide +kernel
theorem dX12_jar_118 : decode cX12_jar 118 = .ok (.iaload, 1) := by decide +kernel
theorem dX12_jar_119 : decode cX12_jar 119 = .ok (.ireturn, 1) := by decide +kernel
theorem dX12_jar_120 : decode cX12_jar 120 = .ok (.aload_n 0, 1) := by decide +kernel
theorem dX12_jar_121 : decode cX12_jar 121 = .ok (.getfield 35, 3) := by decide +kernel
theorem dX12_jar_124 : decode cX12_jar 124 = .ok (.sipush 172, 3) := by decide +kernel
theorem dX12_jar_127 : decode cX12_jar 127 = .ok (.iload_n 1, 1) := by decide +kernel
theorem dX12_jar_128 : decode cX12_jar 128 = .ok (.iadd, 1) := by decide +kernel
theorem dX12_jar_129 : decode cX12_jar 129 = .ok (.iaload, 1) := by decide +kernel
theorem dX12_jar_130 : decode cX12_jar 130 = .ok (.ireturn, 1) := by decide +kernel
theorem dX12_jar_131 : decode cX12_jar 131 = .ok (.aload_n 0, 1) := by decide +kernel
theorem dX12_jar_132 : decode cX12_jar 132 = .ok (.getfield 35, 3) := by decide +kernel
theorem dX12_jar_135 : decode cX12_jar 135 = .ok (.sipush 180, 3) := by decide +kernel
theorem dX12_jar_138 : decode cX12_jar 138 = .ok (.iload_n 1, 1) := by decide +kernel
theorem dX12_jar_139 : decode cX12_jar 139 = .ok (.iadd, 1) := by decide +kernel
theorem dX12_jar_140 : decode cX12_jar 140 = .ok (.iaload, 1) := by decide +kernel
theorem dX12_jar_141 : decode cX12_jar 141 = .ok (.ireturn, 1) := by decide +kernel
theorem dX12_jar_142 : decode cX12_jar 142 = .ok (.aload_n 0, 1) := by decide +kernel
theorem dX12_jar_143 : decode cX12_jar 143 = .ok (.getfield 35, 3) := by decide +kernel
theorem dX12_jar_146 : decode cX12_jar 146 = .ok (.sipush 188, 3) := by decide +kernel
theorem dX12_jar_149 : decode cX12_jar 149 = .ok (.iload_n 1, 1) := by decide +kernel
theorem dX12_jar_150 : decode cX12_jar 150 = .ok (.iadd, 1) := by decide +kernel
theorem dX12_jar_151 : decode cX12_jar 151 = .ok (.iaload, 1) := by decide +kernel
theorem dX12_jar_152 : decode cX12_jar 152 = .ok (.ireturn, 1) := by decide +kernel
theorem dX12_jar_153 : decode cX12_jar 153 = .ok (.aload_n 0, 1) := by decide +kernel
theorem dX12_jar_154 : decode cX12_jar 154 = .ok (.getfield 35, 3) := by decide +kernel
theorem dX12_jar_157 : decode cX12_jar 157 = .ok (.sipush 188, 3) := by decide +kernel
theorem dX12_jar_160 : decode cX12_jar 160 = .ok (.iload_n 1, 1) := by decide +kernel
theorem dX12_jar_161 : decode cX12_jar 161 = .ok (.iadd, 1) := by decide +kernel
theorem dX12_jar_162 : decode cX12_jar 162 = .ok (.iaload, 1) := by decide +kernel
theorem dX12_jar_163 : decode cX12_jar 163 = .ok (.ifCond .ne 12, 3) := by decide +kernel
theorem dX12_jar_166 : decode cX12_jar 166 = .ok (.aload_n 0, 1) := by decide +kernel
theorem dX12_jar_167 : decode cX12_jar 167 = .ok (.bipush 8, 2) := by decide +kernel
theorem dX12_jar_169 : decode cX12_jar 169 = .ok (.invokevirtual 321, 3) := by decide +kernel
theorem dX12_jar_172 : decode cX12_jar 172 = .ok (.goto 13, 3) := by decide +kernel
theorem dX12_jar_175 : decode cX12_jar 175 = .ok (.aload_n 0, 1) := by decide +kernel
theorem dX12_jar_176 : decode cX12_jar 176 = .ok (.getfield 35, 3) := by decide +kernel
theorem dX12_jar_179 : decode cX12_jar 179 = .ok (.sipush 196, 3) := by decide +kernel
theorem dX12_jar_182 : decode cX12_jar 182 = .ok (.iload_n 1, 1) := by decide +kernel
theorem dX12_jar_183 : decode cX12_jar 183 = .ok (.iadd, 1) := by decide +kernel
theorem dX12_jar_184 : decode cX12_jar 184 = .ok (.iaload, 1) := by decide +kernel
theorem dX12_jar_185 : decode cX12_jar 185 = .ok (.ireturn, 1) := by decide +kernel
theorem dX12_jar_186 : decode cX12_jar 186 = .ok (.aload_n 0, 1) := by decide +kernel
theorem dX12_jar_187 : decode cX12_jar 187 = .ok (.getfield 35, 3) := by decide +kernel
theorem dX12_jar_190 : decode cX12_jar 190 = .ok (.sipush 188, 3) := by decide +kernel
theorem dX12_jar_193 : decode cX12_jar 193 = .ok (.iload_n 1, 1) := by decide +kernel
theorem dX12_jar_194 : decode cX12_jar 194 = .ok (.iadd, 1) := by decide +kernel
theorem dX12_jar_195 : decode cX12_jar 195 = .ok (.iaload, 1) := by decide +kernel
theorem dX12_jar_196 : decode cX12_jar 196 = .ok (.ifCond .ne 12, 3) := by decide +kernel
theorem dX12_jar_199 : decode cX12_jar 199 = .ok (.aload_n 0, 1) := by decide +kernel
theorem dX12_jar_200 : decode cX12_jar 200 = .ok (.bipush 8, 2) := by decide +kernel
theorem dX12_jar_202 : decode cX12_jar 202 = .ok (.invokevirtual 321, 3) := by decide +kernel
theorem dX12_jar_205 : decode cX12_jar 205 = .ok (.goto 13, 3) := by decide +kernel
theorem dX12_jar_208 : decode cX12_jar 208 = .ok (.aload_n 0, 1) := by decide +kernel
theorem dX12_jar_209 : decode cX12_jar 209 = .ok (.getfield 35, 3) := by decide +kernel
theorem dX12_jar_212 : decode cX12_jar 212 = .ok (.sipush 204, 3) := by decide +kernel
theorem dX12_jar_215 : decode cX12_jar 215 = .ok (.iload_n 1, 1) := by decide +kernel
theorem dX12_jar_216 : decode cX12_jar 216 = .ok (.iadd, 1) := by decide +kernel
theorem dX12_jar_217 : decode cX12_jar 217 = .ok (.iaload, 1) := by decide +kernel
theorem dX12_jar_218 : decode cX12_jar 218 = .ok (.ireturn, 1) := by decide +kernel
theorem dX12_jar_219 : decode cX12_jar 219 = .ok (.aload_n 0, 1) := by decide +kernel
theorem dX12_jar_220 : decode cX12_jar 220 = .ok (.iconst 5, 1) := by decide +kernel
theorem dX12_jar_221 : decode cX12_jar 221 = .ok (.invokevirtual 321, 3) := by decide +kernel
theorem dX12_jar_224 : decode cX12_jar 224 = .ok (.ireturn, 1) := by decide +kernel
theorem dX12_day_0 : decode cX12_day 0 = .ok (.aload_n 0, 1) := by decide +kernel
theorem dX12_day_1 : decode cX12_day 1 = .ok (.iconst 0, 1) := by decide +kernel
theorem dX12_day_2 : decode cX12_day 2 = .ok (.putfield 89, 3) := by decide +kernel
theorem dX12_day_5 : decode cX12_day 5 = .ok (.aload_n 0, 1) := by decide +kernel
theorem dX12_day_6 : decode cX12_day 6 = .ok (.iconst 0, 1) := by decide +kernel
theorem dX12_day_7 : decode cX12_day 7 = .ok (.putfield 92, 3) := by decide +kernel
theorem dX12_day_10 : decode cX12_day 10 = .ok (.iload_n 1, 1) := by decide +kernel
theorem dX12_day_11 : decode cX12_day 11 = .ok (.i2l, 1) := by decide +kernel
theorem dX12_day_12 : decode cX12_day 12 = .ok (.lconst 0, 1) := by decide +kernel
theorem dX12_day_13 : decode cX12_day 13 = .ok (.ldc2_w 333, 3) := by decide +kernel
theorem dX12_day_16 : decode cX12_day 16 = .ok (.invokestatic 124, 3) := by decide +kernel
theorem dX12_day_19 : decode cX12_day 19 = .ok (.ifCond .ne 9, 3) := by decide +kernel
theorem dX12_day_22 : decode cX12_day 22 = .ok (.aload_n 0, 1) := by decide +kernel
theorem dX12_day_23 : decode cX12_day 23 = .ok (.iconst 5, 1) := by decide +kernel
theorem dX12_day_24 : decode cX12_day 24 = .ok (.invokevirtual 104, 3) := by decide +kernel
theorem dX12_day_27 : decode cX12_day 27 = .ok (.ireturn, 1) := by decide +kernel
theorem dX12_day_28 : decode cX12_day 28 = .ok (.aload_n 0, 1) := by decide +kernel
theorem dX12_day_29 : decode cX12_day 29 = .ok (.getfield 35, 3) := by decide +kernel
theorem dX12_day_32 : decode cX12_day 32 = .ok (.iconst 0, 1) := by decide +kernel
theorem dX12_day_33 : decode cX12_day 33 = .ok (.iload_n 1, 1) := by decide +kernel
theorem dX12_day_34 : decode cX12_day 34 = .ok (.iastore, 1) := by decide +kernel
theorem dX12_day_35 : decode cX12_day 35 = .ok (.iconst 1, 1) := by decide +kernel
theorem dX12_day_36 : decode cX12_day 36 = .ok (.ireturn, 1) := by decide +kernel
theorem dX12_goneOf_0 : decode cX12_goneOf 0 = .ok (.aload_n 0, 1) := by decide +kernel
theorem dX12_goneOf_1 : decode cX12_goneOf 1 = .ok (.getfield 35, 3) := by decide +kernel
theorem dX12_goneOf_4 : decode cX12_goneOf 4 = .ok (.sipush 148, 3) := by decide +kernel
theorem dX12_goneOf_7 : decode cX12_goneOf 7 = .ok (.iload_n 1, 1) := by decide +kernel
theorem dX12_goneOf_8 : decode cX12_goneOf 8 = .ok (.iadd, 1) := by decide +kernel
theorem dX12_goneOf_9 : decode cX12_goneOf 9 = .ok (.iaload, 1) := by decide +kernel
theorem dX12_goneOf_10 : decode cX12_goneOf 10 = .ok (.ifCond .ne 7, 3) := by decide +kernel
theorem dX12_goneOf_13 : decode cX12_goneOf 13 = .ok (.iconst 0, 1) := by decide +kernel
theorem dX12_goneOf_14 : decode cX12_goneOf 14 = .ok (.goto 19, 3) := by decide +kernel
theorem dX12_goneOf_17 : decode cX12_goneOf 17 = .ok (.iload_n 2, 1) := by decide +kernel
theorem dX12_goneOf_18 : decode cX12_goneOf 18 = .ok (.iload_n 3, 1) := by decide +kernel
theorem dX12_goneOf_19 : decode cX12_goneOf 19 = .ok (.aload_n 0, 1) := by decide +kernel
theorem dX12_goneOf_20 : decode cX12_goneOf 20 = .ok (.getfield 35, 3) := by decide +kernel
theorem dX12_goneOf_23 : decode cX12_goneOf 23 = .ok (.sipush 148, 3) := by decide +kernel
theorem dX12_goneOf_26 : decode cX12_goneOf 26 = .ok (.iload_n 1, 1) := by decide +kernel
theorem dX12_goneOf_27 : decode cX12_goneOf 27 = .ok (.iadd, 1) := by decide +kernel
theorem dX12_goneOf_28 : decode cX12_goneOf 28 = .ok (.iaload, 1) := by decide +kernel
theorem dX12_goneOf_29 : decode cX12_goneOf 29 = .ok (.idiv, 1) := by decide +kernel
theorem dX12_goneOf_30 : decode cX12_goneOf 30 = .ok (.invokestatic 283, 3) := by decide +kernel
theorem dX12_goneOf_33 : decode cX12_goneOf 33 = .ok (.ireturn, 1) := by decide +kernel
theorem dX12_headGone_0 : decode cX12_headGone 0 = .ok (.aload_n 0, 1) := by decide +kernel
theorem dX12_headGone_1 : decode cX12_headGone 1 = .ok (.getfield 35, 3) := by decide +kernel
theorem dX12_headGone_4 : decode cX12_headGone 4 = .ok (.sipush 156, 3) := by decide +kernel
theorem dX12_headGone_7 : decode cX12_headGone 7 = .ok (.iload_n 1, 1) := by decide +kernel
theorem dX12_headGone_8 : decode cX12_headGone 8 = .ok (.iadd, 1) := by decide +kernel
theorem dX12_headGone_9 : decode cX12_headGone 9 = .ok (.iaload, 1) := by decide +kernel
theorem dX12_headGone_10 : decode cX12_headGone 10 = .ok (.ifCond .ne 7, 3) := by decide +kernel
theorem dX12_headGone_13 : decode cX12_headGone 13 = .ok (.iload_n 2, 1) := by decide +kernel
theorem dX12_headGone_14 : decode cX12_headGone 14 = .ok (.goto 26, 3) := by decide +kernel
theorem dX12_headGone_17 : decode cX12_headGone 17 = .ok (.aload_n 0, 1) := by decide +kernel
theorem dX12_headGone_18 : decode cX12_headGone 18 = .ok (.getfield 35, 3) := by decide +kernel
theorem dX12_headGone_21 : decode cX12_headGone 21 = .ok (.sipush 156, 3) := by decide +kernel
theorem dX12_headGone_24 : decode cX12_headGone 24 = .ok (.iload_n 1, 1) := by decide +kernel
theorem dX12_headGone_25 : decode cX12_headGone 25 = .ok (.iadd, 1) := by decide +kernel
theorem dX12_headGone_26 : decode cX12_headGone 26 = .ok (.iaload, 1) := by decide +kernel
theorem dX12_headGone_27 : decode cX12_headGone 27 = .ok (.iconst 1, 1) := by decide +kernel
theorem dX12_headGone_28 : decode cX12_headGone 28 = .ok (.if_icmp .ne 7, 3) := by decide +kernel
theorem dX12_headGone_31 : decode cX12_headGone 31 = .ok (.iconst 0, 1) := by decide +kernel
theorem dX12_headGone_32 : decode cX12_headGone 32 = .ok (.goto 8, 3) := by decide +kernel
theorem dX12_headGone_35 : decode cX12_headGone 35 = .ok (.iload_n 2, 1) := by decide +kernel
theorem dX12_headGone_36 : decode cX12_headGone 36 = .ok (.iconst 1, 1) := by decide +kernel
theorem dX12_headGone_37 : decode cX12_headGone 37 = .ok (.iadd, 1) := by decide +kernel
theorem dX12_headGone_38 : decode cX12_headGone 38 = .ok (.iconst 2, 1) := by decide +kernel
theorem dX12_headGone_39 : decode cX12_headGone 39 = .ok (.idiv, 1) := by decide +kernel
theorem dX12_headGone_40 : decode cX12_headGone 40 = .ok (.ireturn, 1) := by decide +kernel
theorem dX12_heardOn_0 : decode cX12_heardOn 0 = .ok (.aload_n 0, 1) := by decide +kernel
theorem dX12_heardOn_1 : decode cX12_heardOn 1 = .ok (.getfield 35, 3) := by decide +kernel
theorem dX12_heardOn_4 : decode cX12_heardOn 4 = .ok (.sipush 188, 3) := by decide +kernel
theorem dX12_heardOn_7 : decode cX12_heardOn 7 = .ok (.iload_n 1, 1) := by decide +kernel
theorem dX12_heardOn_8 : decode cX12_heardOn 8 = .ok (.iadd, 1) := by decide +kernel
theorem dX12_heardOn_9 : decode cX12_heardOn 9 = .ok (.iaload, 1) := by decide +kernel
theorem dX12_heardOn_10 : decode cX12_heardOn 10 = .ok (.ifCond .eq 17, 3) := by decide +kernel
theorem dX12_heardOn_13 : decode cX12_heardOn 13 = .ok (.iload_n 2, 1) := by decide +kernel
theorem dX12_heardOn_14 : decode cX12_heardOn 14 = .ok (.aload_n 0, 1) := by decide +kernel
theorem dX12_heardOn_15 : decode cX12_heardOn 15 = .ok (.getfield 35, 3) := by decide +kernel
theorem dX12_heardOn_18 : decode cX12_heardOn 18 = .ok (.sipush 196, 3) := by decide +kernel
theorem dX12_heardOn_21 : decode cX12_heardOn 21 = .ok (.iload_n 1, 1) := by decide +kernel
theorem dX12_heardOn_22 : decode cX12_heardOn 22 = .ok (.iadd, 1) := by decide +kernel
theorem dX12_heardOn_23 : decode cX12_heardOn 23 = .ok (.iaload, 1) := by decide +kernel
theorem dX12_heardOn_24 : decode cX12_heardOn 24 = .ok (.if_icmp .ge 5, 3) := by decide +kernel
theorem dX12_heardOn_27 : decode cX12_heardOn 27 = .ok (.iconst 0, 1) := by decide +kernel
theorem dX12_heardOn_28 : decode cX12_heardOn 28 = .ok (.ireturn, 1) := by decide +kernel
theorem dX12_heardOn_29 : decode cX12_heardOn 29 = .ok (.aload_n 0, 1) := by decide +kernel
theorem dX12_heardOn_30 : decode cX12_heardOn 30 = .ok (.getfield 35, 3) := by decide +kernel
theorem dX12_heardOn_33 : decode cX12_heardOn 33 = .ok (.sipush 188, 3) := by decide +kernel
theorem dX12_heardOn_36 : decode cX12_heardOn 36 = .ok (.iload_n 1, 1) := by decide +kernel
theorem dX12_heardOn_37 : decode cX12_heardOn 37 = .ok (.iadd, 1) := by decide +kernel
theorem dX12_heardOn_38 : decode cX12_heardOn 38 = .ok (.iaload, 1) := by decide +kernel
theorem dX12_heardOn_39 : decode cX12_heardOn 39 = .ok (.aload_n 0, 1) := by decide +kernel
theorem dX12_heardOn_40 : decode cX12_heardOn 40 = .ok (.iload_n 1, 1) := by decide +kernel
theorem dX12_heardOn_41 : decode cX12_heardOn 41 = .ok (.aload_n 0, 1) := by decide +kernel
theorem dX12_heardOn_42 : decode cX12_heardOn 42 = .ok (.getfield 35, 3) := by decide +kernel
theorem dX12_heardOn_45 : decode cX12_heardOn 45 = .ok (.sipush 188, 3) := by decide +kernel
theorem dX12_heardOn_48 : decode cX12_heardOn 48 = .ok (.iload_n 1, 1) := by decide +kernel
theorem dX12_heardOn_49 : decode cX12_heardOn 49 = .ok (.iadd, 1) := by decide +kernel
theorem dX12_heardOn_50 : decode cX12_heardOn 50 = .ok (.iaload, 1) := by decide +kernel
theorem dX12_heardOn_51 : decode cX12_heardOn 51 = .ok (.iload_n 2, 1) := by decide +kernel
theorem dX12_heardOn_52 : decode cX12_heardOn 52 = .ok (.aload_n 0, 1) := by decide +kernel
theorem dX12_heardOn_53 : decode cX12_heardOn 53 = .ok (.getfield 35, 3) := by decide +kernel
theorem dX12_heardOn_56 : decode cX12_heardOn 56 = .ok (.sipush 196, 3) := by decide +kernel
theorem dX12_heardOn_59 : decode cX12_heardOn 59 = .ok (.iload_n 1, 1) := by decide +kernel
theorem dX12_heardOn_60 : decode cX12_heardOn 60 = .ok (.iadd, 1) := by decide +kernel
theorem dX12_heardOn_61 : decode cX12_heardOn 61 = .ok (.iaload, 1) := by decide +kernel
theorem dX12_heardOn_62 : decode cX12_heardOn 62 = .ok (.isub, 1) := by decide +kernel
theorem dX12_heardOn_63 : decode cX12_heardOn 63 = .ok (.invokevirtual 335, 3) := by decide +kernel
theorem dX12_heardOn_66 : decode cX12_heardOn 66 = .ok (.isub, 1) := by decide +kernel
theorem dX12_heardOn_67 : decode cX12_heardOn 67 = .ok (.ireturn, 1) := by decide +kernel
theorem dX12_heardNow_0 : decode cX12_heardNow 0 = .ok (.aload_n 0, 1) := by decide +kernel
theorem dX12_heardNow_1 : decode cX12_heardNow 1 = .ok (.iload_n 1, 1) := by decide +kernel
theorem dX12_heardNow_2 : decode cX12_heardNow 2 = .ok (.aload_n 0, 1) := by decide +kernel
theorem dX12_heardNow_3 : decode cX12_heardNow 3 = .ok (.getfield 35, 3) := by decide +kernel
theorem dX12_heardNow_6 : decode cX12_heardNow 6 = .ok (.iconst 0, 1) := by decide +kernel
theorem dX12_heardNow_7 : decode cX12_heardNow 7 = .ok (.iaload, 1) := by decide +kernel
theorem dX12_heardNow_8 : decode cX12_heardNow 8 = .ok (.invokevirtual 339, 3) := by decide +kernel
theorem dX12_heardNow_11 : decode cX12_heardNow 11 = .ok (.ireturn, 1) := by decide +kernel
theorem dX12_heardLetter_0 : decode cX12_heardLetter 0 = .ok (.aload_n 0, 1) := by decide +kernel
theorem dX12_heardLetter_1 : decode cX12_heardLetter 1 = .ok (.getfield 35, 3) := by decide +kernel
theorem dX12_heardLetter_4 : decode cX12_heardLetter 4 = .ok (.sipush 212, 3) := by decide +kernel
theorem dX12_heardLetter_7 : decode cX12_heardLetter 7 = .ok (.bipush 12, 2) := by decide +kernel
theorem dX12_heardLetter_9 : decode cX12_heardLetter 9 = .ok (.iload_n 1, 1) := by decide +kernel
theorem dX12_heardLetter_10 : decode cX12_heardLetter 10 = .ok (.imul, 1) := by decide +kernel
theorem dX12_heardLetter_11 : decode cX12_heardLetter 11 = .ok (.iadd, 1) := by decide +kernel
theorem dX12_heardLetter_12 : decode cX12_heardLetter 12 = .ok (.aload_n 0, 1) := by decide +kernel
theorem dX12_heardLetter_13 : decode cX12_heardLetter 13 = .ok (.iload_n 1, 1) := by decide +kernel
theorem dX12_heardLetter_14 : decode cX12_heardLetter 14 = .ok (.aload_n 0, 1) := by decide +kernel
theorem dX12_heardLetter_15 : decode cX12_heardLetter 15 = .ok (.getfield 35, 3) := by decide +kernel
theorem dX12_heardLetter_18 : decode cX12_heardLetter 18 = .ok (.sipush 188, 3) := by decide +kernel
theorem dX12_heardLetter_21 : decode cX12_heardLetter 21 = .ok (.iload_n 1, 1) := by decide +kernel
theorem dX12_heardLetter_22 : decode cX12_heardLetter 22 = .ok (.iadd, 1) := by decide +kernel
theorem dX12_heardLetter_23 : decode cX12_heardLetter 23 = .ok (.iaload, 1) := by decide +kernel
theorem dX12_heardLetter_24 : decode cX12_heardLetter 24 = .ok (.aload_n 0, 1) := by decide +kernel
theorem dX12_heardLetter_25 : decode cX12_heardLetter 25 = .ok (.iload_n 1, 1) := by decide +kernel
theorem dX12_heardLetter_26 : decode cX12_heardLetter 26 = .ok (.invokevirtual 342, 3) := by decide +kernel
theorem dX12_heardLetter_29 : decode cX12_heardLetter 29 = .ok (.isub, 1) := by decide +kernel
theorem dX12_heardLetter_30 : decode cX12_heardLetter 30 = .ok (.invokevirtual 345, 3) := by decide +kernel
theorem dX12_heardLetter_33 : decode cX12_heardLetter 33 = .ok (.iadd, 1) := by decide +kernel
theorem dX12_heardLetter_34 : decode cX12_heardLetter 34 = .ok (.iload_n 2, 1) := by decide +kernel
theorem dX12_heardLetter_35 : decode cX12_heardLetter 35 = .ok (.iadd, 1) := by decide +kernel
theorem dX12_heardLetter_36 : decode cX12_heardLetter 36 = .ok (.iaload, 1) := by decide +kernel
theorem dX12_heardLetter_37 : decode cX12_heardLetter 37 = .ok (.ireturn, 1) := by decide +kernel
theorem dX12_heard_0 : decode cX12_heard 0 = .ok (.aload_n 0, 1) := by decide +kernel
theorem dX12_heard_1 : decode cX12_heard 1 = .ok (.iconst 0, 1) := by decide +kernel
theorem dX12_heard_2 : decode cX12_heard 2 = .ok (.putfield 89, 3) := by decide +kernel
theorem dX12_heard_5 : decode cX12_heard 5 = .ok (.aload_n 0, 1) := by decide +kernel
theorem dX12_heard_6 : decode cX12_heard 6 = .ok (.iconst 0, 1) := by decide +kernel
theorem dX12_heard_7 : decode cX12_heard 7 = .ok (.putfield 92, 3) := by decide +kernel
theorem dX12_heard_10 : decode cX12_heard 10 = .ok (.aload_n 0, 1) := by decide +kernel
theorem dX12_heard_11 : decode cX12_heard 11 = .ok (.iload_n 1, 1) := by decide +kernel
theorem dX12_heard_12 : decode cX12_heard 12 = .ok (.invokevirtual 330, 3) := by decide +kernel
theorem dX12_heard_15 : decode cX12_heard 15 = .ok (.ifCond .eq 11, 3) := by decide +kernel
theorem dX12_heard_18 : decode cX12_heard 18 = .ok (.aload_n 0, 1) := by decide +kernel
theorem dX12_heard_19 : decode cX12_heard 19 = .ok (.iload_n 1, 1) := by decide +kernel
theorem dX12_heard_20 : decode cX12_heard 20 = .ok (.invokevirtual 342, 3) := by decide +kernel
theorem dX12_heard_23 : decode cX12_heard 23 = .ok (.goto 8, 3) := by decide +kernel
theorem dX12_heard_26 : decode cX12_heard 26 = .ok (.aload_n 0, 1) := by decide +kernel
theorem dX12_heard_27 : decode cX12_heard 27 = .ok (.iconst 2, 1) := by decide +kernel
theorem dX12_heard_28 : decode cX12_heard 28 = .ok (.invokevirtual 321, 3) := by decide +kernel
theorem dX12_heard_31 : decode cX12_heard 31 = .ok (.ireturn, 1) := by decide +kernel
theorem dX12_heardAt_0 : decode cX12_heardAt 0 = .ok (.aload_n 0, 1) := by decide +kernel
theorem dX12_heardAt_1 : decode cX12_heardAt 1 = .ok (.iconst 0, 1) := by decide +kernel
theorem dX12_heardAt_2 : decode cX12_heardAt 2 = .ok (.putfield 89, 3) := by decide +kernel
theorem dX12_heardAt_5 : decode cX12_heardAt 5 = .ok (.aload_n 0, 1) := by decide +kernel
theorem dX12_heardAt_6 : decode cX12_heardAt 6 = .ok (.iconst 0, 1) := by decide +kernel
theorem dX12_heardAt_7 : decode cX12_heardAt 7 = .ok (.putfield 92, 3) := by decide +kernel
theorem dX12_heardAt_10 : decode cX12_heardAt 10 = .ok (.aload_n 0, 1) := by decide +kernel
theorem dX12_heardAt_11 : decode cX12_heardAt 11 = .ok (.iload_n 1, 1) := by decide +kernel
theorem dX12_heardAt_12 : decode cX12_heardAt 12 = .ok (.invokevirtual 330, 3) := by decide +kernel
theorem dX12_heardAt_15 : decode cX12_heardAt 15 = .ok (.ifCond .ne 9, 3) := by decide +kernel
theorem dX12_heardAt_18 : decode cX12_heardAt 18 = .ok (.aload_n 0, 1) := by decide +kernel
theorem dX12_heardAt_19 : decode cX12_heardAt 19 = .ok (.iconst 2, 1) := by decide +kernel
theorem dX12_heardAt_20 : decode cX12_heardAt 20 = .ok (.invokevirtual 321, 3) := by decide +kernel
theorem dX12_heardAt_23 : decode cX12_heardAt 23 = .ok (.ireturn, 1) := by decide +kernel
theorem dX12_heardAt_24 : decode cX12_heardAt 24 = .ok (.iload_n 2, 1) := by decide +kernel
theorem dX12_heardAt_25 : decode cX12_heardAt 25 = .ok (.i2l, 1) := by decide +kernel
theorem dX12_heardAt_26 : decode cX12_heardAt 26 = .ok (.lconst 0, 1) := by decide +kernel
theorem dX12_heardAt_27 : decode cX12_heardAt 27 = .ok (.aload_n 0, 1) := by decide +kernel
theorem dX12_heardAt_28 : decode cX12_heardAt 28 = .ok (.iload_n 1, 1) := by decide +kernel
theorem dX12_heardAt_29 : decode cX12_heardAt 29 = .ok (.invokevirtual 342, 3) := by decide +kernel
theorem dX12_heardAt_32 : decode cX12_heardAt 32 = .ok (.iconst 1, 1) := by decide +kernel
theorem dX12_heardAt_33 : decode cX12_heardAt 33 = .ok (.isub, 1) := by decide +kernel
theorem dX12_heardAt_34 : decode cX12_heardAt 34 = .ok (.i2l, 1) := by decide +kernel
theorem dX12_heardAt_35 : decode cX12_heardAt 35 = .ok (.invokestatic 124, 3) := by decide +kernel
theorem dX12_heardAt_38 : decode cX12_heardAt 38 = .ok (.ifCond .eq 12, 3) := by decide +kernel
theorem dX12_heardAt_41 : decode cX12_heardAt 41 = .ok (.aload_n 0, 1) := by decide +kernel
theorem dX12_heardAt_42 : decode cX12_heardAt 42 = .ok (.iload_n 1, 1) := by decide +kernel
theorem dX12_heardAt_43 : decode cX12_heardAt 43 = .ok (.iload_n 2, 1) := by decide +kernel
theorem dX12_heardAt_44 : decode cX12_heardAt 44 = .ok (.invokevirtual 348, 3) := by decide +kernel
theorem dX12_heardAt_47 : decode cX12_heardAt 47 = .ok (.goto 9, 3) := by decide +kernel
theorem dX12_heardAt_50 : decode cX12_heardAt 50 = .ok (.aload_n 0, 1) := by decide +kernel
theorem dX12_heardAt_51 : decode cX12_heardAt 51 = .ok (.bipush 8, 2) := by decide +kernel
theorem dX12_heardAt_53 : decode cX12_heardAt 53 = .ok (.invokevirtual 321, 3) := by decide +kernel
theorem dX12_heardAt_56 : decode cX12_heardAt 56 = .ok (.ireturn, 1) := by decide +kernel
theorem dX12_whyNoRow_0 : decode cX12_whyNoRow 0 = .ok (.aload_n 0, 1) := by decide +kernel
theorem dX12_whyNoRow_1 : decode cX12_whyNoRow 1 = .ok (.getfield 17, 3) := by decide +kernel
theorem dX12_whyNoRow_4 : decode cX12_whyNoRow 4 = .ok (.iload_n 1, 1) := by decide +kernel
theorem dX12_whyNoRow_5 : decode cX12_whyNoRow 5 = .ok (.iaload, 1) := by decide +kernel
theorem dX12_whyNoRow_6 : decode cX12_whyNoRow 6 = .ok (.ifCond .ge 7, 3) := by decide +kernel
theorem dX12_whyNoRow_9 : decode cX12_whyNoRow 9 = .ok (.iconst 3, 1) := by decide +kernel
theorem dX12_whyNoRow_10 : decode cX12_whyNoRow 10 = .ok (.goto 18, 3) := by decide +kernel
theorem dX12_whyNoRow_13 : decode cX12_whyNoRow 13 = .ok (.aload_n 0, 1) := by decide +kernel
theorem dX12_whyNoRow_14 : decode cX12_whyNoRow 14 = .ok (.getfield 17, 3) := by decide +kernel
theorem dX12_whyNoRow_17 : decode cX12_whyNoRow 17 = .ok (.iload_n 1, 1) := by decide +kernel
theorem dX12_whyNoRow_18 : decode cX12_whyNoRow 18 = .ok (.iaload, 1) := by decide +kernel
theorem dX12_whyNoRow_19 : decode cX12_whyNoRow 19 = .ok (.iload_n 2, 1) := by decide +kernel
theorem dX12_whyNoRow_20 : decode cX12_whyNoRow 20 = .ok (.if_icmp .ge 7, 3) := by decide +kernel
theorem dX12_whyNoRow_23 : decode cX12_whyNoRow 23 = .ok (.iconst 4, 1) := by decide +kernel
theorem dX12_whyNoRow_24 : decode cX12_whyNoRow 24 = .ok (.goto 4, 3) := by decide +kernel
theorem dX12_whyNoRow_27 : decode cX12_whyNoRow 27 = .ok (.iconst 0, 1) := by decide +kernel
theorem dX12_whyNoRow_28 : decode cX12_whyNoRow 28 = .ok (.ireturn, 1) := by decide +kernel
theorem dX12_toTray_0 : decode cX12_toTray 0 = .ok (.aload_n 0, 1) := by decide +kernel
theorem dX12_toTray_1 : decode cX12_toTray 1 = .ok (.getfield 20, 3) := by decide +kernel
theorem dX12_toTray_4 : decode cX12_toTray 4 = .ok (.bipush 60, 2) := by decide +kernel
theorem dX12_toTray_6 : decode cX12_toTray 6 = .ok (.iload_n 1, 1) := by decide +kernel
theorem dX12_toTray_7 : decode cX12_toTray 7 = .ok (.imul, 1) := by decide +kernel
theorem dX12_toTray_8 : decode cX12_toTray 8 = .ok (.iload_n 2, 1) := by decide +kernel
theorem dX12_toTray_9 : decode cX12_toTray 9 = .ok (.iadd, 1) := by decide +kernel
theorem dX12_toTray_10 : decode cX12_toTray 10 = .ok (.iload_n 3, 1) := by decide +kernel
theorem dX12_toTray_11 : decode cX12_toTray 11 = .ok (.i2l, 1) := by decide +kernel
theorem dX12_toTray_12 : decode cX12_toTray 12 = .ok (.lastore, 1) := by decide +kernel
theorem dX12_toTray_13 : decode cX12_toTray 13 = .ok (.return_, 1) := by decide +kernel
theorem dX12_pourOut_0 : decode cX12_pourOut 0 = .ok (.aload_n 0, 1) := by decide +kernel
theorem dX12_pourOut_1 : decode cX12_pourOut 1 = .ok (.iconst 0, 1) := by decide +kernel
theorem dX12_pourOut_2 : decode cX12_pourOut 2 = .ok (.putfield 89, 3) := by decide +kernel
theorem dX12_pourOut_5 : decode cX12_pourOut 5 = .ok (.aload_n 0, 1) := by decide +kernel
theorem dX12_pourOut_6 : decode cX12_pourOut 6 = .ok (.iconst 0, 1) := by decide +kernel
theorem dX12_pourOut_7 : decode cX12_pourOut 7 = .ok (.putfield 92, 3) := by decide +kernel
theorem dX12_pourOut_10 : decode cX12_pourOut 10 = .ok (.aload_n 0, 1) := by decide +kernel
theorem dX12_pourOut_11 : decode cX12_pourOut 11 = .ok (.iload_n 2, 1) := by decide +kernel
theorem dX12_pourOut_12 : decode cX12_pourOut 12 = .ok (.invokevirtual 351, 3) := by decide +kernel
theorem dX12_pourOut_15 : decode cX12_pourOut 15 = .ok (.ifCond .ne 9, 3) := by decide +kernel
theorem dX12_pourOut_18 : decode cX12_pourOut 18 = .ok (.aload_n 0, 1) := by decide +kernel
theorem dX12_pourOut_19 : decode cX12_pourOut 19 = .ok (.iconst 1, 1) := by decide +kernel
theorem dX12_pourOut_20 : decode cX12_pourOut 20 = .ok (.invokevirtual 321, 3) := by decide +kernel
theorem dX12_pourOut_23 : decode cX12_pourOut 23 = .ok (.ireturn, 1) := by decide +kernel
theorem dX12_pourOut_24 : decode cX12_pourOut 24 = .ok (.aload_n 0, 1) := by decide +kernel
theorem dX12_pourOut_25 : decode cX12_pourOut 25 = .ok (.iload_n 1, 1) := by decide +kernel
theorem dX12_pourOut_26 : decode cX12_pourOut 26 = .ok (.invokevirtual 330, 3) := by decide +kernel
theorem dX12_pourOut_29 : decode cX12_pourOut 29 = .ok (.ifCond .ne 9, 3) := by decide +kernel
theorem dX12_pourOut_32 : decode cX12_pourOut 32 = .ok (.aload_n 0, 1) := by decide +kernel
theorem dX12_pourOut_33 : decode cX12_pourOut 33 = .ok (.iconst 2, 1) := by decide +kernel
theorem dX12_pourOut_34 : decode cX12_pourOut 34 = .ok (.invokevirtual 321, 3) := by decide +kernel
theorem dX12_pourOut_37 : decode cX12_pourOut 37 = .ok (.ireturn, 1) := by decide +kernel
theorem dX12_pourOut_38 : decode cX12_pourOut 38 = .ok (.aload_n 0, 1) := by decide +kernel
theorem dX12_pourOut_39 : decode cX12_pourOut 39 = .ok (.iload_n 1, 1) := by decide +kernel
theorem dX12_pourOut_40 : decode cX12_pourOut 40 = .ok (.invokevirtual 342, 3) := by decide +kernel
theorem dX12_pourOut_43 : decode cX12_pourOut 43 = .ok (.istore_n 3, 1) := by decide +kernel
theorem dX12_pourOut_44 : decode cX12_pourOut 44 = .ok (.aload_n 0, 1) := by decide +kernel
theorem dX12_pourOut_45 : decode cX12_pourOut 45 = .ok (.aload_n 0, 1) := by decide +kernel
theorem dX12_pourOut_46 : decode cX12_pourOut 46 = .ok (.iload_n 2, 1) := by decide +kernel
theorem dX12_pourOut_47 : decode cX12_pourOut 47 = .ok (.iload_n 3, 1) := by decide +kernel
theorem dX12_pourOut_48 : decode cX12_pourOut 48 = .ok (.invokevirtual 354, 3) := by decide +kernel
theorem dX12_pourOut_51 : decode cX12_pourOut 51 = .ok (.putfield 92, 3) := by decide +kernel
theorem dX12_pourOut_54 : decode cX12_pourOut 54 = .ok (.aload_n 0, 1) := by decide +kernel
theorem dX12_pourOut_55 : decode cX12_pourOut 55 = .ok (.getfield 92, 3) := by decide +kernel
theorem dX12_pourOut_58 : decode cX12_pourOut 58 = .ok (.ifCond .le 5, 3) := by decide +kernel
theorem dX12_pourOut_61 : decode cX12_pourOut 61 = .ok (.iconst (-1), 1) := by decide +kernel
theorem dX12_pourOut_62 : decode cX12_pourOut 62 = .ok (.ireturn, 1) := by decide +kernel
theorem dX12_pourOut_63 : decode cX12_pourOut 63 = .ok (.iconst 0, 1) := by decide +kernel
theorem dX12_pourOut_64 : decode cX12_pourOut 64 = .ok (.istore 4, 2) := by decide +kernel
theorem dX12_pourOut_66 : decode cX12_pourOut 66 = .ok (.iload 4, 2) := by decide +kernel
theorem dX12_pourOut_68 : decode cX12_pourOut 68 = .ok (.iload_n 3, 1) := by decide +kernel
theorem dX12_pourOut_69 : decode cX12_pourOut 69 = .ok (.if_icmp .ge 23, 3) := by decide +kernel
theorem dX12_pourOut_72 : decode cX12_pourOut 72 = .ok (.aload_n 0, 1) := by decide +kernel
theorem dX12_pourOut_73 : decode cX12_pourOut 73 = .ok (.iload_n 2, 1) := by decide +kernel
theorem dX12_pourOut_74 : decode cX12_pourOut 74 = .ok (.iload 4, 2) := by decide +kernel
theorem dX12_pourOut_76 : decode cX12_pourOut 76 = .ok (.aload_n 0, 1) := by decide +kernel
theorem dX12_pourOut_77 : decode cX12_pourOut 77 = .ok (.iload_n 1, 1) := by decide +kernel
theorem dX12_pourOut_78 : decode cX12_pourOut 78 = .ok (.iload 4, 2) := by decide +kernel
theorem dX12_pourOut_80 : decode cX12_pourOut 80 = .ok (.invokevirtual 348, 3) := by decide +kernel
theorem dX12_pourOut_83 : decode cX12_pourOut 83 = .ok (.invokevirtual 357, 3) := by decide +kernel
theorem dX12_pourOut_86 : decode cX12_pourOut 86 = .ok (.iinc 4 1, 3) := by decide +kernel
theorem dX12_pourOut_89 : decode cX12_pourOut 89 = .ok (.goto (-23), 3) := by decide +kernel
theorem dX12_pourOut_92 : decode cX12_pourOut 92 = .ok (.iload_n 3, 1) := by decide +kernel
theorem dX12_pourOut_93 : decode cX12_pourOut 93 = .ok (.ireturn, 1) := by decide +kernel
theorem dX12_lost_0 : decode cX12_lost 0 = .ok (.aload_n 0, 1) := by decide +kernel
theorem dX12_lost_1 : decode cX12_lost 1 = .ok (.iconst 0, 1) := by decide +kernel
theorem dX12_lost_2 : decode cX12_lost 2 = .ok (.putfield 89, 3) := by decide +kernel
theorem dX12_lost_5 : decode cX12_lost 5 = .ok (.aload_n 0, 1) := by decide +kernel
theorem dX12_lost_6 : decode cX12_lost 6 = .ok (.iconst 0, 1) := by decide +kernel
theorem dX12_lost_7 : decode cX12_lost 7 = .ok (.putfield 92, 3) := by decide +kernel
theorem dX12_lost_10 : decode cX12_lost 10 = .ok (.aload_n 0, 1) := by decide +kernel
theorem dX12_lost_11 : decode cX12_lost 11 = .ok (.iload_n 1, 1) := by decide +kernel
theorem dX12_lost_12 : decode cX12_lost 12 = .ok (.invokevirtual 330, 3) := by decide +kernel
theorem dX12_lost_15 : decode cX12_lost 15 = .ok (.ifCond .ne 9, 3) := by decide +kernel
theorem dX12_lost_18 : decode cX12_lost 18 = .ok (.aload_n 0, 1) := by decide +kernel
theorem dX12_lost_19 : decode cX12_lost 19 = .ok (.iconst 2, 1) := by decide +kernel
theorem dX12_lost_20 : decode cX12_lost 20 = .ok (.invokevirtual 321, 3) := by decide +kernel
theorem dX12_lost_23 : decode cX12_lost 23 = .ok (.ireturn, 1) := by decide +kernel
theorem dX12_lost_24 : decode cX12_lost 24 = .ok (.aload_n 0, 1) := by decide +kernel
theorem dX12_lost_25 : decode cX12_lost 25 = .ok (.getfield 35, 3) := by decide +kernel
theorem dX12_lost_28 : decode cX12_lost 28 = .ok (.iconst 0, 1) := by decide +kernel
theorem dX12_lost_29 : decode cX12_lost 29 = .ok (.iaload, 1) := by decide +kernel
theorem dX12_lost_30 : decode cX12_lost 30 = .ok (.aload_n 0, 1) := by decide +kernel
theorem dX12_lost_31 : decode cX12_lost 31 = .ok (.getfield 35, 3) := by decide +kernel
theorem dX12_lost_34 : decode cX12_lost 34 = .ok (.sipush 196, 3) := by decide +kernel
theorem dX12_lost_37 : decode cX12_lost 37 = .ok (.iload_n 1, 1) := by decide +kernel
theorem dX12_lost_38 : decode cX12_lost 38 = .ok (.iadd, 1) := by decide +kernel
theorem dX12_lost_39 : decode cX12_lost 39 = .ok (.iaload, 1) := by decide +kernel
theorem dX12_lost_40 : decode cX12_lost 40 = .ok (.if_icmp .ge 7, 3) := by decide +kernel
theorem dX12_lost_43 : decode cX12_lost 43 = .ok (.iconst 0, 1) := by decide +kernel
theorem dX12_lost_44 : decode cX12_lost 44 = .ok (.goto 35, 3) := by decide +kernel
theorem dX12_lost_47 : decode cX12_lost 47 = .ok (.aload_n 0, 1) := by decide +kernel
theorem dX12_lost_48 : decode cX12_lost 48 = .ok (.iload_n 1, 1) := by decide +kernel
theorem dX12_lost_49 : decode cX12_lost 49 = .ok (.aload_n 0, 1) := by decide +kernel
theorem dX12_lost_50 : decode cX12_lost 50 = .ok (.getfield 35, 3) := by decide +kernel
theorem dX12_lost_53 : decode cX12_lost 53 = .ok (.sipush 188, 3) := by decide +kernel
theorem dX12_lost_56 : decode cX12_lost 56 = .ok (.iload_n 1, 1) := by decide +kernel
theorem dX12_lost_57 : decode cX12_lost 57 = .ok (.iadd, 1) := by decide +kernel
theorem dX12_lost_58 : decode cX12_lost 58 = .ok (.iaload, 1) := by decide +kernel
theorem dX12_lost_59 : decode cX12_lost 59 = .ok (.aload_n 0, 1) := by decide +kernel
theorem dX12_lost_60 : decode cX12_lost 60 = .ok (.getfield 35, 3) := by decide +kernel
theorem dX12_lost_63 : decode cX12_lost 63 = .ok (.iconst 0, 1) := by decide +kernel
theorem dX12_lost_64 : decode cX12_lost 64 = .ok (.iaload, 1) := by decide +kernel
theorem dX12_lost_65 : decode cX12_lost 65 = .ok (.aload_n 0, 1) := by decide +kernel
theorem dX12_lost_66 : decode cX12_lost 66 = .ok (.getfield 35, 3) := by decide +kernel
theorem dX12_lost_69 : decode cX12_lost 69 = .ok (.sipush 196, 3) := by decide +kernel
theorem dX12_lost_72 : decode cX12_lost 72 = .ok (.iload_n 1, 1) := by decide +kernel
theorem dX12_lost_73 : decode cX12_lost 73 = .ok (.iadd, 1) := by decide +kernel
theorem dX12_lost_74 : decode cX12_lost 74 = .ok (.iaload, 1) := by decide +kernel
theorem dX12_lost_75 : decode cX12_lost 75 = .ok (.isub, 1) := by decide +kernel
theorem dX12_lost_76 : decode cX12_lost 76 = .ok (.invokevirtual 335, 3) := by decide +kernel
theorem dX12_lost_79 : decode cX12_lost 79 = .ok (.ireturn, 1) := by decide +kernel
theorem dX12_silent_0 : decode cX12_silent 0 = .ok (.aload_n 0, 1) := by decide +kernel
theorem dX12_silent_1 : decode cX12_silent 1 = .ok (.iconst 0, 1) := by decide +kernel
theorem dX12_silent_2 : decode cX12_silent 2 = .ok (.putfield 89, 3) := by decide +kernel
theorem dX12_silent_5 : decode cX12_silent 5 = .ok (.aload_n 0, 1) := by decide +kernel
theorem dX12_silent_6 : decode cX12_silent 6 = .ok (.iconst 0, 1) := by decide +kernel
theorem dX12_silent_7 : decode cX12_silent 7 = .ok (.putfield 92, 3) := by decide +kernel
theorem dX12_silent_10 : decode cX12_silent 10 = .ok (.aload_n 0, 1) := by decide +kernel
theorem dX12_silent_11 : decode cX12_silent 11 = .ok (.iload_n 1, 1) := by decide +kernel
theorem dX12_silent_12 : decode cX12_silent 12 = .ok (.invokevirtual 330, 3) := by decide +kernel
theorem dX12_silent_15 : decode cX12_silent 15 = .ok (.ifCond .ne 9, 3) := by decide +kernel
theorem dX12_silent_18 : decode cX12_silent 18 = .ok (.aload_n 0, 1) := by decide +kernel
theorem dX12_silent_19 : decode cX12_silent 19 = .ok (.iconst 2, 1) := by decide +kernel
theorem dX12_silent_20 : decode cX12_silent 20 = .ok (.invokevirtual 321, 3) := by decide +kernel
theorem dX12_silent_23 : decode cX12_silent 23 = .ok (.ireturn, 1) := by decide +kernel
theorem dX12_silent_24 : decode cX12_silent 24 = .ok (.aload_n 0, 1) := by decide +kernel
theorem dX12_silent_25 : decode cX12_silent 25 = .ok (.getfield 35, 3) := by decide +kernel
theorem dX12_silent_28 : decode cX12_silent 28 = .ok (.sipush 188, 3) := by decide +kernel
theorem dX12_silent_31 : decode cX12_silent 31 = .ok (.iload_n 1, 1) := by decide +kernel
theorem dX12_silent_32 : decode cX12_silent 32 = .ok (.iadd, 1) := by decide +kernel
theorem dX12_silent_33 : decode cX12_silent 33 = .ok (.iaload, 1) := by decide +kernel
theorem dX12_silent_34 : decode cX12_silent 34 = .ok (.ifCond .eq 16, 3) := by decide +kernel
theorem dX12_silent_37 : decode cX12_silent 37 = .ok (.aload_n 0, 1) := by decide +kernel
theorem dX12_silent_38 : decode cX12_silent 38 = .ok (.getfield 35, 3) := by decide +kernel
theorem dX12_silent_41 : decode cX12_silent 41 = .ok (.sipush 148, 3) := by decide +kernel
theorem dX12_silent_44 : decode cX12_silent 44 = .ok (.iload_n 1, 1) := by decide +kernel
theorem dX12_silent_45 : decode cX12_silent 45 = .ok (.iadd, 1) := by decide +kernel
theorem dX12_silent_46 : decode cX12_silent 46 = .ok (.iaload, 1) := by decide +kernel
theorem dX12_silent_47 : decode cX12_silent 47 = .ok (.ifCond .ne 12, 3) := by decide +kernel
theorem dX12_silent_50 : decode cX12_silent 50 = .ok (.aload_n 0, 1) := by decide +kernel
theorem dX12_silent_51 : decode cX12_silent 51 = .ok (.bipush 8, 2) := by decide +kernel
theorem dX12_silent_53 : decode cX12_silent 53 = .ok (.invokevirtual 321, 3) := by decide +kernel
theorem dX12_silent_56 : decode cX12_silent 56 = .ok (.goto 35, 3) := by decide +kernel
theorem dX12_silent_59 : decode cX12_silent 59 = .ok (.aload_n 0, 1) := by decide +kernel
theorem dX12_silent_60 : decode cX12_silent 60 = .ok (.getfield 35, 3) := by decide +kernel
theorem dX12_silent_63 : decode cX12_silent 63 = .ok (.sipush 196, 3) := by decide +kernel
theorem dX12_silent_66 : decode cX12_silent 66 = .ok (.iload_n 1, 1) := by decide +kernel
theorem dX12_silent_67 : decode cX12_silent 67 = .ok (.iadd, 1) := by decide +kernel
theorem dX12_silent_68 : decode cX12_silent 68 = .ok (.iaload, 1) := by decide +kernel
theorem dX12_silent_69 : decode cX12_silent 69 = .ok (.aload_n 0, 1) := by decide +kernel
theorem dX12_silent_70 : decode cX12_silent 70 = .ok (.getfield 35, 3) := by decide +kernel
theorem dX12_silent_73 : decode cX12_silent 73 = .ok (.sipush 188, 3) := by decide +kernel
theorem dX12_silent_76 : decode cX12_silent 76 = .ok (.iload_n 1, 1) := by decide +kernel
theorem dX12_silent_77 : decode cX12_silent 77 = .ok (.iadd, 1) := by decide +kernel
theorem dX12_silent_78 : decode cX12_silent 78 = .ok (.iaload, 1) := by decide +kernel
theorem dX12_silent_79 : decode cX12_silent 79 = .ok (.aload_n 0, 1) := by decide +kernel
theorem dX12_silent_80 : decode cX12_silent 80 = .ok (.getfield 35, 3) := by decide +kernel
theorem dX12_silent_83 : decode cX12_silent 83 = .ok (.sipush 148, 3) := by decide +kernel
theorem dX12_silent_86 : decode cX12_silent 86 = .ok (.iload_n 1, 1) := by decide +kernel
theorem dX12_silent_87 : decode cX12_silent 87 = .ok (.iadd, 1) := by decide +kernel
theorem dX12_silent_88 : decode cX12_silent 88 = .ok (.iaload, 1) := by decide +kernel
theorem dX12_silent_89 : decode cX12_silent 89 = .ok (.imul, 1) := by decide +kernel
theorem dX12_silent_90 : decode cX12_silent 90 = .ok (.iadd, 1) := by decide +kernel
theorem dX12_silent_91 : decode cX12_silent 91 = .ok (.ireturn, 1) := by decide +kernel
theorem dX12_since_0 : decode cX12_since 0 = .ok (.aload_n 0, 1) := by decide +kernel
theorem dX12_since_1 : decode cX12_since 1 = .ok (.iconst 0, 1) := by decide +kernel
theorem dX12_since_2 : decode cX12_since 2 = .ok (.putfield 89, 3) := by decide +kernel
theorem dX12_since_5 : decode cX12_since 5 = .ok (.aload_n 0, 1) := by decide +kernel
theorem dX12_since_6 : decode cX12_since 6 = .ok (.iconst 0, 1) := by decide +kernel
theorem dX12_since_7 : decode cX12_since 7 = .ok (.putfield 92, 3) := by decide +kernel
theorem dX12_since_10 : decode cX12_since 10 = .ok (.aload_n 0, 1) := by decide +kernel
theorem dX12_since_11 : decode cX12_since 11 = .ok (.iload_n 1, 1) := by decide +kernel
theorem dX12_since_12 : decode cX12_since 12 = .ok (.invokevirtual 330, 3) := by decide +kernel
theorem dX12_since_15 : decode cX12_since 15 = .ok (.ifCond .ne 9, 3) := by decide +kernel
theorem dX12_since_18 : decode cX12_since 18 = .ok (.aload_n 0, 1) := by decide +kernel
theorem dX12_since_19 : decode cX12_since 19 = .ok (.iconst 2, 1) := by decide +kernel
theorem dX12_since_20 : decode cX12_since 20 = .ok (.invokevirtual 321, 3) := by decide +kernel
theorem dX12_since_23 : decode cX12_since 23 = .ok (.ireturn, 1) := by decide +kernel
theorem dX12_since_24 : decode cX12_since 24 = .ok (.iload_n 2, 1) := by decide +kernel
theorem dX12_since_25 : decode cX12_since 25 = .ok (.i2l, 1) := by decide +kernel
theorem dX12_since_26 : decode cX12_since 26 = .ok (.lconst 0, 1) := by decide +kernel
theorem dX12_since_27 : decode cX12_since 27 = .ok (.ldc2_w 361, 3) := by decide +kernel
theorem dX12_since_30 : decode cX12_since 30 = .ok (.invokestatic 124, 3) := by decide +kernel
theorem dX12_since_33 : decode cX12_since 33 = .ok (.ifCond .eq 13, 3) := by decide +kernel
theorem dX12_since_36 : decode cX12_since 36 = .ok (.iload_n 3, 1) := by decide +kernel
theorem dX12_since_37 : decode cX12_since 37 = .ok (.i2l, 1) := by decide +kernel
theorem dX12_since_38 : decode cX12_since 38 = .ok (.lconst 0, 1) := by decide +kernel
theorem dX12_since_39 : decode cX12_since 39 = .ok (.lconst 1, 1) := by decide +kernel
theorem dX12_since_40 : decode cX12_since 40 = .ok (.invokestatic 124, 3) := by decide +kernel
theorem dX12_since_43 : decode cX12_since 43 = .ok (.ifCond .ne 9, 3) := by decide +kernel
theorem dX12_since_46 : decode cX12_since 46 = .ok (.aload_n 0, 1) := by decide +kernel
theorem dX12_since_47 : decode cX12_since 47 = .ok (.iconst 5, 1) := by decide +kernel
theorem dX12_since_48 : decode cX12_since 48 = .ok (.invokevirtual 321, 3) := by decide +kernel
theorem dX12_since_51 : decode cX12_since 51 = .ok (.ireturn, 1) := by decide +kernel
theorem dX12_since_52 : decode cX12_since 52 = .ok (.aload_n 0, 1) := by decide +kernel
theorem dX12_since_53 : decode cX12_since 53 = .ok (.getfield 35, 3) := by decide +kernel
theorem dX12_since_56 : decode cX12_since 56 = .ok (.sipush 188, 3) := by decide +kernel
theorem dX12_since_59 : decode cX12_since 59 = .ok (.iload_n 1, 1) := by decide +kernel
theorem dX12_since_60 : decode cX12_since 60 = .ok (.iadd, 1) := by decide +kernel
theorem dX12_since_61 : decode cX12_since 61 = .ok (.iaload, 1) := by decide +kernel
theorem dX12_since_62 : decode cX12_since 62 = .ok (.iload_n 2, 1) := by decide +kernel
theorem dX12_since_63 : decode cX12_since 63 = .ok (.isub, 1) := by decide +kernel
theorem dX12_since_64 : decode cX12_since 64 = .ok (.istore 4, 2) := by decide +kernel
theorem dX12_since_66 : decode cX12_since 66 = .ok (.aload_n 0, 1) := by decide +kernel
theorem dX12_since_67 : decode cX12_since 67 = .ok (.getfield 35, 3) := by decide +kernel
theorem dX12_since_70 : decode cX12_since 70 = .ok (.sipush 188, 3) := by decide +kernel
theorem dX12_since_73 : decode cX12_since 73 = .ok (.iload_n 1, 1) := by decide +kernel
theorem dX12_since_74 : decode cX12_since 74 = .ok (.iadd, 1) := by decide +kernel
theorem dX12_since_75 : decode cX12_since 75 = .ok (.iaload, 1) := by decide +kernel
theorem dX12_since_76 : decode cX12_since 76 = .ok (.ifCond .eq 40, 3) := by decide +kernel
theorem dX12_since_79 : decode cX12_since 79 = .ok (.iload 4, 2) := by decide +kernel
theorem dX12_since_81 : decode cX12_since 81 = .ok (.ifCond .lt 35, 3) := by decide +kernel
theorem dX12_since_84 : decode cX12_since 84 = .ok (.aload_n 0, 1) := by decide +kernel
theorem dX12_since_85 : decode cX12_since 85 = .ok (.getfield 35, 3) := by decide +kernel
theorem dX12_since_88 : decode cX12_since 88 = .ok (.sipush 148, 3) := by decide +kernel
theorem dX12_since_91 : decode cX12_since 91 = .ok (.iload_n 1, 1) := by decide +kernel
theorem dX12_since_92 : decode cX12_since 92 = .ok (.iadd, 1) := by decide +kernel
theorem dX12_since_93 : decode cX12_since 93 = .ok (.iaload, 1) := by decide +kernel
theorem dX12_since_94 : decode cX12_since 94 = .ok (.ifCond .ne 13, 3) := by decide +kernel
theorem dX12_since_97 : decode cX12_since 97 = .ok (.iload 4, 2) := by decide +kernel
theorem dX12_since_99 : decode cX12_since 99 = .ok (.ifCond .gt 17, 3) := by decide +kernel
theorem dX12_since_102 : decode cX12_since 102 = .ok (.iload_n 3, 1) := by decide +kernel
theorem dX12_since_103 : decode cX12_since 103 = .ok (.iconst 1, 1) := by decide +kernel
theorem dX12_since_104 : decode cX12_since 104 = .ok (.if_icmp .eq 12, 3) := by decide +kernel
theorem dX12_since_107 : decode cX12_since 107 = .ok (.iload_n 3, 1) := by decide +kernel
theorem dX12_since_108 : decode cX12_since 108 = .ok (.iconst 1, 1) := by decide +kernel
theorem dX12_since_109 : decode cX12_since 109 = .ok (.if_icmp .ne 14, 3) := by decide +kernel
theorem dX12_since_112 : decode cX12_since 112 = .ok (.iload_n 2, 1) := by decide +kernel
theorem dX12_since_113 : decode cX12_since 113 = .ok (.ifCond .ne 10, 3) := by decide +kernel
theorem dX12_since_116 : decode cX12_since 116 = .ok (.aload_n 0, 1) := by decide +kernel
theorem dX12_since_117 : decode cX12_since 117 = .ok (.bipush 8, 2) := by decide +kernel
theorem dX12_since_119 : decode cX12_since 119 = .ok (.invokevirtual 321, 3) := by decide +kernel
theorem dX12_since_122 : decode cX12_since 122 = .ok (.ireturn, 1) := by decide +kernel
theorem dX12_since_123 : decode cX12_since 123 = .ok (.aload_n 0, 1) := by decide +kernel
theorem dX12_since_124 : decode cX12_since 124 = .ok (.getfield 35, 3) := by decide +kernel
theorem dX12_since_127 : decode cX12_since 127 = .ok (.sipush 196, 3) := by decide +kernel
theorem dX12_since_130 : decode cX12_since 130 = .ok (.iload_n 1, 1) := by decide +kernel
theorem dX12_since_131 : decode cX12_since 131 = .ok (.iadd, 1) := by decide +kernel
theorem dX12_since_132 : decode cX12_since 132 = .ok (.iaload, 1) := by decide +kernel
theorem dX12_since_133 : decode cX12_since 133 = .ok (.iload 4, 2) := by decide +kernel
theorem dX12_since_135 : decode cX12_since 135 = .ok (.aload_n 0, 1) := by decide +kernel
theorem dX12_since_136 : decode cX12_since 136 = .ok (.getfield 35, 3) := by decide +kernel
theorem dX12_since_139 : decode cX12_since 139 = .ok (.sipush 148, 3) := by decide +kernel
theorem dX12_since_142 : decode cX12_since 142 = .ok (.iload_n 1, 1) := by decide +kernel
theorem dX12_since_143 : decode cX12_since 143 = .ok (.iadd, 1) := by decide +kernel
theorem dX12_since_144 : decode cX12_since 144 = .ok (.iaload, 1) := by decide +kernel
theorem dX12_since_145 : decode cX12_since 145 = .ok (.imul, 1) := by decide +kernel
theorem dX12_since_146 : decode cX12_since 146 = .ok (.iadd, 1) := by decide +kernel
theorem dX12_since_147 : decode cX12_since 147 = .ok (.istore 5, 2) := by decide +kernel
theorem dX12_since_149 : decode cX12_since 149 = .ok (.iload_n 3, 1) := by decide +kernel
theorem dX12_since_150 : decode cX12_since 150 = .ok (.ifCond .ne 8, 3) := by decide +kernel
theorem dX12_since_153 : decode cX12_since 153 = .ok (.iload 5, 2) := by decide +kernel
theorem dX12_since_155 : decode cX12_since 155 = .ok (.goto 18, 3) := by decide +kernel
theorem dX12_since_158 : decode cX12_since 158 = .ok (.iload 5, 2) := by decide +kernel
theorem dX12_since_160 : decode cX12_since 160 = .ok (.aload_n 0, 1) := by decide +kernel
theorem dX12_since_161 : decode cX12_since 161 = .ok (.getfield 35, 3) := by decide +kernel
theorem dX12_since_164 : decode cX12_since 164 = .ok (.sipush 148, 3) := by decide +kernel
theorem dX12_since_167 : decode cX12_since 167 = .ok (.iload_n 1, 1) := by decide +kernel
theorem dX12_since_168 : decode cX12_since 168 = .ok (.iadd, 1) := by decide +kernel
theorem dX12_since_169 : decode cX12_since 169 = .ok (.iaload, 1) := by decide +kernel
theorem dX12_since_170 : decode cX12_since 170 = .ok (.iadd, 1) := by decide +kernel
theorem dX12_since_171 : decode cX12_since 171 = .ok (.iconst 1, 1) := by decide +kernel
theorem dX12_since_172 : decode cX12_since 172 = .ok (.isub, 1) := by decide +kernel
theorem dX12_since_173 : decode cX12_since 173 = .ok (.ireturn, 1) := by decide +kernel
theorem dX12_loudest_0 : decode cX12_loudest 0 = .ok (.aload_n 0, 1) := by decide +kernel
theorem dX12_loudest_1 : decode cX12_loudest 1 = .ok (.iconst 0, 1) := by decide +kernel
theorem dX12_loudest_2 : decode cX12_loudest 2 = .ok (.putfield 89, 3) := by decide +kernel
theorem dX12_loudest_5 : decode cX12_loudest 5 = .ok (.aload_n 0, 1) := by decide +kernel
theorem dX12_loudest_6 : decode cX12_loudest 6 = .ok (.iconst 0, 1) := by decide +kernel
theorem dX12_loudest_7 : decode cX12_loudest 7 = .ok (.putfield 92, 3) := by decide +kernel
theorem dX12_loudest_10 : decode cX12_loudest 10 = .ok (.iload_n 1, 1) := by decide +kernel
theorem dX12_loudest_11 : decode cX12_loudest 11 = .ok (.i2l, 1) := by decide +kernel
theorem dX12_loudest_12 : decode cX12_loudest 12 = .ok (.lconst 0, 1) := by decide +kernel
theorem dX12_loudest_13 : decode cX12_loudest 13 = .ok (.ldc2_w 363, 3) := by decide +kernel
theorem dX12_loudest_16 : decode cX12_loudest 16 = .ok (.invokestatic 124, 3) := by decide +kernel
theorem dX12_loudest_19 : decode cX12_loudest 19 = .ok (.ifCond .eq 13, 3) := by decide +kernel
theorem dX12_loudest_22 : decode cX12_loudest 22 = .ok (.iload_n 2, 1) := by decide +kernel
theorem dX12_loudest_23 : decode cX12_loudest 23 = .ok (.i2l, 1) := by decide +kernel
theorem dX12_loudest_24 : decode cX12_loudest 24 = .ok (.lconst 0, 1) := by decide +kernel
theorem dX12_loudest_25 : decode cX12_loudest 25 = .ok (.lconst 1, 1) := by decide +kernel
theorem dX12_loudest_26 : decode cX12_loudest 26 = .ok (.invokestatic 124, 3) := by decide +kernel
theorem dX12_loudest_29 : decode cX12_loudest 29 = .ok (.ifCond .ne 9, 3) := by decide +kernel
theorem dX12_loudest_32 : decode cX12_loudest 32 = .ok (.aload_n 0, 1) := by decide +kernel
theorem dX12_loudest_33 : decode cX12_loudest 33 = .ok (.iconst 5, 1) := by decide +kernel
theorem dX12_loudest_34 : decode cX12_loudest 34 = .ok (.invokevirtual 321, 3) := by decide +kernel
theorem dX12_loudest_37 : decode cX12_loudest 37 = .ok (.ireturn, 1) := by decide +kernel
theorem dX12_loudest_38 : decode cX12_loudest 38 = .ok (.iconst (-1), 1) := by decide +kernel
theorem dX12_loudest_39 : decode cX12_loudest 39 = .ok (.istore_n 3, 1) := by decide +kernel
theorem dX12_loudest_40 : decode cX12_loudest 40 = .ok (.iconst (-1), 1) := by decide +kernel
theorem dX12_loudest_41 : decode cX12_loudest 41 = .ok (.istore 4, 2) := by decide +kernel
theorem dX12_loudest_43 : decode cX12_loudest 43 = .ok (.aload_n 0, 1) := by decide +kernel
theorem dX12_loudest_44 : decode cX12_loudest 44 = .ok (.getfield 35, 3) := by decide +kernel
theorem dX12_loudest_47 : decode cX12_loudest 47 = .ok (.iconst 0, 1) := by decide +kernel
theorem dX12_loudest_48 : decode cX12_loudest 48 = .ok (.iaload, 1) := by decide +kernel
theorem dX12_loudest_49 : decode cX12_loudest 49 = .ok (.istore 5, 2) := by decide +kernel
theorem dX12_loudest_51 : decode cX12_loudest 51 = .ok (.iload 5, 2) := by decide +kernel
theorem dX12_loudest_53 : decode cX12_loudest 53 = .ok (.aload_n 0, 1) := by decide +kernel
theorem dX12_loudest_54 : decode cX12_loudest 54 = .ok (.getfield 35, 3) := by decide +kernel
theorem dX12_loudest_57 : decode cX12_loudest 57 = .ok (.iconst 0, 1) := by decide +kernel
theorem dX12_loudest_58 : decode cX12_loudest 58 = .ok (.iaload, 1) := by decide +kernel
theorem dX12_loudest_59 : decode cX12_loudest 59 = .ok (.iload_n 1, 1) := by decide +kernel
theorem dX12_loudest_60 : decode cX12_loudest 60 = .ok (.iadd, 1) := by decide +kernel
theorem dX12_loudest_61 : decode cX12_loudest 61 = .ok (.if_icmp .gt 62, 3) := by decide +kernel
theorem dX12_loudest_64 : decode cX12_loudest 64 = .ok (.iconst 0, 1) := by decide +kernel
theorem dX12_loudest_65 : decode cX12_loudest 65 = .ok (.istore 6, 2) := by decide +kernel
theorem dX12_loudest_67 : decode cX12_loudest 67 = .ok (.iconst 0, 1) := by decide +kernel
theorem dX12_loudest_68 : decode cX12_loudest 68 = .ok (.istore 7, 2) := by decide +kernel
theorem dX12_loudest_70 : decode cX12_loudest 70 = .ok (.iload 7, 2) := by decide +kernel
theorem dX12_loudest_72 : decode cX12_loudest 72 = .ok (.aload_n 0, 1) := by decide +kernel
theorem dX12_loudest_73 : decode cX12_loudest 73 = .ok (.getfield 35, 3) := by decide +kernel
theorem dX12_loudest_76 : decode cX12_loudest 76 = .ok (.iconst 2, 1) := by decide +kernel
theorem dX12_loudest_77 : decode cX12_loudest 77 = .ok (.iaload, 1) := by decide +kernel
theorem dX12_loudest_78 : decode cX12_loudest 78 = .ok (.if_icmp .ge 22, 3) := by decide +kernel
theorem dX12_loudest_81 : decode cX12_loudest 81 = .ok (.iload 6, 2) := by decide +kernel
theorem dX12_loudest_83 : decode cX12_loudest 83 = .ok (.aload_n 0, 1) := by decide +kernel
theorem dX12_loudest_84 : decode cX12_loudest 84 = .ok (.iload 7, 2) := by decide +kernel
theorem dX12_loudest_86 : decode cX12_loudest 86 = .ok (.iload 5, 2) := by decide +kernel
theorem dX12_loudest_88 : decode cX12_loudest 88 = .ok (.invokevirtual 339, 3) := by decide +kernel
theorem dX12_loudest_91 : decode cX12_loudest 91 = .ok (.iadd, 1) := by decide +kernel
theorem dX12_loudest_92 : decode cX12_loudest 92 = .ok (.istore 6, 2) := by decide +kernel
theorem dX12_loudest_94 : decode cX12_loudest 94 = .ok (.iinc 7 1, 3) := by decide +kernel
theorem dX12_loudest_97 : decode cX12_loudest 97 = .ok (.goto (-27), 3) := by decide +kernel
theorem dX12_loudest_100 : decode cX12_loudest 100 = .ok (.iload 6, 2) := by decide +kernel
theorem dX12_loudest_102 : decode cX12_loudest 102 = .ok (.iload 4, 2) := by decide +kernel
theorem dX12_loudest_104 : decode cX12_loudest 104 = .ok (.if_icmp .gt 6, 3) := by decide +kernel
theorem dX12_loudest_107 : decode cX12_loudest 107 = .ok (.goto 10, 3) := by decide +kernel
theorem dX12_loudest_110 : decode cX12_loudest 110 = .ok (.iload 6, 2) := by decide +kernel
theorem dX12_loudest_112 : decode cX12_loudest 112 = .ok (.istore 4, 2) := by decide +kernel
theorem dX12_loudest_114 : decode cX12_loudest 114 = .ok (.iload 5, 2) := by decide +kernel
theorem dX12_loudest_116 : decode cX12_loudest 116 = .ok (.istore_n 3, 1) := by decide +kernel
theorem dX12_loudest_117 : decode cX12_loudest 117 = .ok (.iinc 5 1, 3) := by decide +kernel
theorem dX12_loudest_120 : decode cX12_loudest 120 = .ok (.goto (-69), 3) := by decide +kernel
theorem dX12_loudest_123 : decode cX12_loudest 123 = .ok (.iload_n 2, 1) := by decide +kernel
theorem dX12_loudest_124 : decode cX12_loudest 124 = .ok (.ifCond .ne 7, 3) := by decide +kernel
theorem dX12_loudest_127 : decode cX12_loudest 127 = .ok (.iload_n 3, 1) := by decide +kernel
theorem dX12_loudest_128 : decode cX12_loudest 128 = .ok (.goto 5, 3) := by decide +kernel
theorem dX12_loudest_131 : decode cX12_loudest 131 = .ok (.iload 4, 2) := by decide +kernel
theorem dX12_loudest_133 : decode cX12_loudest 133 = .ok (.ireturn, 1) := by decide +kernel
theorem dX12_fitsKind_0 : decode cX12_fitsKind 0 = .ok (.iload_n 0, 1) := by decide +kernel
theorem dX12_fitsKind_1 : decode cX12_fitsKind 1 = .ok (.bipush 27, 2) := by decide +kernel
theorem dX12_fitsKind_3 : decode cX12_fitsKind 3 = .ok (.if_icmp .eq 8, 3) := by decide +kernel
theorem dX12_fitsKind_6 : decode cX12_fitsKind 6 = .ok (.iload_n 0, 1) := by decide +kernel
theorem dX12_fitsKind_7 : decode cX12_fitsKind 7 = .ok (.iload_n 1, 1) := by decide +kernel
theorem dX12_fitsKind_8 : decode cX12_fitsKind 8 = .ok (.if_icmp .ne 7, 3) := by decide +kernel
theorem dX12_fitsKind_11 : decode cX12_fitsKind 11 = .ok (.iconst 1, 1) := by decide +kernel
theorem dX12_fitsKind_12 : decode cX12_fitsKind 12 = .ok (.goto 4, 3) := by decide +kernel
theorem dX12_fitsKind_15 : decode cX12_fitsKind 15 = .ok (.iconst 0, 1) := by decide +kernel
theorem dX12_fitsKind_16 : decode cX12_fitsKind 16 = .ok (.ireturn, 1) := by decide +kernel
theorem dX12_mixOf_0 : decode cX12_mixOf 0 = .ok (.iconst 0, 1) := by decide +kernel
theorem dX12_mixOf_1 : decode cX12_mixOf 1 = .ok (.istore_n 3, 1) := by decide +kernel
theorem dX12_mixOf_2 : decode cX12_mixOf 2 = .ok (.iload_n 3, 1) := by decide +kernel
theorem dX12_mixOf_3 : decode cX12_mixOf 3 = .ok (.aload_n 0, 1) := by decide +kernel
theorem dX12_mixOf_4 : decode cX12_mixOf 4 = .ok (.getfield 35, 3) := by decide +kernel
theorem dX12_mixOf_7 : decode cX12_mixOf 7 = .ok (.iconst 3, 1) := by decide +kernel
theorem dX12_mixOf_8 : decode cX12_mixOf 8 = .ok (.iaload, 1) := by decide +kernel
theorem dX12_mixOf_9 : decode cX12_mixOf 9 = .ok (.if_icmp .ge 97, 3) := by decide +kernel
theorem dX12_mixOf_12 : decode cX12_mixOf 12 = .ok (.sipush 308, 3) := by decide +kernel
theorem dX12_mixOf_15 : decode cX12_mixOf 15 = .ok (.iconst 3, 1) := by decide +kernel
theorem dX12_mixOf_16 : decode cX12_mixOf 16 = .ok (.iload_n 3, 1) := by decide +kernel
theorem dX12_mixOf_17 : decode cX12_mixOf 17 = .ok (.imul, 1) := by decide +kernel
theorem dX12_mixOf_18 : decode cX12_mixOf 18 = .ok (.iadd, 1) := by decide +kernel
theorem dX12_mixOf_19 : decode cX12_mixOf 19 = .ok (.istore 4, 2) := by decide +kernel
theorem dX12_mixOf_21 : decode cX12_mixOf 21 = .ok (.aload_n 0, 1) := by decide +kernel
theorem dX12_mixOf_22 : decode cX12_mixOf 22 = .ok (.getfield 35, 3) := by decide +kernel
theorem dX12_mixOf_25 : decode cX12_mixOf 25 = .ok (.iload 4, 2) := by decide +kernel
theorem dX12_mixOf_27 : decode cX12_mixOf 27 = .ok (.iaload, 1) := by decide +kernel
theorem dX12_mixOf_28 : decode cX12_mixOf 28 = .ok (.iload_n 1, 1) := by decide +kernel
theorem dX12_mixOf_29 : decode cX12_mixOf 29 = .ok (.invokestatic 365, 3) := by decide +kernel
theorem dX12_mixOf_32 : decode cX12_mixOf 32 = .ok (.ifCond .eq 68, 3) := by decide +kernel
theorem dX12_mixOf_35 : decode cX12_mixOf 35 = .ok (.aload_n 0, 1) := by decide +kernel
theorem dX12_mixOf_36 : decode cX12_mixOf 36 = .ok (.getfield 35, 3) := by decide +kernel
theorem dX12_mixOf_39 : decode cX12_mixOf 39 = .ok (.iload 4, 2) := by decide +kernel
theorem dX12_mixOf_41 : decode cX12_mixOf 41 = .ok (.iconst 1, 1) := by decide +kernel
theorem dX12_mixOf_42 : decode cX12_mixOf 42 = .ok (.iadd, 1) := by decide +kernel
theorem dX12_mixOf_43 : decode cX12_mixOf 43 = .ok (.iaload, 1) := by decide +kernel
theorem dX12_mixOf_44 : decode cX12_mixOf 44 = .ok (.iload_n 2, 1) := by decide +kernel
theorem dX12_mixOf_45 : decode cX12_mixOf 45 = .ok (.invokestatic 365, 3) := by decide +kernel
theorem dX12_mixOf_48 : decode cX12_mixOf 48 = .ok (.ifCond .ne 6, 3) := by decide +kernel
theorem dX12_mixOf_51 : decode cX12_mixOf 51 = .ok (.goto 49, 3) := by decide +kernel
theorem dX12_mixOf_54 : decode cX12_mixOf 54 = .ok (.aload_n 0, 1) := by decide +kernel
theorem dX12_mixOf_55 : decode cX12_mixOf 55 = .ok (.getfield 35, 3) := by decide +kernel
theorem dX12_mixOf_58 : decode cX12_mixOf 58 = .ok (.iload 4, 2) := by decide +kernel
theorem dX12_mixOf_60 : decode cX12_mixOf 60 = .ok (.iconst 2, 1) := by decide +kernel
theorem dX12_mixOf_61 : decode cX12_mixOf 61 = .ok (.iadd, 1) := by decide +kernel
theorem dX12_mixOf_62 : decode cX12_mixOf 62 = .ok (.iaload, 1) := by decide +kernel
theorem dX12_mixOf_63 : decode cX12_mixOf 63 = .ok (.bipush 27, 2) := by decide +kernel
theorem dX12_mixOf_65 : decode cX12_mixOf 65 = .ok (.if_icmp .ne 7, 3) := by decide +kernel
theorem dX12_mixOf_68 : decode cX12_mixOf 68 = .ok (.iload_n 1, 1) := by decide +kernel
theorem dX12_mixOf_69 : decode cX12_mixOf 69 = .ok (.goto 30, 3) := by decide +kernel
theorem dX12_mixOf_72 : decode cX12_mixOf 72 = .ok (.aload_n 0, 1) := by decide +kernel
theorem dX12_mixOf_73 : decode cX12_mixOf 73 = .ok (.getfield 35, 3) := by decide +kernel
theorem dX12_mixOf_76 : decode cX12_mixOf 76 = .ok (.iload 4, 2) := by decide +kernel
theorem dX12_mixOf_78 : decode cX12_mixOf 78 = .ok (.iconst 2, 1) := by decide +kernel
theorem dX12_mixOf_79 : decode cX12_mixOf 79 = .ok (.iadd, 1) := by decide +kernel
theorem dX12_mixOf_80 : decode cX12_mixOf 80 = .ok (.iaload, 1) := by decide +kernel
theorem dX12_mixOf_81 : decode cX12_mixOf 81 = .ok (.bipush 28, 2) := by decide +kernel
theorem dX12_mixOf_83 : decode cX12_mixOf 83 = .ok (.if_icmp .ne 7, 3) := by decide +kernel
theorem dX12_mixOf_86 : decode cX12_mixOf 86 = .ok (.iload_n 2, 1) := by decide +kernel
theorem dX12_mixOf_87 : decode cX12_mixOf 87 = .ok (.goto 12, 3) := by decide +kernel
theorem dX12_mixOf_90 : decode cX12_mixOf 90 = .ok (.aload_n 0, 1) := by decide +kernel
theorem dX12_mixOf_91 : decode cX12_mixOf 91 = .ok (.getfield 35, 3) := by decide +kernel
theorem dX12_mixOf_94 : decode cX12_mixOf 94 = .ok (.iload 4, 2) := by decide +kernel
theorem dX12_mixOf_96 : decode cX12_mixOf 96 = .ok (.iconst 2, 1) := by decide +kernel
theorem dX12_mixOf_97 : decode cX12_mixOf 97 = .ok (.iadd, 1) := by decide +kernel
theorem dX12_mixOf_98 : decode cX12_mixOf 98 = .ok (.iaload, 1) := by decide +kernel
theorem dX12_mixOf_99 : decode cX12_mixOf 99 = .ok (.ireturn, 1) := by decide +kernel
theorem dX12_mixOf_100 : decode cX12_mixOf 100 = .ok (.iinc 3 1, 3) := by decide +kernel
theorem dX12_mixOf_103 : decode cX12_mixOf 103 = .ok (.goto (-101), 3) := by decide +kernel
theorem dX12_mixOf_106 : decode cX12_mixOf 106 = .ok (.iload_n 1, 1) := by decide +kernel
theorem dX12_mixOf_107 : decode cX12_mixOf 107 = .ok (.iload_n 2, 1) := by decide +kernel
theorem dX12_mixOf_108 : decode cX12_mixOf 108 = .ok (.if_icmp .ne 7, 3) := by decide +kernel
theorem dX12_mixOf_111 : decode cX12_mixOf 111 = .ok (.iload_n 1, 1) := by decide +kernel
theorem dX12_mixOf_112 : decode cX12_mixOf 112 = .ok (.goto 20, 3) := by decide +kernel
theorem dX12_mixOf_115 : decode cX12_mixOf 115 = .ok (.iload_n 1, 1) := by decide +kernel
theorem dX12_mixOf_116 : decode cX12_mixOf 116 = .ok (.ifCond .ne 7, 3) := by decide +kernel
theorem dX12_mixOf_119 : decode cX12_mixOf 119 = .ok (.iload_n 2, 1) := by decide +kernel
theorem dX12_mixOf_120 : decode cX12_mixOf 120 = .ok (.goto 12, 3) := by decide +kernel
theorem dX12_mixOf_123 : decode cX12_mixOf 123 = .ok (.iload_n 2, 1) := by decide +kernel
theorem dX12_mixOf_124 : decode cX12_mixOf 124 = .ok (.ifCond .ne 7, 3) := by decide +kernel
theorem dX12_mixOf_127 : decode cX12_mixOf 127 = .ok (.iload_n 1, 1) := by decide +kernel
theorem dX12_mixOf_128 : decode cX12_mixOf 128 = .ok (.goto 4, 3) := by decide +kernel
theorem dX12_mixOf_131 : decode cX12_mixOf 131 = .ok (.iconst 0, 1) := by decide +kernel
theorem dX12_mixOf_132 : decode cX12_mixOf 132 = .ok (.ireturn, 1) := by decide +kernel
theorem dX12_heardOrRest_0 : decode cX12_heardOrRest 0 = .ok (.iload_n 2, 1) := by decide +kernel
theorem dX12_heardOrRest_1 : decode cX12_heardOrRest 1 = .ok (.i2l, 1) := by decide +kernel
theorem dX12_heardOrRest_2 : decode cX12_heardOrRest 2 = .ok (.lconst 0, 1) := by decide +kernel
theorem dX12_heardOrRest_3 : decode cX12_heardOrRest 3 = .ok (.aload_n 0, 1) := by decide +kernel
theorem dX12_heardOrRest_4 : decode cX12_heardOrRest 4 = .ok (.iload_n 1, 1) := by decide +kernel
theorem dX12_heardOrRest_5 : decode cX12_heardOrRest 5 = .ok (.invokevirtual 342, 3) := by decide +kernel
theorem dX12_heardOrRest_8 : decode cX12_heardOrRest 8 = .ok (.iconst 1, 1) := by decide +kernel
theorem dX12_heardOrRest_9 : decode cX12_heardOrRest 9 = .ok (.isub, 1) := by decide +kernel
theorem dX12_heardOrRest_10 : decode cX12_heardOrRest 10 = .ok (.i2l, 1) := by decide +kernel
theorem dX12_heardOrRest_11 : decode cX12_heardOrRest 11 = .ok (.invokestatic 124, 3) := by decide +kernel
theorem dX12_heardOrRest_14 : decode cX12_heardOrRest 14 = .ok (.ifCond .eq 12, 3) := by decide +kernel
theorem dX12_heardOrRest_17 : decode cX12_heardOrRest 17 = .ok (.aload_n 0, 1) := by decide +kernel
theorem dX12_heardOrRest_18 : decode cX12_heardOrRest 18 = .ok (.iload_n 1, 1) := by decide +kernel
theorem dX12_heardOrRest_19 : decode cX12_heardOrRest 19 = .ok (.iload_n 2, 1) := by decide +kernel
theorem dX12_heardOrRest_20 : decode cX12_heardOrRest 20 = .ok (.invokevirtual 348, 3) := by decide +kernel
theorem dX12_heardOrRest_23 : decode cX12_heardOrRest 23 = .ok (.goto 4, 3) := by decide +kernel
theorem dX12_heardOrRest_26 : decode cX12_heardOrRest 26 = .ok (.iconst 0, 1) := by decide +kernel
theorem dX12_heardOrRest_27 : decode cX12_heardOrRest 27 = .ok (.ireturn, 1) := by decide +kernel
theorem dX12_atOnce_0 : decode cX12_atOnce 0 = .ok (.aload_n 0, 1) := by decide +kernel
theorem dX12_atOnce_1 : decode cX12_atOnce 1 = .ok (.iconst 0, 1) := by decide +kernel
theorem dX12_atOnce_2 : decode cX12_atOnce 2 = .ok (.putfield 89, 3) := by decide +kernel
theorem dX12_atOnce_5 : decode cX12_atOnce 5 = .ok (.aload_n 0, 1) := by decide +kernel
theorem dX12_atOnce_6 : decode cX12_atOnce 6 = .ok (.iconst 0, 1) := by decide +kernel
theorem dX12_atOnce_7 : decode cX12_atOnce 7 = .ok (.putfield 92, 3) := by decide +kernel
theorem dX12_atOnce_10 : decode cX12_atOnce 10 = .ok (.aload_n 0, 1) := by decide +kernel
theorem dX12_atOnce_11 : decode cX12_atOnce 11 = .ok (.iload_n 3, 1) := by decide +kernel
theorem dX12_atOnce_12 : decode cX12_atOnce 12 = .ok (.invokevirtual 351, 3) := by decide +kernel
theorem dX12_atOnce_15 : decode cX12_atOnce 15 = .ok (.ifCond .ne 9, 3) := by decide +kernel
theorem dX12_atOnce_18 : decode cX12_atOnce 18 = .ok (.aload_n 0, 1) := by decide +kernel
theorem dX12_atOnce_19 : decode cX12_atOnce 19 = .ok (.iconst 1, 1) := by decide +kernel
theorem dX12_atOnce_20 : decode cX12_atOnce 20 = .ok (.invokevirtual 321, 3) := by decide +kernel
theorem dX12_atOnce_23 : decode cX12_atOnce 23 = .ok (.ireturn, 1) := by decide +kernel
theorem dX12_atOnce_24 : decode cX12_atOnce 24 = .ok (.aload_n 0, 1) := by decide +kernel
theorem dX12_atOnce_25 : decode cX12_atOnce 25 = .ok (.iload_n 1, 1) := by decide +kernel
theorem dX12_atOnce_26 : decode cX12_atOnce 26 = .ok (.invokevirtual 330, 3) := by decide +kernel
theorem dX12_atOnce_29 : decode cX12_atOnce 29 = .ok (.ifCond .eq 11, 3) := by decide +kernel
theorem dX12_atOnce_32 : decode cX12_atOnce 32 = .ok (.aload_n 0, 1) := by decide +kernel
theorem dX12_atOnce_33 : decode cX12_atOnce 33 = .ok (.iload_n 2, 1) := by decide +kernel
theorem dX12_atOnce_34 : decode cX12_atOnce 34 = .ok (.invokevirtual 330, 3) := by decide +kernel
theorem dX12_atOnce_37 : decode cX12_atOnce 37 = .ok (.ifCond .ne 9, 3) := by decide +kernel
theorem dX12_atOnce_40 : decode cX12_atOnce 40 = .ok (.aload_n 0, 1) := by decide +kernel
theorem dX12_atOnce_41 : decode cX12_atOnce 41 = .ok (.iconst 2, 1) := by decide +kernel
theorem dX12_atOnce_42 : decode cX12_atOnce 42 = .ok (.invokevirtual 321, 3) := by decide +kernel
theorem dX12_atOnce_45 : decode cX12_atOnce 45 = .ok (.ireturn, 1) := by decide +kernel
theorem dX12_atOnce_46 : decode cX12_atOnce 46 = .ok (.aload_n 0, 1) := by decide +kernel
theorem dX12_atOnce_47 : decode cX12_atOnce 47 = .ok (.iload_n 1, 1) := by decide +kernel
theorem dX12_atOnce_48 : decode cX12_atOnce 48 = .ok (.invokevirtual 342, 3) := by decide +kernel
theorem dX12_atOnce_51 : decode cX12_atOnce 51 = .ok (.aload_n 0, 1) := by decide +kernel
theorem dX12_atOnce_52 : decode cX12_atOnce 52 = .ok (.iload_n 2, 1) := by decide +kernel
theorem dX12_atOnce_53 : decode cX12_atOnce 53 = .ok (.invokevirtual 342, 3) := by decide +kernel
theorem dX12_atOnce_56 : decode cX12_atOnce 56 = .ok (.invokestatic 368, 3) := by decide +kernel
theorem dX12_atOnce_59 : decode cX12_atOnce 59 = .ok (.istore 4, 2) := by decide +kernel
theorem dX12_atOnce_61 : decode cX12_atOnce 61 = .ok (.aload_n 0, 1) := by decide +kernel
theorem dX12_atOnce_62 : decode cX12_atOnce 62 = .ok (.aload_n 0, 1) := by decide +kernel
theorem dX12_atOnce_63 : decode cX12_atOnce 63 = .ok (.iload_n 3, 1) := by decide +kernel
theorem dX12_atOnce_64 : decode cX12_atOnce 64 = .ok (.iload 4, 2) := by decide +kernel
theorem dX12_atOnce_66 : decode cX12_atOnce 66 = .ok (.invokevirtual 354, 3) := by decide +kernel
theorem dX12_atOnce_69 : decode cX12_atOnce 69 = .ok (.putfield 92, 3) := by decide +kernel
theorem dX12_atOnce_72 : decode cX12_atOnce 72 = .ok (.aload_n 0, 1) := by decide +kernel
theorem dX12_atOnce_73 : decode cX12_atOnce 73 = .ok (.getfield 92, 3) := by decide +kernel
theorem dX12_atOnce_76 : decode cX12_atOnce 76 = .ok (.ifCond .le 5, 3) := by decide +kernel
theorem dX12_atOnce_79 : decode cX12_atOnce 79 = .ok (.iconst (-1), 1) := by decide +kernel
theorem dX12_atOnce_80 : decode cX12_atOnce 80 = .ok (.ireturn, 1) := by decide +kernel
theorem dX12_atOnce_81 : decode cX12_atOnce 81 = .ok (.iconst 0, 1) := by decide +kernel
theorem dX12_atOnce_82 : decode cX12_atOnce 82 = .ok (.istore 5, 2) := by decide +kernel
theorem dX12_atOnce_84 : decode cX12_atOnce 84 = .ok (.iload 5, 2) := by decide +kernel
theorem dX12_atOnce_86 : decode cX12_atOnce 86 = .ok (.iload 4, 2) := by decide +kernel
theorem dX12_atOnce_88 : decode cX12_atOnce 88 = .ok (.if_icmp .ge 34, 3) := by decide +kernel
theorem dX12_atOnce_91 : decode cX12_atOnce 91 = .ok (.aload_n 0, 1) := by decide +kernel
theorem dX12_atOnce_92 : decode cX12_atOnce 92 = .ok (.iload_n 3, 1) := by decide +kernel
theorem dX12_atOnce_93 : decode cX12_atOnce 93 = .ok (.iload 5, 2) := by decide +kernel
theorem dX12_atOnce_95 : decode cX12_atOnce 95 = .ok (.aload_n 0, 1) := by decide +kernel
theorem dX12_atOnce_96 : decode cX12_atOnce 96 = .ok (.aload_n 0, 1) := by decide +kernel
theorem dX12_atOnce_97 : decode cX12_atOnce 97 = .ok (.iload_n 1, 1) := by decide +kernel
theorem dX12_atOnce_98 : decode cX12_atOnce 98 = .ok (.iload 5, 2) := by decide +kernel
theorem dX12_atOnce_100 : decode cX12_atOnce 100 = .ok (.invokevirtual 371, 3) := by decide +kernel
theorem dX12_atOnce_103 : decode cX12_atOnce 103 = .ok (.aload_n 0, 1) := by decide +kernel
theorem dX12_atOnce_104 : decode cX12_atOnce 104 = .ok (.iload_n 2, 1) := by decide +kernel
theorem dX12_atOnce_105 : decode cX12_atOnce 105 = .ok (.iload 5, 2) := by decide +kernel
theorem dX12_atOnce_107 : decode cX12_atOnce 107 = .ok (.invokevirtual 371, 3) := by decide +kernel
theorem dX12_atOnce_110 : decode cX12_atOnce 110 = .ok (.invokevirtual 374, 3) := by decide +kernel
theorem dX12_atOnce_113 : decode cX12_atOnce 113 = .ok (.invokevirtual 357, 3) := by decide +kernel
theorem dX12_atOnce_116 : decode cX12_atOnce 116 = .ok (.iinc 5 1, 3) := by decide +kernel
theorem dX12_atOnce_119 : decode cX12_atOnce 119 = .ok (.goto (-35), 3) := by decide +kernel
theorem dX12_atOnce_122 : decode cX12_atOnce 122 = .ok (.iload 4, 2) := by decide +kernel
theorem dX12_atOnce_124 : decode cX12_atOnce 124 = .ok (.ireturn, 1) := by decide +kernel
theorem dX12_mixes_0 : decode cX12_mixes 0 = .ok (.aload_n 0, 1) := by decide +kernel
theorem dX12_mixes_1 : decode cX12_mixes 1 = .ok (.iconst 0, 1) := by decide +kernel
theorem dX12_mixes_2 : decode cX12_mixes 2 = .ok (.putfield 89, 3) := by decide +kernel
theorem dX12_mixes_5 : decode cX12_mixes 5 = .ok (.aload_n 0, 1) := by decide +kernel
theorem dX12_mixes_6 : decode cX12_mixes 6 = .ok (.iconst 0, 1) := by decide +kernel
theorem dX12_mixes_7 : decode cX12_mixes 7 = .ok (.putfield 92, 3) := by decide +kernel
theorem dX12_mixes_10 : decode cX12_mixes 10 = .ok (.iload_n 1, 1) := by decide +kernel
theorem dX12_mixes_11 : decode cX12_mixes 11 = .ok (.i2l, 1) := by decide +kernel
theorem dX12_mixes_12 : decode cX12_mixes 12 = .ok (.lconst 0, 1) := by decide +kernel
theorem dX12_mixes_13 : decode cX12_mixes 13 = .ok (.ldc2_w 377, 3) := by decide +kernel
theorem dX12_mixes_16 : decode cX12_mixes 16 = .ok (.invokestatic 124, 3) := by decide +kernel
theorem dX12_mixes_19 : decode cX12_mixes 19 = .ok (.ifCond .eq 24, 3) := by decide +kernel
theorem dX12_mixes_22 : decode cX12_mixes 22 = .ok (.iload_n 2, 1) := by decide +kernel
theorem dX12_mixes_23 : decode cX12_mixes 23 = .ok (.i2l, 1) := by decide +kernel
theorem dX12_mixes_24 : decode cX12_mixes 24 = .ok (.lconst 0, 1) := by decide +kernel
theorem dX12_mixes_25 : decode cX12_mixes 25 = .ok (.ldc2_w 377, 3) := by decide +kernel
theorem dX12_mixes_28 : decode cX12_mixes 28 = .ok (.invokestatic 124, 3) := by decide +kernel
theorem dX12_mixes_31 : decode cX12_mixes 31 = .ok (.ifCond .eq 12, 3) := by decide +kernel
theorem dX12_mixes_34 : decode cX12_mixes 34 = .ok (.aload_n 0, 1) := by decide +kernel
theorem dX12_mixes_35 : decode cX12_mixes 35 = .ok (.iload_n 1, 1) := by decide +kernel
theorem dX12_mixes_36 : decode cX12_mixes 36 = .ok (.iload_n 2, 1) := by decide +kernel
theorem dX12_mixes_37 : decode cX12_mixes 37 = .ok (.invokevirtual 374, 3) := by decide +kernel
theorem dX12_mixes_40 : decode cX12_mixes 40 = .ok (.goto 8, 3) := by decide +kernel
theorem dX12_mixes_43 : decode cX12_mixes 43 = .ok (.aload_n 0, 1) := by decide +kernel
theorem dX12_mixes_44 : decode cX12_mixes 44 = .ok (.iconst 5, 1) := by decide +kernel
theorem dX12_mixes_45 : decode cX12_mixes 45 = .ok (.invokevirtual 321, 3) := by decide +kernel
theorem dX12_mixes_48 : decode cX12_mixes 48 = .ok (.ireturn, 1) := by decide +kernel
theorem dX12_othersOf_0 : decode cX12_othersOf 0 = .ok (.iconst 0, 1) := by decide +kernel
theorem dX12_othersOf_1 : decode cX12_othersOf 1 = .ok (.istore_n 3, 1) := by decide +kernel
theorem dX12_othersOf_2 : decode cX12_othersOf 2 = .ok (.iconst 0, 1) := by decide +kernel
theorem dX12_othersOf_3 : decode cX12_othersOf 3 = .ok (.istore 4, 2) := by decide +kernel
theorem dX12_othersOf_5 : decode cX12_othersOf 5 = .ok (.iload 4, 2) := by decide +kernel
theorem dX12_othersOf_7 : decode cX12_othersOf 7 = .ok (.bipush 26, 2) := by decide +kernel
theorem dX12_othersOf_9 : decode cX12_othersOf 9 = .ok (.if_icmp .gt 31, 3) := by decide +kernel
theorem dX12_othersOf_12 : decode cX12_othersOf 12 = .ok (.iload_n 3, 1) := by decide +kernel
theorem dX12_othersOf_13 : decode cX12_othersOf 13 = .ok (.aload_n 0, 1) := by decide +kernel
theorem dX12_othersOf_14 : decode cX12_othersOf 14 = .ok (.iload_n 1, 1) := by decide +kernel
theorem dX12_othersOf_15 : decode cX12_othersOf 15 = .ok (.iload 4, 2) := by decide +kernel
theorem dX12_othersOf_17 : decode cX12_othersOf 17 = .ok (.invokevirtual 374, 3) := by decide +kernel
theorem dX12_othersOf_20 : decode cX12_othersOf 20 = .ok (.iload_n 2, 1) := by decide +kernel
theorem dX12_othersOf_21 : decode cX12_othersOf 21 = .ok (.if_icmp .ne 10, 3) := by decide +kernel
theorem dX12_othersOf_24 : decode cX12_othersOf 24 = .ok (.iconst 1, 1) := by decide +kernel
theorem dX12_othersOf_25 : decode cX12_othersOf 25 = .ok (.iload 4, 2) := by decide +kernel
theorem dX12_othersOf_27 : decode cX12_othersOf 27 = .ok (.ishl, 1) := by decide +kernel
theorem dX12_othersOf_28 : decode cX12_othersOf 28 = .ok (.goto 4, 3) := by decide +kernel
theorem dX12_othersOf_31 : decode cX12_othersOf 31 = .ok (.iconst 0, 1) := by decide +kernel
theorem dX12_othersOf_32 : decode cX12_othersOf 32 = .ok (.ior, 1) := by decide +kernel
theorem dX12_othersOf_33 : decode cX12_othersOf 33 = .ok (.istore_n 3, 1) := by decide +kernel
theorem dX12_othersOf_34 : decode cX12_othersOf 34 = .ok (.iinc 4 1, 3) := by decide +kernel
theorem dX12_othersOf_37 : decode cX12_othersOf 37 = .ok (.goto (-32), 3) := by decide +kernel
theorem dX12_othersOf_40 : decode cX12_othersOf 40 = .ok (.iload_n 3, 1) := by decide +kernel
theorem dX12_othersOf_41 : decode cX12_othersOf 41 = .ok (.ireturn, 1) := by decide +kernel
theorem dX12_others_0 : decode cX12_others 0 = .ok (.aload_n 0, 1) := by decide +kernel
theorem dX12_others_1 : decode cX12_others 1 = .ok (.iconst 0, 1) := by decide +kernel
theorem dX12_others_2 : decode cX12_others 2 = .ok (.putfield 89, 3) := by decide +kernel
theorem dX12_others_5 : decode cX12_others 5 = .ok (.aload_n 0, 1) := by decide +kernel
theorem dX12_others_6 : decode cX12_others 6 = .ok (.iconst 0, 1) := by decide +kernel
theorem dX12_others_7 : decode cX12_others 7 = .ok (.putfield 92, 3) := by decide +kernel
theorem dX12_others_10 : decode cX12_others 10 = .ok (.iload_n 1, 1) := by decide +kernel
theorem dX12_others_11 : decode cX12_others 11 = .ok (.i2l, 1) := by decide +kernel
theorem dX12_others_12 : decode cX12_others 12 = .ok (.lconst 0, 1) := by decide +kernel
theorem dX12_others_13 : decode cX12_others 13 = .ok (.ldc2_w 377, 3) := by decide +kernel
theorem dX12_others_16 : decode cX12_others 16 = .ok (.invokestatic 124, 3) := by decide +kernel
theorem dX12_others_19 : decode cX12_others 19 = .ok (.ifCond .eq 24, 3) := by decide +kernel
theorem dX12_others_22 : decode cX12_others 22 = .ok (.iload_n 2, 1) := by decide +kernel
theorem dX12_others_23 : decode cX12_others 23 = .ok (.i2l, 1) := by decide +kernel
theorem dX12_others_24 : decode cX12_others 24 = .ok (.lconst 0, 1) := by decide +kernel
theorem dX12_others_25 : decode cX12_others 25 = .ok (.ldc2_w 377, 3) := by decide +kernel
theorem dX12_others_28 : decode cX12_others 28 = .ok (.invokestatic 124, 3) := by decide +kernel
theorem dX12_others_31 : decode cX12_others 31 = .ok (.ifCond .eq 12, 3) := by decide +kernel
theorem dX12_others_34 : decode cX12_others 34 = .ok (.aload_n 0, 1) := by decide +kernel
theorem dX12_others_35 : decode cX12_others 35 = .ok (.iload_n 1, 1) := by decide +kernel
theorem dX12_others_36 : decode cX12_others 36 = .ok (.iload_n 2, 1) := by decide +kernel
theorem dX12_others_37 : decode cX12_others 37 = .ok (.invokevirtual 379, 3) := by decide +kernel
theorem dX12_others_40 : decode cX12_others 40 = .ok (.goto 8, 3) := by decide +kernel
theorem dX12_others_43 : decode cX12_others 43 = .ok (.aload_n 0, 1) := by decide +kernel
theorem dX12_others_44 : decode cX12_others 44 = .ok (.iconst 5, 1) := by decide +kernel
theorem dX12_others_45 : decode cX12_others 45 = .ok (.invokevirtual 321, 3) := by decide +kernel
theorem dX12_others_48 : decode cX12_others 48 = .ok (.ireturn, 1) := by decide +kernel
theorem dX12_soundOrRest_0 : decode cX12_soundOrRest 0 = .ok (.iload_n 2, 1) := by decide +kernel
theorem dX12_soundOrRest_1 : decode cX12_soundOrRest 1 = .ok (.i2l, 1) := by decide +kernel
theorem dX12_soundOrRest_2 : decode cX12_soundOrRest 2 = .ok (.lconst 0, 1) := by decide +kernel
theorem dX12_soundOrRest_3 : decode cX12_soundOrRest 3 = .ok (.aload_n 0, 1) := by decide +kernel
theorem dX12_soundOrRest_4 : decode cX12_soundOrRest 4 = .ok (.getfield 35, 3) := by decide +kernel
theorem dX12_soundOrRest_7 : decode cX12_soundOrRest 7 = .ok (.iconst 4, 1) := by decide +kernel
theorem dX12_soundOrRest_8 : decode cX12_soundOrRest 8 = .ok (.iload_n 1, 1) := by decide +kernel
theorem dX12_soundOrRest_9 : decode cX12_soundOrRest 9 = .ok (.iadd, 1) := by decide +kernel
theorem dX12_soundOrRest_10 : decode cX12_soundOrRest 10 = .ok (.iaload, 1) := by decide +kernel
theorem dX12_soundOrRest_11 : decode cX12_soundOrRest 11 = .ok (.iconst 1, 1) := by decide +kernel
theorem dX12_soundOrRest_12 : decode cX12_soundOrRest 12 = .ok (.isub, 1) := by decide +kernel
theorem dX12_soundOrRest_13 : decode cX12_soundOrRest 13 = .ok (.i2l, 1) := by decide +kernel
theorem dX12_soundOrRest_14 : decode cX12_soundOrRest 14 = .ok (.invokestatic 124, 3) := by decide +kernel
theorem dX12_soundOrRest_17 : decode cX12_soundOrRest 17 = .ok (.ifCond .eq 12, 3) := by decide +kernel
theorem dX12_soundOrRest_20 : decode cX12_soundOrRest 20 = .ok (.aload_n 0, 1) := by decide +kernel
theorem dX12_soundOrRest_21 : decode cX12_soundOrRest 21 = .ok (.iload_n 1, 1) := by decide +kernel
theorem dX12_soundOrRest_22 : decode cX12_soundOrRest 22 = .ok (.iload_n 2, 1) := by decide +kernel
theorem dX12_soundOrRest_23 : decode cX12_soundOrRest 23 = .ok (.invokevirtual 327, 3) := by decide +kernel
theorem dX12_soundOrRest_26 : decode cX12_soundOrRest 26 = .ok (.goto 4, 3) := by decide +kernel
theorem dX12_soundOrRest_29 : decode cX12_soundOrRest 29 = .ok (.iconst 0, 1) := by decide +kernel
theorem dX12_soundOrRest_30 : decode cX12_soundOrRest 30 = .ok (.ireturn, 1) := by decide +kernel
theorem dX12_echoed_0 : decode cX12_echoed 0 = .ok (.aload_n 0, 1) := by decide +kernel
theorem dX12_echoed_1 : decode cX12_echoed 1 = .ok (.iconst 0, 1) := by decide +kernel
theorem dX12_echoed_2 : decode cX12_echoed 2 = .ok (.putfield 89, 3) := by decide +kernel
theorem dX12_echoed_5 : decode cX12_echoed 5 = .ok (.aload_n 0, 1) := by decide +kernel
theorem dX12_echoed_6 : decode cX12_echoed 6 = .ok (.iconst 0, 1) := by decide +kernel
theorem dX12_echoed_7 : decode cX12_echoed 7 = .ok (.putfield 92, 3) := by decide +kernel
theorem dX12_echoed_10 : decode cX12_echoed 10 = .ok (.aload_n 0, 1) := by decide +kernel
theorem dX12_echoed_11 : decode cX12_echoed 11 = .ok (.iload_n 3, 1) := by decide +kernel
theorem dX12_echoed_12 : decode cX12_echoed 12 = .ok (.invokevirtual 351, 3) := by decide +kernel
theorem dX12_echoed_15 : decode cX12_echoed 15 = .ok (.ifCond .ne 9, 3) := by decide +kernel
