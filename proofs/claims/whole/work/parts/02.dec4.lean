theorem dX12_echoed_18 : decode cX12_echoed 18 = .ok (.aload_n 0, 1) := by decide +kernel
theorem dX12_echoed_19 : decode cX12_echoed 19 = .ok (.iconst 1, 1) := by decide +kernel
theorem dX12_echoed_20 : decode cX12_echoed 20 = .ok (.invokevirtual 321, 3) := by decide +kernel
theorem dX12_echoed_23 : decode cX12_echoed 23 = .ok (.ireturn, 1) := by decide +kernel
theorem dX12_echoed_24 : decode cX12_echoed 24 = .ok (.aload_n 0, 1) := by decide +kernel
theorem dX12_echoed_25 : decode cX12_echoed 25 = .ok (.iload_n 1, 1) := by decide +kernel
theorem dX12_echoed_26 : decode cX12_echoed 26 = .ok (.invokevirtual 324, 3) := by decide +kernel
theorem dX12_echoed_29 : decode cX12_echoed 29 = .ok (.ifCond .ne 9, 3) := by decide +kernel
theorem dX12_echoed_32 : decode cX12_echoed 32 = .ok (.aload_n 0, 1) := by decide +kernel
theorem dX12_echoed_33 : decode cX12_echoed 33 = .ok (.iconst 2, 1) := by decide +kernel
theorem dX12_echoed_34 : decode cX12_echoed 34 = .ok (.invokevirtual 321, 3) := by decide +kernel
theorem dX12_echoed_37 : decode cX12_echoed 37 = .ok (.ireturn, 1) := by decide +kernel
theorem dX12_echoed_38 : decode cX12_echoed 38 = .ok (.iload_n 2, 1) := by decide +kernel
theorem dX12_echoed_39 : decode cX12_echoed 39 = .ok (.i2l, 1) := by decide +kernel
theorem dX12_echoed_40 : decode cX12_echoed 40 = .ok (.lconst 0, 1) := by decide +kernel
theorem dX12_echoed_41 : decode cX12_echoed 41 = .ok (.ldc2_w 382, 3) := by decide +kernel
theorem dX12_echoed_44 : decode cX12_echoed 44 = .ok (.invokestatic 124, 3) := by decide +kernel
theorem dX12_echoed_47 : decode cX12_echoed 47 = .ok (.ifCond .ne 9, 3) := by decide +kernel
theorem dX12_echoed_50 : decode cX12_echoed 50 = .ok (.aload_n 0, 1) := by decide +kernel
theorem dX12_echoed_51 : decode cX12_echoed 51 = .ok (.iconst 5, 1) := by decide +kernel
theorem dX12_echoed_52 : decode cX12_echoed 52 = .ok (.invokevirtual 321, 3) := by decide +kernel
theorem dX12_echoed_55 : decode cX12_echoed 55 = .ok (.ireturn, 1) := by decide +kernel
theorem dX12_echoed_56 : decode cX12_echoed 56 = .ok (.aload_n 0, 1) := by decide +kernel
theorem dX12_echoed_57 : decode cX12_echoed 57 = .ok (.getfield 35, 3) := by decide +kernel
theorem dX12_echoed_60 : decode cX12_echoed 60 = .ok (.iconst 4, 1) := by decide +kernel
theorem dX12_echoed_61 : decode cX12_echoed 61 = .ok (.iload_n 1, 1) := by decide +kernel
theorem dX12_echoed_62 : decode cX12_echoed 62 = .ok (.iadd, 1) := by decide +kernel
theorem dX12_echoed_63 : decode cX12_echoed 63 = .ok (.iaload, 1) := by decide +kernel
theorem dX12_echoed_64 : decode cX12_echoed 64 = .ok (.iload_n 2, 1) := by decide +kernel
theorem dX12_echoed_65 : decode cX12_echoed 65 = .ok (.iadd, 1) := by decide +kernel
theorem dX12_echoed_66 : decode cX12_echoed 66 = .ok (.istore 4, 2) := by decide +kernel
theorem dX12_echoed_68 : decode cX12_echoed 68 = .ok (.aload_n 0, 1) := by decide +kernel
theorem dX12_echoed_69 : decode cX12_echoed 69 = .ok (.aload_n 0, 1) := by decide +kernel
theorem dX12_echoed_70 : decode cX12_echoed 70 = .ok (.iload_n 3, 1) := by decide +kernel
theorem dX12_echoed_71 : decode cX12_echoed 71 = .ok (.iload 4, 2) := by decide +kernel
theorem dX12_echoed_73 : decode cX12_echoed 73 = .ok (.invokevirtual 354, 3) := by decide +kernel
theorem dX12_echoed_76 : decode cX12_echoed 76 = .ok (.putfield 92, 3) := by decide +kernel
theorem dX12_echoed_79 : decode cX12_echoed 79 = .ok (.aload_n 0, 1) := by decide +kernel
theorem dX12_echoed_80 : decode cX12_echoed 80 = .ok (.getfield 92, 3) := by decide +kernel
theorem dX12_echoed_83 : decode cX12_echoed 83 = .ok (.ifCond .le 5, 3) := by decide +kernel
theorem dX12_echoed_86 : decode cX12_echoed 86 = .ok (.iconst (-1), 1) := by decide +kernel
theorem dX12_echoed_87 : decode cX12_echoed 87 = .ok (.ireturn, 1) := by decide +kernel
theorem dX12_echoed_88 : decode cX12_echoed 88 = .ok (.iconst 0, 1) := by decide +kernel
theorem dX12_echoed_89 : decode cX12_echoed 89 = .ok (.istore 5, 2) := by decide +kernel
theorem dX12_echoed_91 : decode cX12_echoed 91 = .ok (.iload 5, 2) := by decide +kernel
theorem dX12_echoed_93 : decode cX12_echoed 93 = .ok (.iload 4, 2) := by decide +kernel
theorem dX12_echoed_95 : decode cX12_echoed 95 = .ok (.if_icmp .ge 36, 3) := by decide +kernel
theorem dX12_echoed_98 : decode cX12_echoed 98 = .ok (.aload_n 0, 1) := by decide +kernel
theorem dX12_echoed_99 : decode cX12_echoed 99 = .ok (.iload_n 3, 1) := by decide +kernel
theorem dX12_echoed_100 : decode cX12_echoed 100 = .ok (.iload 5, 2) := by decide +kernel
theorem dX12_echoed_102 : decode cX12_echoed 102 = .ok (.aload_n 0, 1) := by decide +kernel
theorem dX12_echoed_103 : decode cX12_echoed 103 = .ok (.aload_n 0, 1) := by decide +kernel
theorem dX12_echoed_104 : decode cX12_echoed 104 = .ok (.iload_n 1, 1) := by decide +kernel
theorem dX12_echoed_105 : decode cX12_echoed 105 = .ok (.iload 5, 2) := by decide +kernel
theorem dX12_echoed_107 : decode cX12_echoed 107 = .ok (.invokevirtual 384, 3) := by decide +kernel
theorem dX12_echoed_110 : decode cX12_echoed 110 = .ok (.aload_n 0, 1) := by decide +kernel
theorem dX12_echoed_111 : decode cX12_echoed 111 = .ok (.iload_n 1, 1) := by decide +kernel
theorem dX12_echoed_112 : decode cX12_echoed 112 = .ok (.iload 5, 2) := by decide +kernel
theorem dX12_echoed_114 : decode cX12_echoed 114 = .ok (.iload_n 2, 1) := by decide +kernel
theorem dX12_echoed_115 : decode cX12_echoed 115 = .ok (.isub, 1) := by decide +kernel
theorem dX12_echoed_116 : decode cX12_echoed 116 = .ok (.invokevirtual 384, 3) := by decide +kernel
theorem dX12_echoed_119 : decode cX12_echoed 119 = .ok (.invokevirtual 374, 3) := by decide +kernel
theorem dX12_echoed_122 : decode cX12_echoed 122 = .ok (.invokevirtual 357, 3) := by decide +kernel
theorem dX12_echoed_125 : decode cX12_echoed 125 = .ok (.iinc 5 1, 3) := by decide +kernel
theorem dX12_echoed_128 : decode cX12_echoed 128 = .ok (.goto (-37), 3) := by decide +kernel
theorem dX12_echoed_131 : decode cX12_echoed 131 = .ok (.iload 4, 2) := by decide +kernel
theorem dX12_echoed_133 : decode cX12_echoed 133 = .ok (.ireturn, 1) := by decide +kernel
theorem dX12_clearest_0 : decode cX12_clearest 0 = .ok (.aload_n 0, 1) := by decide +kernel
theorem dX12_clearest_1 : decode cX12_clearest 1 = .ok (.iconst 0, 1) := by decide +kernel
theorem dX12_clearest_2 : decode cX12_clearest 2 = .ok (.putfield 89, 3) := by decide +kernel
theorem dX12_clearest_5 : decode cX12_clearest 5 = .ok (.aload_n 0, 1) := by decide +kernel
theorem dX12_clearest_6 : decode cX12_clearest 6 = .ok (.iconst 0, 1) := by decide +kernel
theorem dX12_clearest_7 : decode cX12_clearest 7 = .ok (.putfield 92, 3) := by decide +kernel
theorem dX12_clearest_10 : decode cX12_clearest 10 = .ok (.aload_n 0, 1) := by decide +kernel
theorem dX12_clearest_11 : decode cX12_clearest 11 = .ok (.iload_n 1, 1) := by decide +kernel
theorem dX12_clearest_12 : decode cX12_clearest 12 = .ok (.invokevirtual 330, 3) := by decide +kernel
theorem dX12_clearest_15 : decode cX12_clearest 15 = .ok (.ifCond .eq 11, 3) := by decide +kernel
theorem dX12_clearest_18 : decode cX12_clearest 18 = .ok (.aload_n 0, 1) := by decide +kernel
theorem dX12_clearest_19 : decode cX12_clearest 19 = .ok (.iload_n 2, 1) := by decide +kernel
theorem dX12_clearest_20 : decode cX12_clearest 20 = .ok (.invokevirtual 330, 3) := by decide +kernel
theorem dX12_clearest_23 : decode cX12_clearest 23 = .ok (.ifCond .ne 9, 3) := by decide +kernel
theorem dX12_clearest_26 : decode cX12_clearest 26 = .ok (.aload_n 0, 1) := by decide +kernel
theorem dX12_clearest_27 : decode cX12_clearest 27 = .ok (.iconst 2, 1) := by decide +kernel
theorem dX12_clearest_28 : decode cX12_clearest 28 = .ok (.invokevirtual 321, 3) := by decide +kernel
theorem dX12_clearest_31 : decode cX12_clearest 31 = .ok (.ireturn, 1) := by decide +kernel
theorem dX12_clearest_32 : decode cX12_clearest 32 = .ok (.iload_n 3, 1) := by decide +kernel
theorem dX12_clearest_33 : decode cX12_clearest 33 = .ok (.i2l, 1) := by decide +kernel
theorem dX12_clearest_34 : decode cX12_clearest 34 = .ok (.lconst 0, 1) := by decide +kernel
theorem dX12_clearest_35 : decode cX12_clearest 35 = .ok (.lconst 1, 1) := by decide +kernel
theorem dX12_clearest_36 : decode cX12_clearest 36 = .ok (.invokestatic 124, 3) := by decide +kernel
theorem dX12_clearest_39 : decode cX12_clearest 39 = .ok (.ifCond .ne 9, 3) := by decide +kernel
theorem dX12_clearest_42 : decode cX12_clearest 42 = .ok (.aload_n 0, 1) := by decide +kernel
theorem dX12_clearest_43 : decode cX12_clearest 43 = .ok (.iconst 5, 1) := by decide +kernel
theorem dX12_clearest_44 : decode cX12_clearest 44 = .ok (.invokevirtual 321, 3) := by decide +kernel
theorem dX12_clearest_47 : decode cX12_clearest 47 = .ok (.ireturn, 1) := by decide +kernel
theorem dX12_clearest_48 : decode cX12_clearest 48 = .ok (.iconst 0, 1) := by decide +kernel
theorem dX12_clearest_49 : decode cX12_clearest 49 = .ok (.istore 4, 2) := by decide +kernel
theorem dX12_clearest_51 : decode cX12_clearest 51 = .ok (.iconst (-1), 1) := by decide +kernel
theorem dX12_clearest_52 : decode cX12_clearest 52 = .ok (.istore 5, 2) := by decide +kernel
theorem dX12_clearest_54 : decode cX12_clearest 54 = .ok (.iconst 0, 1) := by decide +kernel
theorem dX12_clearest_55 : decode cX12_clearest 55 = .ok (.istore 6, 2) := by decide +kernel
theorem dX12_clearest_57 : decode cX12_clearest 57 = .ok (.iload 6, 2) := by decide +kernel
theorem dX12_clearest_59 : decode cX12_clearest 59 = .ok (.bipush 12, 2) := by decide +kernel
theorem dX12_clearest_61 : decode cX12_clearest 61 = .ok (.if_icmp .gt 98, 3) := by decide +kernel
theorem dX12_clearest_64 : decode cX12_clearest 64 = .ok (.aload_n 0, 1) := by decide +kernel
theorem dX12_clearest_65 : decode cX12_clearest 65 = .ok (.iload_n 1, 1) := by decide +kernel
theorem dX12_clearest_66 : decode cX12_clearest 66 = .ok (.invokevirtual 342, 3) := by decide +kernel
theorem dX12_clearest_69 : decode cX12_clearest 69 = .ok (.iload 6, 2) := by decide +kernel
theorem dX12_clearest_71 : decode cX12_clearest 71 = .ok (.aload_n 0, 1) := by decide +kernel
theorem dX12_clearest_72 : decode cX12_clearest 72 = .ok (.iload_n 2, 1) := by decide +kernel
theorem dX12_clearest_73 : decode cX12_clearest 73 = .ok (.invokevirtual 342, 3) := by decide +kernel
theorem dX12_clearest_76 : decode cX12_clearest 76 = .ok (.iadd, 1) := by decide +kernel
theorem dX12_clearest_77 : decode cX12_clearest 77 = .ok (.invokestatic 368, 3) := by decide +kernel
theorem dX12_clearest_80 : decode cX12_clearest 80 = .ok (.istore 7, 2) := by decide +kernel
theorem dX12_clearest_82 : decode cX12_clearest 82 = .ok (.iconst 0, 1) := by decide +kernel
theorem dX12_clearest_83 : decode cX12_clearest 83 = .ok (.istore 8, 2) := by decide +kernel
theorem dX12_clearest_85 : decode cX12_clearest 85 = .ok (.iconst 0, 1) := by decide +kernel
theorem dX12_clearest_86 : decode cX12_clearest 86 = .ok (.istore 9, 2) := by decide +kernel
theorem dX12_clearest_88 : decode cX12_clearest 88 = .ok (.iload 9, 2) := by decide +kernel
theorem dX12_clearest_90 : decode cX12_clearest 90 = .ok (.iload 7, 2) := by decide +kernel
theorem dX12_clearest_92 : decode cX12_clearest 92 = .ok (.if_icmp .ge 43, 3) := by decide +kernel
theorem dX12_clearest_95 : decode cX12_clearest 95 = .ok (.iload 8, 2) := by decide +kernel
theorem dX12_clearest_97 : decode cX12_clearest 97 = .ok (.aload_n 0, 1) := by decide +kernel
theorem dX12_clearest_98 : decode cX12_clearest 98 = .ok (.aload_n 0, 1) := by decide +kernel
theorem dX12_clearest_99 : decode cX12_clearest 99 = .ok (.iload_n 1, 1) := by decide +kernel
theorem dX12_clearest_100 : decode cX12_clearest 100 = .ok (.iload 9, 2) := by decide +kernel
theorem dX12_clearest_102 : decode cX12_clearest 102 = .ok (.invokevirtual 371, 3) := by decide +kernel
theorem dX12_clearest_105 : decode cX12_clearest 105 = .ok (.aload_n 0, 1) := by decide +kernel
theorem dX12_clearest_106 : decode cX12_clearest 106 = .ok (.iload_n 2, 1) := by decide +kernel
theorem dX12_clearest_107 : decode cX12_clearest 107 = .ok (.iload 9, 2) := by decide +kernel
theorem dX12_clearest_109 : decode cX12_clearest 109 = .ok (.iload 6, 2) := by decide +kernel
theorem dX12_clearest_111 : decode cX12_clearest 111 = .ok (.isub, 1) := by decide +kernel
theorem dX12_clearest_112 : decode cX12_clearest 112 = .ok (.invokevirtual 371, 3) := by decide +kernel
theorem dX12_clearest_115 : decode cX12_clearest 115 = .ok (.invokevirtual 374, 3) := by decide +kernel
theorem dX12_clearest_118 : decode cX12_clearest 118 = .ok (.ifCond .le 7, 3) := by decide +kernel
theorem dX12_clearest_121 : decode cX12_clearest 121 = .ok (.iconst 1, 1) := by decide +kernel
theorem dX12_clearest_122 : decode cX12_clearest 122 = .ok (.goto 4, 3) := by decide +kernel
theorem dX12_clearest_125 : decode cX12_clearest 125 = .ok (.iconst 0, 1) := by decide +kernel
theorem dX12_clearest_126 : decode cX12_clearest 126 = .ok (.iadd, 1) := by decide +kernel
theorem dX12_clearest_127 : decode cX12_clearest 127 = .ok (.istore 8, 2) := by decide +kernel
theorem dX12_clearest_129 : decode cX12_clearest 129 = .ok (.iinc 9 1, 3) := by decide +kernel
theorem dX12_clearest_132 : decode cX12_clearest 132 = .ok (.goto (-44), 3) := by decide +kernel
theorem dX12_clearest_135 : decode cX12_clearest 135 = .ok (.iload 8, 2) := by decide +kernel
theorem dX12_clearest_137 : decode cX12_clearest 137 = .ok (.iload 5, 2) := by decide +kernel
theorem dX12_clearest_139 : decode cX12_clearest 139 = .ok (.if_icmp .gt 6, 3) := by decide +kernel
theorem dX12_clearest_142 : decode cX12_clearest 142 = .ok (.goto 11, 3) := by decide +kernel
theorem dX12_clearest_145 : decode cX12_clearest 145 = .ok (.iload 8, 2) := by decide +kernel
theorem dX12_clearest_147 : decode cX12_clearest 147 = .ok (.istore 5, 2) := by decide +kernel
theorem dX12_clearest_149 : decode cX12_clearest 149 = .ok (.iload 6, 2) := by decide +kernel
theorem dX12_clearest_151 : decode cX12_clearest 151 = .ok (.istore 4, 2) := by decide +kernel
theorem dX12_clearest_153 : decode cX12_clearest 153 = .ok (.iinc 6 1, 3) := by decide +kernel
theorem dX12_clearest_156 : decode cX12_clearest 156 = .ok (.goto (-99), 3) := by decide +kernel
theorem dX12_clearest_159 : decode cX12_clearest 159 = .ok (.iload_n 3, 1) := by decide +kernel
theorem dX12_clearest_160 : decode cX12_clearest 160 = .ok (.ifCond .ne 8, 3) := by decide +kernel
theorem dX12_clearest_163 : decode cX12_clearest 163 = .ok (.iload 4, 2) := by decide +kernel
theorem dX12_clearest_165 : decode cX12_clearest 165 = .ok (.goto 5, 3) := by decide +kernel
theorem dX12_clearest_168 : decode cX12_clearest 168 = .ok (.iload 5, 2) := by decide +kernel
theorem dX12_clearest_170 : decode cX12_clearest 170 = .ok (.ireturn, 1) := by decide +kernel
theorem dX12_whyNoLetters_0 : decode cX12_whyNoLetters 0 = .ok (.iconst 0, 1) := by decide +kernel
theorem dX12_whyNoLetters_1 : decode cX12_whyNoLetters 1 = .ok (.istore 4, 2) := by decide +kernel
theorem dX12_whyNoLetters_3 : decode cX12_whyNoLetters 3 = .ok (.iload 4, 2) := by decide +kernel
theorem dX12_whyNoLetters_5 : decode cX12_whyNoLetters 5 = .ok (.iload_n 2, 1) := by decide +kernel
theorem dX12_whyNoLetters_6 : decode cX12_whyNoLetters 6 = .ok (.if_icmp .ge 29, 3) := by decide +kernel
theorem dX12_whyNoLetters_9 : decode cX12_whyNoLetters 9 = .ok (.aload_n 0, 1) := by decide +kernel
theorem dX12_whyNoLetters_10 : decode cX12_whyNoLetters 10 = .ok (.iload_n 1, 1) := by decide +kernel
theorem dX12_whyNoLetters_11 : decode cX12_whyNoLetters 11 = .ok (.iload 4, 2) := by decide +kernel
theorem dX12_whyNoLetters_13 : decode cX12_whyNoLetters 13 = .ok (.invokevirtual 387, 3) := by decide +kernel
theorem dX12_whyNoLetters_16 : decode cX12_whyNoLetters 16 = .ok (.iload_n 3, 1) := by decide +kernel
theorem dX12_whyNoLetters_17 : decode cX12_whyNoLetters 17 = .ok (.i2l, 1) := by decide +kernel
theorem dX12_whyNoLetters_18 : decode cX12_whyNoLetters 18 = .ok (.ldc2_w 377, 3) := by decide +kernel
theorem dX12_whyNoLetters_21 : decode cX12_whyNoLetters 21 = .ok (.invokestatic 124, 3) := by decide +kernel
theorem dX12_whyNoLetters_24 : decode cX12_whyNoLetters 24 = .ok (.ifCond .ne 5, 3) := by decide +kernel
theorem dX12_whyNoLetters_27 : decode cX12_whyNoLetters 27 = .ok (.iconst 5, 1) := by decide +kernel
theorem dX12_whyNoLetters_28 : decode cX12_whyNoLetters 28 = .ok (.ireturn, 1) := by decide +kernel
theorem dX12_whyNoLetters_29 : decode cX12_whyNoLetters 29 = .ok (.iinc 4 1, 3) := by decide +kernel
theorem dX12_whyNoLetters_32 : decode cX12_whyNoLetters 32 = .ok (.goto (-29), 3) := by decide +kernel
theorem dX12_whyNoLetters_35 : decode cX12_whyNoLetters 35 = .ok (.iconst 0, 1) := by decide +kernel
theorem dX12_whyNoLetters_36 : decode cX12_whyNoLetters 36 = .ok (.ireturn, 1) := by decide +kernel
theorem dX12_couples_0 : decode cX12_couples 0 = .ok (.aload_n 0, 1) := by decide +kernel
theorem dX12_couples_1 : decode cX12_couples 1 = .ok (.iconst 0, 1) := by decide +kernel
theorem dX12_couples_2 : decode cX12_couples 2 = .ok (.putfield 89, 3) := by decide +kernel
theorem dX12_couples_5 : decode cX12_couples 5 = .ok (.aload_n 0, 1) := by decide +kernel
theorem dX12_couples_6 : decode cX12_couples 6 = .ok (.iconst 0, 1) := by decide +kernel
theorem dX12_couples_7 : decode cX12_couples 7 = .ok (.putfield 92, 3) := by decide +kernel
theorem dX12_couples_10 : decode cX12_couples 10 = .ok (.aload_n 0, 1) := by decide +kernel
theorem dX12_couples_11 : decode cX12_couples 11 = .ok (.iload_n 1, 1) := by decide +kernel
theorem dX12_couples_12 : decode cX12_couples 12 = .ok (.invokevirtual 351, 3) := by decide +kernel
theorem dX12_couples_15 : decode cX12_couples 15 = .ok (.ifCond .ne 10, 3) := by decide +kernel
theorem dX12_couples_18 : decode cX12_couples 18 = .ok (.aload_n 0, 1) := by decide +kernel
theorem dX12_couples_19 : decode cX12_couples 19 = .ok (.iconst 1, 1) := by decide +kernel
theorem dX12_couples_20 : decode cX12_couples 20 = .ok (.invokevirtual 321, 3) := by decide +kernel
theorem dX12_couples_23 : decode cX12_couples 23 = .ok (.i2l, 1) := by decide +kernel
theorem dX12_couples_24 : decode cX12_couples 24 = .ok (.lreturn, 1) := by decide +kernel
theorem dX12_couples_25 : decode cX12_couples 25 = .ok (.aload_n 0, 1) := by decide +kernel
theorem dX12_couples_26 : decode cX12_couples 26 = .ok (.getfield 17, 3) := by decide +kernel
theorem dX12_couples_29 : decode cX12_couples 29 = .ok (.iload_n 1, 1) := by decide +kernel
theorem dX12_couples_30 : decode cX12_couples 30 = .ok (.iaload, 1) := by decide +kernel
theorem dX12_couples_31 : decode cX12_couples 31 = .ok (.ifCond .ge 10, 3) := by decide +kernel
theorem dX12_couples_34 : decode cX12_couples 34 = .ok (.aload_n 0, 1) := by decide +kernel
theorem dX12_couples_35 : decode cX12_couples 35 = .ok (.iconst 3, 1) := by decide +kernel
theorem dX12_couples_36 : decode cX12_couples 36 = .ok (.invokevirtual 321, 3) := by decide +kernel
theorem dX12_couples_39 : decode cX12_couples 39 = .ok (.i2l, 1) := by decide +kernel
theorem dX12_couples_40 : decode cX12_couples 40 = .ok (.lreturn, 1) := by decide +kernel
theorem dX12_couples_41 : decode cX12_couples 41 = .ok (.aload_n 0, 1) := by decide +kernel
theorem dX12_couples_42 : decode cX12_couples 42 = .ok (.getfield 17, 3) := by decide +kernel
theorem dX12_couples_45 : decode cX12_couples 45 = .ok (.iload_n 1, 1) := by decide +kernel
theorem dX12_couples_46 : decode cX12_couples 46 = .ok (.iaload, 1) := by decide +kernel
theorem dX12_couples_47 : decode cX12_couples 47 = .ok (.iload_n 2, 1) := by decide +kernel
theorem dX12_couples_48 : decode cX12_couples 48 = .ok (.if_icmp .ge 10, 3) := by decide +kernel
theorem dX12_couples_51 : decode cX12_couples 51 = .ok (.aload_n 0, 1) := by decide +kernel
theorem dX12_couples_52 : decode cX12_couples 52 = .ok (.iconst 4, 1) := by decide +kernel
theorem dX12_couples_53 : decode cX12_couples 53 = .ok (.invokevirtual 321, 3) := by decide +kernel
theorem dX12_couples_56 : decode cX12_couples 56 = .ok (.i2l, 1) := by decide +kernel
theorem dX12_couples_57 : decode cX12_couples 57 = .ok (.lreturn, 1) := by decide +kernel
theorem dX12_couples_58 : decode cX12_couples 58 = .ok (.iload_n 2, 1) := by decide +kernel
theorem dX12_couples_59 : decode cX12_couples 59 = .ok (.i2l, 1) := by decide +kernel
theorem dX12_couples_60 : decode cX12_couples 60 = .ok (.lconst 1, 1) := by decide +kernel
theorem dX12_couples_61 : decode cX12_couples 61 = .ok (.ldc2_w 391, 3) := by decide +kernel
theorem dX12_couples_64 : decode cX12_couples 64 = .ok (.invokestatic 124, 3) := by decide +kernel
theorem dX12_couples_67 : decode cX12_couples 67 = .ok (.ifCond .ne 10, 3) := by decide +kernel
theorem dX12_couples_70 : decode cX12_couples 70 = .ok (.aload_n 0, 1) := by decide +kernel
theorem dX12_couples_71 : decode cX12_couples 71 = .ok (.iconst 5, 1) := by decide +kernel
theorem dX12_couples_72 : decode cX12_couples 72 = .ok (.invokevirtual 321, 3) := by decide +kernel
theorem dX12_couples_75 : decode cX12_couples 75 = .ok (.i2l, 1) := by decide +kernel
theorem dX12_couples_76 : decode cX12_couples 76 = .ok (.lreturn, 1) := by decide +kernel
theorem dX12_couples_77 : decode cX12_couples 77 = .ok (.aload_n 0, 1) := by decide +kernel
theorem dX12_couples_78 : decode cX12_couples 78 = .ok (.aload_n 0, 1) := by decide +kernel
theorem dX12_couples_79 : decode cX12_couples 79 = .ok (.iload_n 1, 1) := by decide +kernel
theorem dX12_couples_80 : decode cX12_couples 80 = .ok (.iload_n 2, 1) := by decide +kernel
theorem dX12_couples_81 : decode cX12_couples 81 = .ok (.iconst 0, 1) := by decide +kernel
theorem dX12_couples_82 : decode cX12_couples 82 = .ok (.invokevirtual 393, 3) := by decide +kernel
theorem dX12_couples_85 : decode cX12_couples 85 = .ok (.putfield 92, 3) := by decide +kernel
theorem dX12_couples_88 : decode cX12_couples 88 = .ok (.aload_n 0, 1) := by decide +kernel
theorem dX12_couples_89 : decode cX12_couples 89 = .ok (.getfield 92, 3) := by decide +kernel
theorem dX12_couples_92 : decode cX12_couples 92 = .ok (.ifCond .le 7, 3) := by decide +kernel
theorem dX12_couples_95 : decode cX12_couples 95 = .ok (.ldc2_w 120, 3) := by decide +kernel
theorem dX12_couples_98 : decode cX12_couples 98 = .ok (.lreturn, 1) := by decide +kernel
theorem dX12_couples_99 : decode cX12_couples 99 = .ok (.lconst 1, 1) := by decide +kernel
theorem dX12_couples_100 : decode cX12_couples 100 = .ok (.lstore_n 3, 1) := by decide +kernel
theorem dX12_couples_101 : decode cX12_couples 101 = .ok (.iconst 0, 1) := by decide +kernel
theorem dX12_couples_102 : decode cX12_couples 102 = .ok (.istore 5, 2) := by decide +kernel
theorem dX12_couples_104 : decode cX12_couples 104 = .ok (.iload 5, 2) := by decide +kernel
theorem dX12_couples_106 : decode cX12_couples 106 = .ok (.iload_n 2, 1) := by decide +kernel
theorem dX12_couples_107 : decode cX12_couples 107 = .ok (.if_icmp .ge 79, 3) := by decide +kernel
theorem dX12_couples_110 : decode cX12_couples 110 = .ok (.iconst 0, 1) := by decide +kernel
theorem dX12_couples_111 : decode cX12_couples 111 = .ok (.istore 6, 2) := by decide +kernel
theorem dX12_couples_113 : decode cX12_couples 113 = .ok (.iconst 1, 1) := by decide +kernel
theorem dX12_couples_114 : decode cX12_couples 114 = .ok (.istore 7, 2) := by decide +kernel
theorem dX12_couples_116 : decode cX12_couples 116 = .ok (.iload 7, 2) := by decide +kernel
theorem dX12_couples_118 : decode cX12_couples 118 = .ok (.bipush 26, 2) := by decide +kernel
theorem dX12_couples_120 : decode cX12_couples 120 = .ok (.if_icmp .gt 54, 3) := by decide +kernel
theorem dX12_couples_123 : decode cX12_couples 123 = .ok (.iconst 1, 1) := by decide +kernel
theorem dX12_couples_124 : decode cX12_couples 124 = .ok (.istore 8, 2) := by decide +kernel
theorem dX12_couples_126 : decode cX12_couples 126 = .ok (.iload 8, 2) := by decide +kernel
theorem dX12_couples_128 : decode cX12_couples 128 = .ok (.bipush 26, 2) := by decide +kernel
theorem dX12_couples_130 : decode cX12_couples 130 = .ok (.if_icmp .gt 38, 3) := by decide +kernel
theorem dX12_couples_133 : decode cX12_couples 133 = .ok (.iload 6, 2) := by decide +kernel
theorem dX12_couples_135 : decode cX12_couples 135 = .ok (.aload_n 0, 1) := by decide +kernel
theorem dX12_couples_136 : decode cX12_couples 136 = .ok (.iload 7, 2) := by decide +kernel
theorem dX12_couples_138 : decode cX12_couples 138 = .ok (.iload 8, 2) := by decide +kernel
theorem dX12_couples_140 : decode cX12_couples 140 = .ok (.invokevirtual 374, 3) := by decide +kernel
theorem dX12_couples_143 : decode cX12_couples 143 = .ok (.aload_n 0, 1) := by decide +kernel
theorem dX12_couples_144 : decode cX12_couples 144 = .ok (.iload_n 1, 1) := by decide +kernel
theorem dX12_couples_145 : decode cX12_couples 145 = .ok (.iload 5, 2) := by decide +kernel
theorem dX12_couples_147 : decode cX12_couples 147 = .ok (.invokevirtual 387, 3) := by decide +kernel
theorem dX12_couples_150 : decode cX12_couples 150 = .ok (.l2i, 1) := by decide +kernel
theorem dX12_couples_151 : decode cX12_couples 151 = .ok (.if_icmp .ne 7, 3) := by decide +kernel
theorem dX12_couples_154 : decode cX12_couples 154 = .ok (.iconst 1, 1) := by decide +kernel
theorem dX12_couples_155 : decode cX12_couples 155 = .ok (.goto 4, 3) := by decide +kernel
theorem dX12_couples_158 : decode cX12_couples 158 = .ok (.iconst 0, 1) := by decide +kernel
theorem dX12_couples_159 : decode cX12_couples 159 = .ok (.iadd, 1) := by decide +kernel
theorem dX12_couples_160 : decode cX12_couples 160 = .ok (.istore 6, 2) := by decide +kernel
theorem dX12_couples_162 : decode cX12_couples 162 = .ok (.iinc 8 1, 3) := by decide +kernel
theorem dX12_couples_165 : decode cX12_couples 165 = .ok (.goto (-39), 3) := by decide +kernel
theorem dX12_couples_168 : decode cX12_couples 168 = .ok (.iinc 7 1, 3) := by decide +kernel
theorem dX12_couples_171 : decode cX12_couples 171 = .ok (.goto (-55), 3) := by decide +kernel
theorem dX12_couples_174 : decode cX12_couples 174 = .ok (.lload_n 3, 1) := by decide +kernel
theorem dX12_couples_175 : decode cX12_couples 175 = .ok (.iload 6, 2) := by decide +kernel
theorem dX12_couples_177 : decode cX12_couples 177 = .ok (.i2l, 1) := by decide +kernel
theorem dX12_couples_178 : decode cX12_couples 178 = .ok (.lmul, 1) := by decide +kernel
theorem dX12_couples_179 : decode cX12_couples 179 = .ok (.lstore_n 3, 1) := by decide +kernel
theorem dX12_couples_180 : decode cX12_couples 180 = .ok (.iinc 5 1, 3) := by decide +kernel
theorem dX12_couples_183 : decode cX12_couples 183 = .ok (.goto (-79), 3) := by decide +kernel
theorem dX12_couples_186 : decode cX12_couples 186 = .ok (.lload_n 3, 1) := by decide +kernel
theorem dX12_couples_187 : decode cX12_couples 187 = .ok (.lreturn, 1) := by decide +kernel
theorem dX12_beside_0 : decode cX12_beside 0 = .ok (.aload_n 0, 1) := by decide +kernel
theorem dX12_beside_1 : decode cX12_beside 1 = .ok (.iconst 0, 1) := by decide +kernel
theorem dX12_beside_2 : decode cX12_beside 2 = .ok (.putfield 89, 3) := by decide +kernel
theorem dX12_beside_5 : decode cX12_beside 5 = .ok (.aload_n 0, 1) := by decide +kernel
theorem dX12_beside_6 : decode cX12_beside 6 = .ok (.iconst 0, 1) := by decide +kernel
theorem dX12_beside_7 : decode cX12_beside 7 = .ok (.putfield 92, 3) := by decide +kernel
theorem dX12_beside_10 : decode cX12_beside 10 = .ok (.aload_n 0, 1) := by decide +kernel
theorem dX12_beside_11 : decode cX12_beside 11 = .ok (.iload_n 1, 1) := by decide +kernel
theorem dX12_beside_12 : decode cX12_beside 12 = .ok (.invokevirtual 351, 3) := by decide +kernel
theorem dX12_beside_15 : decode cX12_beside 15 = .ok (.ifCond .ne 10, 3) := by decide +kernel
theorem dX12_beside_18 : decode cX12_beside 18 = .ok (.aload_n 0, 1) := by decide +kernel
theorem dX12_beside_19 : decode cX12_beside 19 = .ok (.iconst 1, 1) := by decide +kernel
theorem dX12_beside_20 : decode cX12_beside 20 = .ok (.invokevirtual 321, 3) := by decide +kernel
theorem dX12_beside_23 : decode cX12_beside 23 = .ok (.i2l, 1) := by decide +kernel
theorem dX12_beside_24 : decode cX12_beside 24 = .ok (.lreturn, 1) := by decide +kernel
theorem dX12_beside_25 : decode cX12_beside 25 = .ok (.aload_n 0, 1) := by decide +kernel
theorem dX12_beside_26 : decode cX12_beside 26 = .ok (.iload_n 3, 1) := by decide +kernel
theorem dX12_beside_27 : decode cX12_beside 27 = .ok (.invokevirtual 324, 3) := by decide +kernel
theorem dX12_beside_30 : decode cX12_beside 30 = .ok (.ifCond .ne 10, 3) := by decide +kernel
theorem dX12_beside_33 : decode cX12_beside 33 = .ok (.aload_n 0, 1) := by decide +kernel
theorem dX12_beside_34 : decode cX12_beside 34 = .ok (.iconst 2, 1) := by decide +kernel
theorem dX12_beside_35 : decode cX12_beside 35 = .ok (.invokevirtual 321, 3) := by decide +kernel
theorem dX12_beside_38 : decode cX12_beside 38 = .ok (.i2l, 1) := by decide +kernel
theorem dX12_beside_39 : decode cX12_beside 39 = .ok (.lreturn, 1) := by decide +kernel
theorem dX12_beside_40 : decode cX12_beside 40 = .ok (.aload_n 0, 1) := by decide +kernel
theorem dX12_beside_41 : decode cX12_beside 41 = .ok (.getfield 17, 3) := by decide +kernel
theorem dX12_beside_44 : decode cX12_beside 44 = .ok (.iload_n 1, 1) := by decide +kernel
theorem dX12_beside_45 : decode cX12_beside 45 = .ok (.iaload, 1) := by decide +kernel
theorem dX12_beside_46 : decode cX12_beside 46 = .ok (.ifCond .ge 10, 3) := by decide +kernel
theorem dX12_beside_49 : decode cX12_beside 49 = .ok (.aload_n 0, 1) := by decide +kernel
theorem dX12_beside_50 : decode cX12_beside 50 = .ok (.iconst 3, 1) := by decide +kernel
theorem dX12_beside_51 : decode cX12_beside 51 = .ok (.invokevirtual 321, 3) := by decide +kernel
theorem dX12_beside_54 : decode cX12_beside 54 = .ok (.i2l, 1) := by decide +kernel
theorem dX12_beside_55 : decode cX12_beside 55 = .ok (.lreturn, 1) := by decide +kernel
theorem dX12_beside_56 : decode cX12_beside 56 = .ok (.aload_n 0, 1) := by decide +kernel
theorem dX12_beside_57 : decode cX12_beside 57 = .ok (.getfield 17, 3) := by decide +kernel
theorem dX12_beside_60 : decode cX12_beside 60 = .ok (.iload_n 1, 1) := by decide +kernel
theorem dX12_beside_61 : decode cX12_beside 61 = .ok (.iaload, 1) := by decide +kernel
theorem dX12_beside_62 : decode cX12_beside 62 = .ok (.iload_n 2, 1) := by decide +kernel
theorem dX12_beside_63 : decode cX12_beside 63 = .ok (.if_icmp .ge 10, 3) := by decide +kernel
theorem dX12_beside_66 : decode cX12_beside 66 = .ok (.aload_n 0, 1) := by decide +kernel
theorem dX12_beside_67 : decode cX12_beside 67 = .ok (.iconst 4, 1) := by decide +kernel
theorem dX12_beside_68 : decode cX12_beside 68 = .ok (.invokevirtual 321, 3) := by decide +kernel
theorem dX12_beside_71 : decode cX12_beside 71 = .ok (.i2l, 1) := by decide +kernel
theorem dX12_beside_72 : decode cX12_beside 72 = .ok (.lreturn, 1) := by decide +kernel
theorem dX12_beside_73 : decode cX12_beside 73 = .ok (.iload_n 2, 1) := by decide +kernel
theorem dX12_beside_74 : decode cX12_beside 74 = .ok (.i2l, 1) := by decide +kernel
theorem dX12_beside_75 : decode cX12_beside 75 = .ok (.lconst 1, 1) := by decide +kernel
theorem dX12_beside_76 : decode cX12_beside 76 = .ok (.ldc2_w 396, 3) := by decide +kernel
theorem dX12_beside_79 : decode cX12_beside 79 = .ok (.invokestatic 124, 3) := by decide +kernel
theorem dX12_beside_82 : decode cX12_beside 82 = .ok (.ifCond .eq 16, 3) := by decide +kernel
theorem dX12_beside_85 : decode cX12_beside 85 = .ok (.iload 4, 2) := by decide +kernel
theorem dX12_beside_87 : decode cX12_beside 87 = .ok (.i2l, 1) := by decide +kernel
theorem dX12_beside_88 : decode cX12_beside 88 = .ok (.lconst 0, 1) := by decide +kernel
theorem dX12_beside_89 : decode cX12_beside 89 = .ok (.ldc2_w 382, 3) := by decide +kernel
theorem dX12_beside_92 : decode cX12_beside 92 = .ok (.invokestatic 124, 3) := by decide +kernel
theorem dX12_beside_95 : decode cX12_beside 95 = .ok (.ifCond .ne 10, 3) := by decide +kernel
theorem dX12_beside_98 : decode cX12_beside 98 = .ok (.aload_n 0, 1) := by decide +kernel
theorem dX12_beside_99 : decode cX12_beside 99 = .ok (.iconst 5, 1) := by decide +kernel
theorem dX12_beside_100 : decode cX12_beside 100 = .ok (.invokevirtual 321, 3) := by decide +kernel
theorem dX12_beside_103 : decode cX12_beside 103 = .ok (.i2l, 1) := by decide +kernel
theorem dX12_beside_104 : decode cX12_beside 104 = .ok (.lreturn, 1) := by decide +kernel
theorem dX12_beside_105 : decode cX12_beside 105 = .ok (.aload_n 0, 1) := by decide +kernel
theorem dX12_beside_106 : decode cX12_beside 106 = .ok (.aload_n 0, 1) := by decide +kernel
theorem dX12_beside_107 : decode cX12_beside 107 = .ok (.iload_n 1, 1) := by decide +kernel
theorem dX12_beside_108 : decode cX12_beside 108 = .ok (.iload_n 2, 1) := by decide +kernel
theorem dX12_beside_109 : decode cX12_beside 109 = .ok (.iconst 0, 1) := by decide +kernel
theorem dX12_beside_110 : decode cX12_beside 110 = .ok (.invokevirtual 393, 3) := by decide +kernel
theorem dX12_beside_113 : decode cX12_beside 113 = .ok (.putfield 92, 3) := by decide +kernel
theorem dX12_beside_116 : decode cX12_beside 116 = .ok (.aload_n 0, 1) := by decide +kernel
theorem dX12_beside_117 : decode cX12_beside 117 = .ok (.getfield 92, 3) := by decide +kernel
theorem dX12_beside_120 : decode cX12_beside 120 = .ok (.ifCond .le 7, 3) := by decide +kernel
theorem dX12_beside_123 : decode cX12_beside 123 = .ok (.ldc2_w 120, 3) := by decide +kernel
theorem dX12_beside_126 : decode cX12_beside 126 = .ok (.lreturn, 1) := by decide +kernel
theorem dX12_beside_127 : decode cX12_beside 127 = .ok (.lconst 1, 1) := by decide +kernel
theorem dX12_beside_128 : decode cX12_beside 128 = .ok (.lstore 5, 2) := by decide +kernel
theorem dX12_beside_130 : decode cX12_beside 130 = .ok (.iconst 0, 1) := by decide +kernel
theorem dX12_beside_131 : decode cX12_beside 131 = .ok (.istore 7, 2) := by decide +kernel
theorem dX12_beside_133 : decode cX12_beside 133 = .ok (.iload 7, 2) := by decide +kernel
theorem dX12_beside_135 : decode cX12_beside 135 = .ok (.iload_n 2, 1) := by decide +kernel
theorem dX12_beside_136 : decode cX12_beside 136 = .ok (.if_icmp .ge 72, 3) := by decide +kernel
theorem dX12_beside_139 : decode cX12_beside 139 = .ok (.aload_n 0, 1) := by decide +kernel
theorem dX12_beside_140 : decode cX12_beside 140 = .ok (.aload_n 0, 1) := by decide +kernel
theorem dX12_beside_141 : decode cX12_beside 141 = .ok (.iload_n 3, 1) := by decide +kernel
theorem dX12_beside_142 : decode cX12_beside 142 = .ok (.iload 4, 2) := by decide +kernel
theorem dX12_beside_144 : decode cX12_beside 144 = .ok (.iload 7, 2) := by decide +kernel
theorem dX12_beside_146 : decode cX12_beside 146 = .ok (.iadd, 1) := by decide +kernel
theorem dX12_beside_147 : decode cX12_beside 147 = .ok (.invokevirtual 384, 3) := by decide +kernel
theorem dX12_beside_150 : decode cX12_beside 150 = .ok (.aload_n 0, 1) := by decide +kernel
theorem dX12_beside_151 : decode cX12_beside 151 = .ok (.iload_n 1, 1) := by decide +kernel
theorem dX12_beside_152 : decode cX12_beside 152 = .ok (.iload 7, 2) := by decide +kernel
theorem dX12_beside_154 : decode cX12_beside 154 = .ok (.invokevirtual 387, 3) := by decide +kernel
theorem dX12_beside_157 : decode cX12_beside 157 = .ok (.l2i, 1) := by decide +kernel
theorem dX12_beside_158 : decode cX12_beside 158 = .ok (.invokevirtual 379, 3) := by decide +kernel
theorem dX12_beside_161 : decode cX12_beside 161 = .ok (.istore 8, 2) := by decide +kernel
theorem dX12_beside_163 : decode cX12_beside 163 = .ok (.iconst 0, 1) := by decide +kernel
theorem dX12_beside_164 : decode cX12_beside 164 = .ok (.istore 9, 2) := by decide +kernel
theorem dX12_beside_166 : decode cX12_beside 166 = .ok (.iconst 0, 1) := by decide +kernel
theorem dX12_beside_167 : decode cX12_beside 167 = .ok (.istore 10, 2) := by decide +kernel
theorem dX12_beside_169 : decode cX12_beside 169 = .ok (.iload 10, 2) := by decide +kernel
theorem dX12_beside_171 : decode cX12_beside 171 = .ok (.bipush 26, 2) := by decide +kernel
theorem dX12_beside_173 : decode cX12_beside 173 = .ok (.if_icmp .gt 21, 3) := by decide +kernel
theorem dX12_beside_176 : decode cX12_beside 176 = .ok (.iload 9, 2) := by decide +kernel
theorem dX12_beside_178 : decode cX12_beside 178 = .ok (.iload 8, 2) := by decide +kernel
theorem dX12_beside_180 : decode cX12_beside 180 = .ok (.iload 10, 2) := by decide +kernel
theorem dX12_beside_182 : decode cX12_beside 182 = .ok (.ishr, 1) := by decide +kernel
theorem dX12_beside_183 : decode cX12_beside 183 = .ok (.iconst 1, 1) := by decide +kernel
theorem dX12_beside_184 : decode cX12_beside 184 = .ok (.iand, 1) := by decide +kernel
theorem dX12_beside_185 : decode cX12_beside 185 = .ok (.iadd, 1) := by decide +kernel
theorem dX12_beside_186 : decode cX12_beside 186 = .ok (.istore 9, 2) := by decide +kernel
theorem dX12_beside_188 : decode cX12_beside 188 = .ok (.iinc 10 1, 3) := by decide +kernel
theorem dX12_beside_191 : decode cX12_beside 191 = .ok (.goto (-22), 3) := by decide +kernel
theorem dX12_beside_194 : decode cX12_beside 194 = .ok (.lload 5, 2) := by decide +kernel
theorem dX12_beside_196 : decode cX12_beside 196 = .ok (.iload 9, 2) := by decide +kernel
theorem dX12_beside_198 : decode cX12_beside 198 = .ok (.i2l, 1) := by decide +kernel
theorem dX12_beside_199 : decode cX12_beside 199 = .ok (.lmul, 1) := by decide +kernel
theorem dX12_beside_200 : decode cX12_beside 200 = .ok (.lstore 5, 2) := by decide +kernel
theorem dX12_beside_202 : decode cX12_beside 202 = .ok (.iinc 7 1, 3) := by decide +kernel
theorem dX12_beside_205 : decode cX12_beside 205 = .ok (.goto (-72), 3) := by decide +kernel
theorem dX12_beside_208 : decode cX12_beside 208 = .ok (.lload 5, 2) := by decide +kernel
theorem dX12_beside_210 : decode cX12_beside 210 = .ok (.lreturn, 1) := by decide +kernel
theorem dX12_standsAt_0 : decode cX12_standsAt 0 = .ok (.iconst 0, 1) := by decide +kernel
theorem dX12_standsAt_1 : decode cX12_standsAt 1 = .ok (.istore 5, 2) := by decide +kernel
theorem dX12_standsAt_3 : decode cX12_standsAt 3 = .ok (.iload 5, 2) := by decide +kernel
theorem dX12_standsAt_5 : decode cX12_standsAt 5 = .ok (.iload_n 2, 1) := by decide +kernel
theorem dX12_standsAt_6 : decode cX12_standsAt 6 = .ok (.if_icmp .ge 31, 3) := by decide +kernel
theorem dX12_standsAt_9 : decode cX12_standsAt 9 = .ok (.aload_n 0, 1) := by decide +kernel
theorem dX12_standsAt_10 : decode cX12_standsAt 10 = .ok (.iload_n 1, 1) := by decide +kernel
theorem dX12_standsAt_11 : decode cX12_standsAt 11 = .ok (.iload 5, 2) := by decide +kernel
theorem dX12_standsAt_13 : decode cX12_standsAt 13 = .ok (.invokevirtual 348, 3) := by decide +kernel
theorem dX12_standsAt_16 : decode cX12_standsAt 16 = .ok (.aload_n 0, 1) := by decide +kernel
theorem dX12_standsAt_17 : decode cX12_standsAt 17 = .ok (.iload_n 3, 1) := by decide +kernel
theorem dX12_standsAt_18 : decode cX12_standsAt 18 = .ok (.iload 4, 2) := by decide +kernel
theorem dX12_standsAt_20 : decode cX12_standsAt 20 = .ok (.iload 5, 2) := by decide +kernel
theorem dX12_standsAt_22 : decode cX12_standsAt 22 = .ok (.iadd, 1) := by decide +kernel
theorem dX12_standsAt_23 : decode cX12_standsAt 23 = .ok (.invokevirtual 327, 3) := by decide +kernel
theorem dX12_standsAt_26 : decode cX12_standsAt 26 = .ok (.if_icmp .eq 5, 3) := by decide +kernel
theorem dX12_standsAt_29 : decode cX12_standsAt 29 = .ok (.iconst 0, 1) := by decide +kernel
theorem dX12_standsAt_30 : decode cX12_standsAt 30 = .ok (.ireturn, 1) := by decide +kernel
theorem dX12_standsAt_31 : decode cX12_standsAt 31 = .ok (.iinc 5 1, 3) := by decide +kernel
theorem dX12_standsAt_34 : decode cX12_standsAt 34 = .ok (.goto (-31), 3) := by decide +kernel
theorem dX12_standsAt_37 : decode cX12_standsAt 37 = .ok (.iconst 1, 1) := by decide +kernel
theorem dX12_standsAt_38 : decode cX12_standsAt 38 = .ok (.ireturn, 1) := by decide +kernel
theorem dX12_placesIn_0 : decode cX12_placesIn 0 = .ok (.aload_n 0, 1) := by decide +kernel
theorem dX12_placesIn_1 : decode cX12_placesIn 1 = .ok (.iload_n 1, 1) := by decide +kernel
theorem dX12_placesIn_2 : decode cX12_placesIn 2 = .ok (.invokevirtual 342, 3) := by decide +kernel
theorem dX12_placesIn_5 : decode cX12_placesIn 5 = .ok (.istore_n 3, 1) := by decide +kernel
theorem dX12_placesIn_6 : decode cX12_placesIn 6 = .ok (.iconst 0, 1) := by decide +kernel
theorem dX12_placesIn_7 : decode cX12_placesIn 7 = .ok (.istore 4, 2) := by decide +kernel
theorem dX12_placesIn_9 : decode cX12_placesIn 9 = .ok (.iconst 0, 1) := by decide +kernel
theorem dX12_placesIn_10 : decode cX12_placesIn 10 = .ok (.istore 5, 2) := by decide +kernel
theorem dX12_placesIn_12 : decode cX12_placesIn 12 = .ok (.iload_n 3, 1) := by decide +kernel
theorem dX12_placesIn_13 : decode cX12_placesIn 13 = .ok (.ifCond .le 46, 3) := by decide +kernel
theorem dX12_placesIn_16 : decode cX12_placesIn 16 = .ok (.iload 5, 2) := by decide +kernel
theorem dX12_placesIn_18 : decode cX12_placesIn 18 = .ok (.iload_n 3, 1) := by decide +kernel
theorem dX12_placesIn_19 : decode cX12_placesIn 19 = .ok (.iadd, 1) := by decide +kernel
theorem dX12_placesIn_20 : decode cX12_placesIn 20 = .ok (.aload_n 0, 1) := by decide +kernel
theorem dX12_placesIn_21 : decode cX12_placesIn 21 = .ok (.getfield 35, 3) := by decide +kernel
theorem dX12_placesIn_24 : decode cX12_placesIn 24 = .ok (.iconst 4, 1) := by decide +kernel
theorem dX12_placesIn_25 : decode cX12_placesIn 25 = .ok (.iload_n 2, 1) := by decide +kernel
theorem dX12_placesIn_26 : decode cX12_placesIn 26 = .ok (.iadd, 1) := by decide +kernel
theorem dX12_placesIn_27 : decode cX12_placesIn 27 = .ok (.iaload, 1) := by decide +kernel
theorem dX12_placesIn_28 : decode cX12_placesIn 28 = .ok (.if_icmp .gt 31, 3) := by decide +kernel
theorem dX12_placesIn_31 : decode cX12_placesIn 31 = .ok (.iload 4, 2) := by decide +kernel
theorem dX12_placesIn_33 : decode cX12_placesIn 33 = .ok (.aload_n 0, 1) := by decide +kernel
theorem dX12_placesIn_34 : decode cX12_placesIn 34 = .ok (.iload_n 1, 1) := by decide +kernel
theorem dX12_placesIn_35 : decode cX12_placesIn 35 = .ok (.iload_n 3, 1) := by decide +kernel
theorem dX12_placesIn_36 : decode cX12_placesIn 36 = .ok (.iload_n 2, 1) := by decide +kernel
theorem dX12_placesIn_37 : decode cX12_placesIn 37 = .ok (.iload 5, 2) := by decide +kernel
theorem dX12_placesIn_39 : decode cX12_placesIn 39 = .ok (.invokevirtual 398, 3) := by decide +kernel
theorem dX12_placesIn_42 : decode cX12_placesIn 42 = .ok (.ifCond .eq 7, 3) := by decide +kernel
theorem dX12_placesIn_45 : decode cX12_placesIn 45 = .ok (.iconst 1, 1) := by decide +kernel
theorem dX12_placesIn_46 : decode cX12_placesIn 46 = .ok (.goto 4, 3) := by decide +kernel
theorem dX12_placesIn_49 : decode cX12_placesIn 49 = .ok (.iconst 0, 1) := by decide +kernel
theorem dX12_placesIn_50 : decode cX12_placesIn 50 = .ok (.iadd, 1) := by decide +kernel
theorem dX12_placesIn_51 : decode cX12_placesIn 51 = .ok (.istore 4, 2) := by decide +kernel
theorem dX12_placesIn_53 : decode cX12_placesIn 53 = .ok (.iinc 5 1, 3) := by decide +kernel
theorem dX12_placesIn_56 : decode cX12_placesIn 56 = .ok (.goto (-44), 3) := by decide +kernel
theorem dX12_placesIn_59 : decode cX12_placesIn 59 = .ok (.iload 4, 2) := by decide +kernel
theorem dX12_placesIn_61 : decode cX12_placesIn 61 = .ok (.ireturn, 1) := by decide +kernel
theorem dX12_fitsOf_0 : decode cX12_fitsOf 0 = .ok (.iconst 0, 1) := by decide +kernel
theorem dX12_fitsOf_1 : decode cX12_fitsOf 1 = .ok (.istore_n 2, 1) := by decide +kernel
theorem dX12_fitsOf_2 : decode cX12_fitsOf 2 = .ok (.iconst 0, 1) := by decide +kernel
theorem dX12_fitsOf_3 : decode cX12_fitsOf 3 = .ok (.istore_n 3, 1) := by decide +kernel
theorem dX12_fitsOf_4 : decode cX12_fitsOf 4 = .ok (.iload_n 3, 1) := by decide +kernel
theorem dX12_fitsOf_5 : decode cX12_fitsOf 5 = .ok (.aload_n 0, 1) := by decide +kernel
theorem dX12_fitsOf_6 : decode cX12_fitsOf 6 = .ok (.getfield 35, 3) := by decide +kernel
theorem dX12_fitsOf_9 : decode cX12_fitsOf 9 = .ok (.iconst 1, 1) := by decide +kernel
theorem dX12_fitsOf_10 : decode cX12_fitsOf 10 = .ok (.iaload, 1) := by decide +kernel
theorem dX12_fitsOf_11 : decode cX12_fitsOf 11 = .ok (.if_icmp .ge 87, 3) := by decide +kernel
theorem dX12_fitsOf_14 : decode cX12_fitsOf 14 = .ok (.iconst 1, 1) := by decide +kernel
theorem dX12_fitsOf_15 : decode cX12_fitsOf 15 = .ok (.istore 4, 2) := by decide +kernel
theorem dX12_fitsOf_17 : decode cX12_fitsOf 17 = .ok (.iconst 0, 1) := by decide +kernel
theorem dX12_fitsOf_18 : decode cX12_fitsOf 18 = .ok (.istore 5, 2) := by decide +kernel
theorem dX12_fitsOf_20 : decode cX12_fitsOf 20 = .ok (.iload 5, 2) := by decide +kernel
theorem dX12_fitsOf_22 : decode cX12_fitsOf 22 = .ok (.aload_n 0, 1) := by decide +kernel
theorem dX12_fitsOf_23 : decode cX12_fitsOf 23 = .ok (.getfield 35, 3) := by decide +kernel
theorem dX12_fitsOf_26 : decode cX12_fitsOf 26 = .ok (.iconst 2, 1) := by decide +kernel
theorem dX12_fitsOf_27 : decode cX12_fitsOf 27 = .ok (.iaload, 1) := by decide +kernel
theorem dX12_fitsOf_28 : decode cX12_fitsOf 28 = .ok (.if_icmp .ge 49, 3) := by decide +kernel
theorem dX12_fitsOf_31 : decode cX12_fitsOf 31 = .ok (.iload 4, 2) := by decide +kernel
theorem dX12_fitsOf_33 : decode cX12_fitsOf 33 = .ok (.ifCond .eq 35, 3) := by decide +kernel
theorem dX12_fitsOf_36 : decode cX12_fitsOf 36 = .ok (.iload_n 1, 1) := by decide +kernel
theorem dX12_fitsOf_37 : decode cX12_fitsOf 37 = .ok (.iload 5, 2) := by decide +kernel
theorem dX12_fitsOf_39 : decode cX12_fitsOf 39 = .ok (.invokestatic 402, 3) := by decide +kernel
theorem dX12_fitsOf_42 : decode cX12_fitsOf 42 = .ok (.ifCond .eq 22, 3) := by decide +kernel
theorem dX12_fitsOf_45 : decode cX12_fitsOf 45 = .ok (.aload_n 0, 1) := by decide +kernel
theorem dX12_fitsOf_46 : decode cX12_fitsOf 46 = .ok (.iload 5, 2) := by decide +kernel
theorem dX12_fitsOf_48 : decode cX12_fitsOf 48 = .ok (.invokevirtual 342, 3) := by decide +kernel
theorem dX12_fitsOf_51 : decode cX12_fitsOf 51 = .ok (.ifCond .eq 13, 3) := by decide +kernel
theorem dX12_fitsOf_54 : decode cX12_fitsOf 54 = .ok (.aload_n 0, 1) := by decide +kernel
theorem dX12_fitsOf_55 : decode cX12_fitsOf 55 = .ok (.iload 5, 2) := by decide +kernel
theorem dX12_fitsOf_57 : decode cX12_fitsOf 57 = .ok (.iload_n 3, 1) := by decide +kernel
theorem dX12_fitsOf_58 : decode cX12_fitsOf 58 = .ok (.invokevirtual 405, 3) := by decide +kernel
theorem dX12_fitsOf_61 : decode cX12_fitsOf 61 = .ok (.ifCond .le 7, 3) := by decide +kernel
theorem dX12_fitsOf_64 : decode cX12_fitsOf 64 = .ok (.iconst 1, 1) := by decide +kernel
theorem dX12_fitsOf_65 : decode cX12_fitsOf 65 = .ok (.goto 4, 3) := by decide +kernel
theorem dX12_fitsOf_68 : decode cX12_fitsOf 68 = .ok (.iconst 0, 1) := by decide +kernel
theorem dX12_fitsOf_69 : decode cX12_fitsOf 69 = .ok (.istore 4, 2) := by decide +kernel
theorem dX12_fitsOf_71 : decode cX12_fitsOf 71 = .ok (.iinc 5 1, 3) := by decide +kernel
theorem dX12_fitsOf_74 : decode cX12_fitsOf 74 = .ok (.goto (-54), 3) := by decide +kernel
theorem dX12_fitsOf_77 : decode cX12_fitsOf 77 = .ok (.iload_n 2, 1) := by decide +kernel
theorem dX12_fitsOf_78 : decode cX12_fitsOf 78 = .ok (.iload 4, 2) := by decide +kernel
theorem dX12_fitsOf_80 : decode cX12_fitsOf 80 = .ok (.ifCond .eq 9, 3) := by decide +kernel
theorem dX12_fitsOf_83 : decode cX12_fitsOf 83 = .ok (.iconst 1, 1) := by decide +kernel
theorem dX12_fitsOf_84 : decode cX12_fitsOf 84 = .ok (.iload_n 3, 1) := by decide +kernel
theorem dX12_fitsOf_85 : decode cX12_fitsOf 85 = .ok (.ishl, 1) := by decide +kernel
theorem dX12_fitsOf_86 : decode cX12_fitsOf 86 = .ok (.goto 4, 3) := by decide +kernel
theorem dX12_fitsOf_89 : decode cX12_fitsOf 89 = .ok (.iconst 0, 1) := by decide +kernel
theorem dX12_fitsOf_90 : decode cX12_fitsOf 90 = .ok (.ior, 1) := by decide +kernel
theorem dX12_fitsOf_91 : decode cX12_fitsOf 91 = .ok (.istore_n 2, 1) := by decide +kernel
theorem dX12_fitsOf_92 : decode cX12_fitsOf 92 = .ok (.iinc 3 1, 3) := by decide +kernel
theorem dX12_fitsOf_95 : decode cX12_fitsOf 95 = .ok (.goto (-91), 3) := by decide +kernel
theorem dX12_fitsOf_98 : decode cX12_fitsOf 98 = .ok (.iload_n 2, 1) := by decide +kernel
theorem dX12_fitsOf_99 : decode cX12_fitsOf 99 = .ok (.ireturn, 1) := by decide +kernel
theorem dX12_fits_0 : decode cX12_fits 0 = .ok (.aload_n 0, 1) := by decide +kernel
theorem dX12_fits_1 : decode cX12_fits 1 = .ok (.iconst 0, 1) := by decide +kernel
theorem dX12_fits_2 : decode cX12_fits 2 = .ok (.putfield 89, 3) := by decide +kernel
theorem dX12_fits_5 : decode cX12_fits 5 = .ok (.aload_n 0, 1) := by decide +kernel
theorem dX12_fits_6 : decode cX12_fits 6 = .ok (.iconst 0, 1) := by decide +kernel
theorem dX12_fits_7 : decode cX12_fits 7 = .ok (.putfield 92, 3) := by decide +kernel
theorem dX12_fits_10 : decode cX12_fits 10 = .ok (.aload_n 0, 1) := by decide +kernel
theorem dX12_fits_11 : decode cX12_fits 11 = .ok (.iload_n 1, 1) := by decide +kernel
theorem dX12_fits_12 : decode cX12_fits 12 = .ok (.invokevirtual 408, 3) := by decide +kernel
theorem dX12_fits_15 : decode cX12_fits 15 = .ok (.ifCond .eq 11, 3) := by decide +kernel
theorem dX12_fits_18 : decode cX12_fits 18 = .ok (.aload_n 0, 1) := by decide +kernel
theorem dX12_fits_19 : decode cX12_fits 19 = .ok (.iload_n 1, 1) := by decide +kernel
theorem dX12_fits_20 : decode cX12_fits 20 = .ok (.invokevirtual 411, 3) := by decide +kernel
theorem dX12_fits_23 : decode cX12_fits 23 = .ok (.goto 8, 3) := by decide +kernel
theorem dX12_fits_26 : decode cX12_fits 26 = .ok (.aload_n 0, 1) := by decide +kernel
theorem dX12_fits_27 : decode cX12_fits 27 = .ok (.iconst 2, 1) := by decide +kernel
theorem dX12_fits_28 : decode cX12_fits 28 = .ok (.invokevirtual 321, 3) := by decide +kernel
theorem dX12_fits_31 : decode cX12_fits 31 = .ok (.ireturn, 1) := by decide +kernel
theorem dX12_places_0 : decode cX12_places 0 = .ok (.aload_n 0, 1) := by decide +kernel
theorem dX12_places_1 : decode cX12_places 1 = .ok (.iconst 0, 1) := by decide +kernel
theorem dX12_places_2 : decode cX12_places 2 = .ok (.putfield 89, 3) := by decide +kernel
theorem dX12_places_5 : decode cX12_places 5 = .ok (.aload_n 0, 1) := by decide +kernel
theorem dX12_places_6 : decode cX12_places 6 = .ok (.iconst 0, 1) := by decide +kernel
theorem dX12_places_7 : decode cX12_places 7 = .ok (.putfield 92, 3) := by decide +kernel
theorem dX12_places_10 : decode cX12_places 10 = .ok (.aload_n 0, 1) := by decide +kernel
theorem dX12_places_11 : decode cX12_places 11 = .ok (.iload_n 1, 1) := by decide +kernel
theorem dX12_places_12 : decode cX12_places 12 = .ok (.invokevirtual 330, 3) := by decide +kernel
theorem dX12_places_15 : decode cX12_places 15 = .ok (.ifCond .eq 20, 3) := by decide +kernel
theorem dX12_places_18 : decode cX12_places 18 = .ok (.aload_n 0, 1) := by decide +kernel
theorem dX12_places_19 : decode cX12_places 19 = .ok (.iload_n 2, 1) := by decide +kernel
theorem dX12_places_20 : decode cX12_places 20 = .ok (.invokevirtual 324, 3) := by decide +kernel
theorem dX12_places_23 : decode cX12_places 23 = .ok (.ifCond .eq 12, 3) := by decide +kernel
theorem dX12_places_26 : decode cX12_places 26 = .ok (.aload_n 0, 1) := by decide +kernel
theorem dX12_places_27 : decode cX12_places 27 = .ok (.iload_n 1, 1) := by decide +kernel
theorem dX12_places_28 : decode cX12_places 28 = .ok (.iload_n 2, 1) := by decide +kernel
theorem dX12_places_29 : decode cX12_places 29 = .ok (.invokevirtual 405, 3) := by decide +kernel
theorem dX12_places_32 : decode cX12_places 32 = .ok (.goto 8, 3) := by decide +kernel
theorem dX12_places_35 : decode cX12_places 35 = .ok (.aload_n 0, 1) := by decide +kernel
theorem dX12_places_36 : decode cX12_places 36 = .ok (.iconst 2, 1) := by decide +kernel
theorem dX12_places_37 : decode cX12_places 37 = .ok (.invokevirtual 321, 3) := by decide +kernel
theorem dX12_places_40 : decode cX12_places 40 = .ok (.ireturn, 1) := by decide +kernel
theorem dX12_speaks_0 : decode cX12_speaks 0 = .ok (.aload_n 0, 1) := by decide +kernel
theorem dX12_speaks_1 : decode cX12_speaks 1 = .ok (.iconst 0, 1) := by decide +kernel
theorem dX12_speaks_2 : decode cX12_speaks 2 = .ok (.putfield 89, 3) := by decide +kernel
theorem dX12_speaks_5 : decode cX12_speaks 5 = .ok (.aload_n 0, 1) := by decide +kernel
theorem dX12_speaks_6 : decode cX12_speaks 6 = .ok (.iconst 0, 1) := by decide +kernel
theorem dX12_speaks_7 : decode cX12_speaks 7 = .ok (.putfield 92, 3) := by decide +kernel
theorem dX12_speaks_10 : decode cX12_speaks 10 = .ok (.aload_n 0, 1) := by decide +kernel
theorem dX12_speaks_11 : decode cX12_speaks 11 = .ok (.iload_n 1, 1) := by decide +kernel
theorem dX12_speaks_12 : decode cX12_speaks 12 = .ok (.invokevirtual 324, 3) := by decide +kernel
theorem dX12_speaks_15 : decode cX12_speaks 15 = .ok (.ifCond .ne 9, 3) := by decide +kernel
theorem dX12_speaks_18 : decode cX12_speaks 18 = .ok (.aload_n 0, 1) := by decide +kernel
theorem dX12_speaks_19 : decode cX12_speaks 19 = .ok (.iconst 2, 1) := by decide +kernel
theorem dX12_speaks_20 : decode cX12_speaks 20 = .ok (.invokevirtual 321, 3) := by decide +kernel
theorem dX12_speaks_23 : decode cX12_speaks 23 = .ok (.ireturn, 1) := by decide +kernel
theorem dX12_speaks_24 : decode cX12_speaks 24 = .ok (.iconst 0, 1) := by decide +kernel
theorem dX12_speaks_25 : decode cX12_speaks 25 = .ok (.istore_n 2, 1) := by decide +kernel
theorem dX12_speaks_26 : decode cX12_speaks 26 = .ok (.iconst 0, 1) := by decide +kernel
theorem dX12_speaks_27 : decode cX12_speaks 27 = .ok (.istore_n 3, 1) := by decide +kernel
theorem dX12_speaks_28 : decode cX12_speaks 28 = .ok (.iload_n 3, 1) := by decide +kernel
theorem dX12_speaks_29 : decode cX12_speaks 29 = .ok (.aload_n 0, 1) := by decide +kernel
theorem dX12_speaks_30 : decode cX12_speaks 30 = .ok (.getfield 35, 3) := by decide +kernel
theorem dX12_speaks_33 : decode cX12_speaks 33 = .ok (.iconst 2, 1) := by decide +kernel
theorem dX12_speaks_34 : decode cX12_speaks 34 = .ok (.iaload, 1) := by decide +kernel
theorem dX12_speaks_35 : decode cX12_speaks 35 = .ok (.if_icmp .ge 28, 3) := by decide +kernel
theorem dX12_speaks_38 : decode cX12_speaks 38 = .ok (.iload_n 2, 1) := by decide +kernel
theorem dX12_speaks_39 : decode cX12_speaks 39 = .ok (.aload_n 0, 1) := by decide +kernel
theorem dX12_speaks_40 : decode cX12_speaks 40 = .ok (.iload_n 3, 1) := by decide +kernel
theorem dX12_speaks_41 : decode cX12_speaks 41 = .ok (.iload_n 1, 1) := by decide +kernel
theorem dX12_speaks_42 : decode cX12_speaks 42 = .ok (.invokevirtual 405, 3) := by decide +kernel
theorem dX12_speaks_45 : decode cX12_speaks 45 = .ok (.ifCond .le 9, 3) := by decide +kernel
theorem dX12_speaks_48 : decode cX12_speaks 48 = .ok (.iconst 1, 1) := by decide +kernel
theorem dX12_speaks_49 : decode cX12_speaks 49 = .ok (.iload_n 3, 1) := by decide +kernel
theorem dX12_speaks_50 : decode cX12_speaks 50 = .ok (.ishl, 1) := by decide +kernel
theorem dX12_speaks_51 : decode cX12_speaks 51 = .ok (.goto 4, 3) := by decide +kernel
theorem dX12_speaks_54 : decode cX12_speaks 54 = .ok (.iconst 0, 1) := by decide +kernel
theorem dX12_speaks_55 : decode cX12_speaks 55 = .ok (.ior, 1) := by decide +kernel
theorem dX12_speaks_56 : decode cX12_speaks 56 = .ok (.istore_n 2, 1) := by decide +kernel
theorem dX12_speaks_57 : decode cX12_speaks 57 = .ok (.iinc 3 1, 3) := by decide +kernel
theorem dX12_speaks_60 : decode cX12_speaks 60 = .ok (.goto (-32), 3) := by decide +kernel
theorem dX12_speaks_63 : decode cX12_speaks 63 = .ok (.iload_n 2, 1) := by decide +kernel
theorem dX12_speaks_64 : decode cX12_speaks 64 = .ok (.ireturn, 1) := by decide +kernel
theorem dX12_lapsOf_0 : decode cX12_lapsOf 0 = .ok (.aload_n 0, 1) := by decide +kernel
theorem dX12_lapsOf_1 : decode cX12_lapsOf 1 = .ok (.iload_n 1, 1) := by decide +kernel
theorem dX12_lapsOf_2 : decode cX12_lapsOf 2 = .ok (.invokevirtual 342, 3) := by decide +kernel
theorem dX12_lapsOf_5 : decode cX12_lapsOf 5 = .ok (.aload_n 0, 1) := by decide +kernel
theorem dX12_lapsOf_6 : decode cX12_lapsOf 6 = .ok (.iload_n 2, 1) := by decide +kernel
theorem dX12_lapsOf_7 : decode cX12_lapsOf 7 = .ok (.invokevirtual 342, 3) := by decide +kernel
theorem dX12_lapsOf_10 : decode cX12_lapsOf 10 = .ok (.invokestatic 283, 3) := by decide +kernel
theorem dX12_lapsOf_13 : decode cX12_lapsOf 13 = .ok (.iconst 1, 1) := by decide +kernel
theorem dX12_lapsOf_14 : decode cX12_lapsOf 14 = .ok (.isub, 1) := by decide +kernel
theorem dX12_lapsOf_15 : decode cX12_lapsOf 15 = .ok (.istore_n 3, 1) := by decide +kernel
theorem dX12_lapsOf_16 : decode cX12_lapsOf 16 = .ok (.iload_n 3, 1) := by decide +kernel
theorem dX12_lapsOf_17 : decode cX12_lapsOf 17 = .ok (.ifCond .le 71, 3) := by decide +kernel
theorem dX12_lapsOf_20 : decode cX12_lapsOf 20 = .ok (.iconst 1, 1) := by decide +kernel
theorem dX12_lapsOf_21 : decode cX12_lapsOf 21 = .ok (.istore 4, 2) := by decide +kernel
theorem dX12_lapsOf_23 : decode cX12_lapsOf 23 = .ok (.iconst 0, 1) := by decide +kernel
theorem dX12_lapsOf_24 : decode cX12_lapsOf 24 = .ok (.istore 5, 2) := by decide +kernel
theorem dX12_lapsOf_26 : decode cX12_lapsOf 26 = .ok (.iload 5, 2) := by decide +kernel
theorem dX12_lapsOf_28 : decode cX12_lapsOf 28 = .ok (.iload_n 3, 1) := by decide +kernel
theorem dX12_lapsOf_29 : decode cX12_lapsOf 29 = .ok (.if_icmp .ge 46, 3) := by decide +kernel
theorem dX12_lapsOf_32 : decode cX12_lapsOf 32 = .ok (.iload 4, 2) := by decide +kernel
theorem dX12_lapsOf_34 : decode cX12_lapsOf 34 = .ok (.ifCond .eq 41, 3) := by decide +kernel
theorem dX12_lapsOf_37 : decode cX12_lapsOf 37 = .ok (.aload_n 0, 1) := by decide +kernel
theorem dX12_lapsOf_38 : decode cX12_lapsOf 38 = .ok (.iload_n 1, 1) := by decide +kernel
theorem dX12_lapsOf_39 : decode cX12_lapsOf 39 = .ok (.aload_n 0, 1) := by decide +kernel
theorem dX12_lapsOf_40 : decode cX12_lapsOf 40 = .ok (.iload_n 1, 1) := by decide +kernel
theorem dX12_lapsOf_41 : decode cX12_lapsOf 41 = .ok (.invokevirtual 342, 3) := by decide +kernel
theorem dX12_lapsOf_44 : decode cX12_lapsOf 44 = .ok (.iload_n 3, 1) := by decide +kernel
theorem dX12_lapsOf_45 : decode cX12_lapsOf 45 = .ok (.isub, 1) := by decide +kernel
theorem dX12_lapsOf_46 : decode cX12_lapsOf 46 = .ok (.iload 5, 2) := by decide +kernel
theorem dX12_lapsOf_48 : decode cX12_lapsOf 48 = .ok (.iadd, 1) := by decide +kernel
theorem dX12_lapsOf_49 : decode cX12_lapsOf 49 = .ok (.invokevirtual 348, 3) := by decide +kernel
theorem dX12_lapsOf_52 : decode cX12_lapsOf 52 = .ok (.aload_n 0, 1) := by decide +kernel
theorem dX12_lapsOf_53 : decode cX12_lapsOf 53 = .ok (.iload_n 2, 1) := by decide +kernel
theorem dX12_lapsOf_54 : decode cX12_lapsOf 54 = .ok (.iload 5, 2) := by decide +kernel
theorem dX12_lapsOf_56 : decode cX12_lapsOf 56 = .ok (.invokevirtual 348, 3) := by decide +kernel
theorem dX12_lapsOf_59 : decode cX12_lapsOf 59 = .ok (.if_icmp .ne 7, 3) := by decide +kernel
theorem dX12_lapsOf_62 : decode cX12_lapsOf 62 = .ok (.iconst 1, 1) := by decide +kernel
theorem dX12_lapsOf_63 : decode cX12_lapsOf 63 = .ok (.goto 4, 3) := by decide +kernel
theorem dX12_lapsOf_66 : decode cX12_lapsOf 66 = .ok (.iconst 0, 1) := by decide +kernel
theorem dX12_lapsOf_67 : decode cX12_lapsOf 67 = .ok (.istore 4, 2) := by decide +kernel
theorem dX12_lapsOf_69 : decode cX12_lapsOf 69 = .ok (.iinc 5 1, 3) := by decide +kernel
theorem dX12_lapsOf_72 : decode cX12_lapsOf 72 = .ok (.goto (-46), 3) := by decide +kernel
theorem dX12_lapsOf_75 : decode cX12_lapsOf 75 = .ok (.iload 4, 2) := by decide +kernel
theorem dX12_lapsOf_77 : decode cX12_lapsOf 77 = .ok (.ifCond .eq 5, 3) := by decide +kernel
theorem dX12_lapsOf_80 : decode cX12_lapsOf 80 = .ok (.iload_n 3, 1) := by decide +kernel
theorem dX12_lapsOf_81 : decode cX12_lapsOf 81 = .ok (.ireturn, 1) := by decide +kernel
theorem dX12_lapsOf_82 : decode cX12_lapsOf 82 = .ok (.iinc 3 (-1), 3) := by decide +kernel
theorem dX12_lapsOf_85 : decode cX12_lapsOf 85 = .ok (.goto (-69), 3) := by decide +kernel
theorem dX12_lapsOf_88 : decode cX12_lapsOf 88 = .ok (.iconst 0, 1) := by decide +kernel
theorem dX12_lapsOf_89 : decode cX12_lapsOf 89 = .ok (.ireturn, 1) := by decide +kernel
theorem dX12_laps_0 : decode cX12_laps 0 = .ok (.aload_n 0, 1) := by decide +kernel
theorem dX12_laps_1 : decode cX12_laps 1 = .ok (.iconst 0, 1) := by decide +kernel
theorem dX12_laps_2 : decode cX12_laps 2 = .ok (.putfield 89, 3) := by decide +kernel
theorem dX12_laps_5 : decode cX12_laps 5 = .ok (.aload_n 0, 1) := by decide +kernel
theorem dX12_laps_6 : decode cX12_laps 6 = .ok (.iconst 0, 1) := by decide +kernel
theorem dX12_laps_7 : decode cX12_laps 7 = .ok (.putfield 92, 3) := by decide +kernel
theorem dX12_laps_10 : decode cX12_laps 10 = .ok (.aload_n 0, 1) := by decide +kernel
theorem dX12_laps_11 : decode cX12_laps 11 = .ok (.iload_n 1, 1) := by decide +kernel
theorem dX12_laps_12 : decode cX12_laps 12 = .ok (.invokevirtual 330, 3) := by decide +kernel
theorem dX12_laps_15 : decode cX12_laps 15 = .ok (.ifCond .eq 20, 3) := by decide +kernel
theorem dX12_laps_18 : decode cX12_laps 18 = .ok (.aload_n 0, 1) := by decide +kernel
theorem dX12_laps_19 : decode cX12_laps 19 = .ok (.iload_n 2, 1) := by decide +kernel
theorem dX12_laps_20 : decode cX12_laps 20 = .ok (.invokevirtual 330, 3) := by decide +kernel
theorem dX12_laps_23 : decode cX12_laps 23 = .ok (.ifCond .eq 12, 3) := by decide +kernel
theorem dX12_laps_26 : decode cX12_laps 26 = .ok (.aload_n 0, 1) := by decide +kernel
theorem dX12_laps_27 : decode cX12_laps 27 = .ok (.iload_n 1, 1) := by decide +kernel
theorem dX12_laps_28 : decode cX12_laps 28 = .ok (.iload_n 2, 1) := by decide +kernel
theorem dX12_laps_29 : decode cX12_laps 29 = .ok (.invokevirtual 414, 3) := by decide +kernel
theorem dX12_laps_32 : decode cX12_laps 32 = .ok (.goto 8, 3) := by decide +kernel
theorem dX12_laps_35 : decode cX12_laps 35 = .ok (.aload_n 0, 1) := by decide +kernel
theorem dX12_laps_36 : decode cX12_laps 36 = .ok (.iconst 2, 1) := by decide +kernel
theorem dX12_laps_37 : decode cX12_laps 37 = .ok (.invokevirtual 321, 3) := by decide +kernel
theorem dX12_laps_40 : decode cX12_laps 40 = .ok (.ireturn, 1) := by decide +kernel
theorem dX12_kinds_0 : decode cX12_kinds 0 = .ok (.aload_n 0, 1) := by decide +kernel
theorem dX12_kinds_1 : decode cX12_kinds 1 = .ok (.iconst 0, 1) := by decide +kernel
theorem dX12_kinds_2 : decode cX12_kinds 2 = .ok (.putfield 89, 3) := by decide +kernel
theorem dX12_kinds_5 : decode cX12_kinds 5 = .ok (.aload_n 0, 1) := by decide +kernel
theorem dX12_kinds_6 : decode cX12_kinds 6 = .ok (.iconst 0, 1) := by decide +kernel
theorem dX12_kinds_7 : decode cX12_kinds 7 = .ok (.putfield 92, 3) := by decide +kernel
theorem dX12_kinds_10 : decode cX12_kinds 10 = .ok (.aload_n 0, 1) := by decide +kernel
theorem dX12_kinds_11 : decode cX12_kinds 11 = .ok (.iload_n 1, 1) := by decide +kernel
theorem dX12_kinds_12 : decode cX12_kinds 12 = .ok (.invokevirtual 408, 3) := by decide +kernel
theorem dX12_kinds_15 : decode cX12_kinds 15 = .ok (.ifCond .ne 9, 3) := by decide +kernel
theorem dX12_kinds_18 : decode cX12_kinds 18 = .ok (.aload_n 0, 1) := by decide +kernel
theorem dX12_kinds_19 : decode cX12_kinds 19 = .ok (.iconst 2, 1) := by decide +kernel
theorem dX12_kinds_20 : decode cX12_kinds 20 = .ok (.invokevirtual 321, 3) := by decide +kernel
theorem dX12_kinds_23 : decode cX12_kinds 23 = .ok (.ireturn, 1) := by decide +kernel
theorem dX12_kinds_24 : decode cX12_kinds 24 = .ok (.iconst 0, 1) := by decide +kernel
theorem dX12_kinds_25 : decode cX12_kinds 25 = .ok (.istore_n 2, 1) := by decide +kernel
theorem dX12_kinds_26 : decode cX12_kinds 26 = .ok (.iconst 0, 1) := by decide +kernel
theorem dX12_kinds_27 : decode cX12_kinds 27 = .ok (.istore_n 3, 1) := by decide +kernel
theorem dX12_kinds_28 : decode cX12_kinds 28 = .ok (.iload_n 3, 1) := by decide +kernel
theorem dX12_kinds_29 : decode cX12_kinds 29 = .ok (.aload_n 0, 1) := by decide +kernel
theorem dX12_kinds_30 : decode cX12_kinds 30 = .ok (.getfield 35, 3) := by decide +kernel
theorem dX12_kinds_33 : decode cX12_kinds 33 = .ok (.iconst 2, 1) := by decide +kernel
theorem dX12_kinds_34 : decode cX12_kinds 34 = .ok (.iaload, 1) := by decide +kernel
theorem dX12_kinds_35 : decode cX12_kinds 35 = .ok (.if_icmp .ge 48, 3) := by decide +kernel
theorem dX12_kinds_38 : decode cX12_kinds 38 = .ok (.iconst 0, 1) := by decide +kernel
theorem dX12_kinds_39 : decode cX12_kinds 39 = .ok (.istore 4, 2) := by decide +kernel
theorem dX12_kinds_41 : decode cX12_kinds 41 = .ok (.iload 4, 2) := by decide +kernel
theorem dX12_kinds_43 : decode cX12_kinds 43 = .ok (.aload_n 0, 1) := by decide +kernel
theorem dX12_kinds_44 : decode cX12_kinds 44 = .ok (.iload_n 3, 1) := by decide +kernel
theorem dX12_kinds_45 : decode cX12_kinds 45 = .ok (.invokevirtual 342, 3) := by decide +kernel
theorem dX12_kinds_48 : decode cX12_kinds 48 = .ok (.if_icmp .ge 29, 3) := by decide +kernel
theorem dX12_kinds_51 : decode cX12_kinds 51 = .ok (.iload_n 1, 1) := by decide +kernel
theorem dX12_kinds_52 : decode cX12_kinds 52 = .ok (.iload_n 3, 1) := by decide +kernel
theorem dX12_kinds_53 : decode cX12_kinds 53 = .ok (.invokestatic 402, 3) := by decide +kernel
theorem dX12_kinds_56 : decode cX12_kinds 56 = .ok (.ifCond .eq 21, 3) := by decide +kernel
theorem dX12_kinds_59 : decode cX12_kinds 59 = .ok (.iload_n 2, 1) := by decide +kernel
theorem dX12_kinds_60 : decode cX12_kinds 60 = .ok (.iconst 1, 1) := by decide +kernel
theorem dX12_kinds_61 : decode cX12_kinds 61 = .ok (.aload_n 0, 1) := by decide +kernel
theorem dX12_kinds_62 : decode cX12_kinds 62 = .ok (.iload_n 3, 1) := by decide +kernel
theorem dX12_kinds_63 : decode cX12_kinds 63 = .ok (.iload 4, 2) := by decide +kernel
theorem dX12_kinds_65 : decode cX12_kinds 65 = .ok (.invokevirtual 348, 3) := by decide +kernel
theorem dX12_kinds_68 : decode cX12_kinds 68 = .ok (.ishl, 1) := by decide +kernel
theorem dX12_kinds_69 : decode cX12_kinds 69 = .ok (.ior, 1) := by decide +kernel
theorem dX12_kinds_70 : decode cX12_kinds 70 = .ok (.istore_n 2, 1) := by decide +kernel
theorem dX12_kinds_71 : decode cX12_kinds 71 = .ok (.iinc 4 1, 3) := by decide +kernel
theorem dX12_kinds_74 : decode cX12_kinds 74 = .ok (.goto (-33), 3) := by decide +kernel
theorem dX12_kinds_77 : decode cX12_kinds 77 = .ok (.iinc 3 1, 3) := by decide +kernel
theorem dX12_kinds_80 : decode cX12_kinds 80 = .ok (.goto (-52), 3) := by decide +kernel
theorem dX12_kinds_83 : decode cX12_kinds 83 = .ok (.iconst 0, 1) := by decide +kernel
theorem dX12_kinds_84 : decode cX12_kinds 84 = .ok (.istore_n 3, 1) := by decide +kernel
theorem dX12_kinds_85 : decode cX12_kinds 85 = .ok (.iconst 1, 1) := by decide +kernel
theorem dX12_kinds_86 : decode cX12_kinds 86 = .ok (.istore 4, 2) := by decide +kernel
theorem dX12_kinds_88 : decode cX12_kinds 88 = .ok (.iload 4, 2) := by decide +kernel
theorem dX12_kinds_90 : decode cX12_kinds 90 = .ok (.bipush 26, 2) := by decide +kernel
theorem dX12_kinds_92 : decode cX12_kinds 92 = .ok (.if_icmp .gt 18, 3) := by decide +kernel
theorem dX12_kinds_95 : decode cX12_kinds 95 = .ok (.iload_n 3, 1) := by decide +kernel
theorem dX12_kinds_96 : decode cX12_kinds 96 = .ok (.iload_n 2, 1) := by decide +kernel
theorem dX12_kinds_97 : decode cX12_kinds 97 = .ok (.iload 4, 2) := by decide +kernel
theorem dX12_kinds_99 : decode cX12_kinds 99 = .ok (.ishr, 1) := by decide +kernel
theorem dX12_kinds_100 : decode cX12_kinds 100 = .ok (.iconst 1, 1) := by decide +kernel
theorem dX12_kinds_101 : decode cX12_kinds 101 = .ok (.iand, 1) := by decide +kernel
theorem dX12_kinds_102 : decode cX12_kinds 102 = .ok (.iadd, 1) := by decide +kernel
theorem dX12_kinds_103 : decode cX12_kinds 103 = .ok (.istore_n 3, 1) := by decide +kernel
theorem dX12_kinds_104 : decode cX12_kinds 104 = .ok (.iinc 4 1, 3) := by decide +kernel
theorem dX12_kinds_107 : decode cX12_kinds 107 = .ok (.goto (-19), 3) := by decide +kernel
theorem dX12_kinds_110 : decode cX12_kinds 110 = .ok (.iload_n 3, 1) := by decide +kernel
theorem dX12_kinds_111 : decode cX12_kinds 111 = .ok (.ireturn, 1) := by decide +kernel
theorem dX12_far_0 : decode cX12_far 0 = .ok (.aload_n 0, 1) := by decide +kernel
theorem dX12_far_1 : decode cX12_far 1 = .ok (.iconst 0, 1) := by decide +kernel
theorem dX12_far_2 : decode cX12_far 2 = .ok (.putfield 89, 3) := by decide +kernel
theorem dX12_far_5 : decode cX12_far 5 = .ok (.aload_n 0, 1) := by decide +kernel
theorem dX12_far_6 : decode cX12_far 6 = .ok (.iconst 0, 1) := by decide +kernel
theorem dX12_far_7 : decode cX12_far 7 = .ok (.putfield 92, 3) := by decide +kernel
theorem dX12_far_10 : decode cX12_far 10 = .ok (.aload_n 0, 1) := by decide +kernel
theorem dX12_far_11 : decode cX12_far 11 = .ok (.iload_n 1, 1) := by decide +kernel
theorem dX12_far_12 : decode cX12_far 12 = .ok (.invokevirtual 330, 3) := by decide +kernel
theorem dX12_far_15 : decode cX12_far 15 = .ok (.ifCond .eq 11, 3) := by decide +kernel
theorem dX12_far_18 : decode cX12_far 18 = .ok (.aload_n 0, 1) := by decide +kernel
theorem dX12_far_19 : decode cX12_far 19 = .ok (.iload_n 2, 1) := by decide +kernel
theorem dX12_far_20 : decode cX12_far 20 = .ok (.invokevirtual 324, 3) := by decide +kernel
theorem dX12_far_23 : decode cX12_far 23 = .ok (.ifCond .ne 9, 3) := by decide +kernel
theorem dX12_far_26 : decode cX12_far 26 = .ok (.aload_n 0, 1) := by decide +kernel
theorem dX12_far_27 : decode cX12_far 27 = .ok (.iconst 2, 1) := by decide +kernel
theorem dX12_far_28 : decode cX12_far 28 = .ok (.invokevirtual 321, 3) := by decide +kernel
theorem dX12_far_31 : decode cX12_far 31 = .ok (.ireturn, 1) := by decide +kernel
theorem dX12_far_32 : decode cX12_far 32 = .ok (.aload_n 0, 1) := by decide +kernel
theorem dX12_far_33 : decode cX12_far 33 = .ok (.iload_n 1, 1) := by decide +kernel
theorem dX12_far_34 : decode cX12_far 34 = .ok (.invokevirtual 342, 3) := by decide +kernel
theorem dX12_far_37 : decode cX12_far 37 = .ok (.istore_n 3, 1) := by decide +kernel
theorem dX12_far_38 : decode cX12_far 38 = .ok (.aload_n 0, 1) := by decide +kernel
theorem dX12_far_39 : decode cX12_far 39 = .ok (.getfield 35, 3) := by decide +kernel
theorem dX12_far_42 : decode cX12_far 42 = .ok (.iconst 4, 1) := by decide +kernel
theorem dX12_far_43 : decode cX12_far 43 = .ok (.iload_n 2, 1) := by decide +kernel
theorem dX12_far_44 : decode cX12_far 44 = .ok (.iadd, 1) := by decide +kernel
theorem dX12_far_45 : decode cX12_far 45 = .ok (.iaload, 1) := by decide +kernel
theorem dX12_far_46 : decode cX12_far 46 = .ok (.istore 4, 2) := by decide +kernel
theorem dX12_far_48 : decode cX12_far 48 = .ok (.iconst 0, 1) := by decide +kernel
theorem dX12_far_49 : decode cX12_far 49 = .ok (.istore 5, 2) := by decide +kernel
theorem dX12_far_51 : decode cX12_far 51 = .ok (.iload 5, 2) := by decide +kernel
theorem dX12_far_53 : decode cX12_far 53 = .ok (.iload_n 3, 1) := by decide +kernel
theorem dX12_far_54 : decode cX12_far 54 = .ok (.if_icmp .gt 184, 3) := by decide +kernel
theorem dX12_far_57 : decode cX12_far 57 = .ok (.iconst 0, 1) := by decide +kernel
theorem dX12_far_58 : decode cX12_far 58 = .ok (.istore 6, 2) := by decide +kernel
theorem dX12_far_60 : decode cX12_far 60 = .ok (.iload 6, 2) := by decide +kernel
theorem dX12_far_62 : decode cX12_far 62 = .ok (.iload 4, 2) := by decide +kernel
theorem dX12_far_64 : decode cX12_far 64 = .ok (.if_icmp .gt 168, 3) := by decide +kernel
theorem dX12_far_67 : decode cX12_far 67 = .ok (.iload 5, 2) := by decide +kernel
theorem dX12_far_69 : decode cX12_far 69 = .ok (.ifCond .ne 8, 3) := by decide +kernel
theorem dX12_far_72 : decode cX12_far 72 = .ok (.iload 6, 2) := by decide +kernel
theorem dX12_far_74 : decode cX12_far 74 = .ok (.goto 16, 3) := by decide +kernel
theorem dX12_far_77 : decode cX12_far 77 = .ok (.iload 6, 2) := by decide +kernel
theorem dX12_far_79 : decode cX12_far 79 = .ok (.ifCond .ne 8, 3) := by decide +kernel
theorem dX12_far_82 : decode cX12_far 82 = .ok (.iload 5, 2) := by decide +kernel
theorem dX12_far_84 : decode cX12_far 84 = .ok (.goto 6, 3) := by decide +kernel
theorem dX12_far_87 : decode cX12_far 87 = .ok (.ldc_w 417, 3) := by decide +kernel
theorem dX12_far_90 : decode cX12_far 90 = .ok (.istore 7, 2) := by decide +kernel
theorem dX12_far_92 : decode cX12_far 92 = .ok (.iload 5, 2) := by decide +kernel
theorem dX12_far_94 : decode cX12_far 94 = .ok (.ifCond .le 27, 3) := by decide +kernel
theorem dX12_far_97 : decode cX12_far 97 = .ok (.iload 7, 2) := by decide +kernel
theorem dX12_far_99 : decode cX12_far 99 = .ok (.aload_n 0, 1) := by decide +kernel
theorem dX12_far_100 : decode cX12_far 100 = .ok (.getfield 50, 3) := by decide +kernel
theorem dX12_far_103 : decode cX12_far 103 = .ok (.bipush 17, 2) := by decide +kernel
theorem dX12_far_105 : decode cX12_far 105 = .ok (.iload 5, 2) := by decide +kernel
theorem dX12_far_107 : decode cX12_far 107 = .ok (.iconst 1, 1) := by decide +kernel
theorem dX12_far_108 : decode cX12_far 108 = .ok (.isub, 1) := by decide +kernel
theorem dX12_far_109 : decode cX12_far 109 = .ok (.imul, 1) := by decide +kernel
theorem dX12_far_110 : decode cX12_far 110 = .ok (.iload 6, 2) := by decide +kernel
theorem dX12_far_112 : decode cX12_far 112 = .ok (.iadd, 1) := by decide +kernel
theorem dX12_far_113 : decode cX12_far 113 = .ok (.iaload, 1) := by decide +kernel
theorem dX12_far_114 : decode cX12_far 114 = .ok (.iconst 1, 1) := by decide +kernel
theorem dX12_far_115 : decode cX12_far 115 = .ok (.iadd, 1) := by decide +kernel
theorem dX12_far_116 : decode cX12_far 116 = .ok (.invokestatic 283, 3) := by decide +kernel
theorem dX12_far_119 : decode cX12_far 119 = .ok (.istore 7, 2) := by decide +kernel
theorem dX12_far_121 : decode cX12_far 121 = .ok (.iload 6, 2) := by decide +kernel
theorem dX12_far_123 : decode cX12_far 123 = .ok (.ifCond .le 27, 3) := by decide +kernel
theorem dX12_far_126 : decode cX12_far 126 = .ok (.iload 7, 2) := by decide +kernel
theorem dX12_far_128 : decode cX12_far 128 = .ok (.aload_n 0, 1) := by decide +kernel
theorem dX12_far_129 : decode cX12_far 129 = .ok (.getfield 50, 3) := by decide +kernel
theorem dX12_far_132 : decode cX12_far 132 = .ok (.bipush 17, 2) := by decide +kernel
theorem dX12_far_134 : decode cX12_far 134 = .ok (.iload 5, 2) := by decide +kernel
theorem dX12_far_136 : decode cX12_far 136 = .ok (.imul, 1) := by decide +kernel
theorem dX12_far_137 : decode cX12_far 137 = .ok (.iload 6, 2) := by decide +kernel
theorem dX12_far_139 : decode cX12_far 139 = .ok (.iadd, 1) := by decide +kernel
theorem dX12_far_140 : decode cX12_far 140 = .ok (.iconst 1, 1) := by decide +kernel
theorem dX12_far_141 : decode cX12_far 141 = .ok (.isub, 1) := by decide +kernel
theorem dX12_far_142 : decode cX12_far 142 = .ok (.iaload, 1) := by decide +kernel
theorem dX12_far_143 : decode cX12_far 143 = .ok (.iconst 1, 1) := by decide +kernel
theorem dX12_far_144 : decode cX12_far 144 = .ok (.iadd, 1) := by decide +kernel
theorem dX12_far_145 : decode cX12_far 145 = .ok (.invokestatic 283, 3) := by decide +kernel
theorem dX12_far_148 : decode cX12_far 148 = .ok (.istore 7, 2) := by decide +kernel
theorem dX12_far_150 : decode cX12_far 150 = .ok (.iload 5, 2) := by decide +kernel
theorem dX12_far_152 : decode cX12_far 152 = .ok (.ifCond .le 59, 3) := by decide +kernel
theorem dX12_far_155 : decode cX12_far 155 = .ok (.iload 6, 2) := by decide +kernel
theorem dX12_far_157 : decode cX12_far 157 = .ok (.ifCond .le 54, 3) := by decide +kernel
theorem dX12_far_160 : decode cX12_far 160 = .ok (.iload 7, 2) := by decide +kernel
theorem dX12_far_162 : decode cX12_far 162 = .ok (.aload_n 0, 1) := by decide +kernel
theorem dX12_far_163 : decode cX12_far 163 = .ok (.getfield 50, 3) := by decide +kernel
theorem dX12_far_166 : decode cX12_far 166 = .ok (.bipush 17, 2) := by decide +kernel
theorem dX12_far_168 : decode cX12_far 168 = .ok (.iload 5, 2) := by decide +kernel
theorem dX12_far_170 : decode cX12_far 170 = .ok (.iconst 1, 1) := by decide +kernel
theorem dX12_far_171 : decode cX12_far 171 = .ok (.isub, 1) := by decide +kernel
theorem dX12_far_172 : decode cX12_far 172 = .ok (.imul, 1) := by decide +kernel
theorem dX12_far_173 : decode cX12_far 173 = .ok (.iload 6, 2) := by decide +kernel
theorem dX12_far_175 : decode cX12_far 175 = .ok (.iadd, 1) := by decide +kernel
theorem dX12_far_176 : decode cX12_far 176 = .ok (.iconst 1, 1) := by decide +kernel
theorem dX12_far_177 : decode cX12_far 177 = .ok (.isub, 1) := by decide +kernel
theorem dX12_far_178 : decode cX12_far 178 = .ok (.iaload, 1) := by decide +kernel
theorem dX12_far_179 : decode cX12_far 179 = .ok (.aload_n 0, 1) := by decide +kernel
theorem dX12_far_180 : decode cX12_far 180 = .ok (.iload_n 1, 1) := by decide +kernel
theorem dX12_far_181 : decode cX12_far 181 = .ok (.iload 5, 2) := by decide +kernel
theorem dX12_far_183 : decode cX12_far 183 = .ok (.iconst 1, 1) := by decide +kernel
theorem dX12_far_184 : decode cX12_far 184 = .ok (.isub, 1) := by decide +kernel
theorem dX12_far_185 : decode cX12_far 185 = .ok (.invokevirtual 348, 3) := by decide +kernel
theorem dX12_far_188 : decode cX12_far 188 = .ok (.aload_n 0, 1) := by decide +kernel
theorem dX12_far_189 : decode cX12_far 189 = .ok (.iload_n 2, 1) := by decide +kernel
theorem dX12_far_190 : decode cX12_far 190 = .ok (.iload 6, 2) := by decide +kernel
theorem dX12_far_192 : decode cX12_far 192 = .ok (.iconst 1, 1) := by decide +kernel
theorem dX12_far_193 : decode cX12_far 193 = .ok (.isub, 1) := by decide +kernel
theorem dX12_far_194 : decode cX12_far 194 = .ok (.invokevirtual 327, 3) := by decide +kernel
theorem dX12_far_197 : decode cX12_far 197 = .ok (.if_icmp .ne 7, 3) := by decide +kernel
theorem dX12_far_200 : decode cX12_far 200 = .ok (.iconst 0, 1) := by decide +kernel
theorem dX12_far_201 : decode cX12_far 201 = .ok (.goto 4, 3) := by decide +kernel
theorem dX12_far_204 : decode cX12_far 204 = .ok (.iconst 1, 1) := by decide +kernel
theorem dX12_far_205 : decode cX12_far 205 = .ok (.iadd, 1) := by decide +kernel
theorem dX12_far_206 : decode cX12_far 206 = .ok (.invokestatic 283, 3) := by decide +kernel
theorem dX12_far_209 : decode cX12_far 209 = .ok (.istore 7, 2) := by decide +kernel
theorem dX12_far_211 : decode cX12_far 211 = .ok (.aload_n 0, 1) := by decide +kernel
theorem dX12_far_212 : decode cX12_far 212 = .ok (.getfield 50, 3) := by decide +kernel
theorem dX12_far_215 : decode cX12_far 215 = .ok (.bipush 17, 2) := by decide +kernel
theorem dX12_far_217 : decode cX12_far 217 = .ok (.iload 5, 2) := by decide +kernel
theorem dX12_far_219 : decode cX12_far 219 = .ok (.imul, 1) := by decide +kernel
theorem dX12_far_220 : decode cX12_far 220 = .ok (.iload 6, 2) := by decide +kernel
theorem dX12_far_222 : decode cX12_far 222 = .ok (.iadd, 1) := by decide +kernel
theorem dX12_far_223 : decode cX12_far 223 = .ok (.iload 7, 2) := by decide +kernel
theorem dX12_far_225 : decode cX12_far 225 = .ok (.iastore, 1) := by decide +kernel
theorem dX12_far_226 : decode cX12_far 226 = .ok (.iinc 6 1, 3) := by decide +kernel
theorem dX12_far_229 : decode cX12_far 229 = .ok (.goto (-169), 3) := by decide +kernel
theorem dX12_far_232 : decode cX12_far 232 = .ok (.iinc 5 1, 3) := by decide +kernel
theorem dX12_far_235 : decode cX12_far 235 = .ok (.goto (-184), 3) := by decide +kernel
theorem dX12_far_238 : decode cX12_far 238 = .ok (.aload_n 0, 1) := by decide +kernel
theorem dX12_far_239 : decode cX12_far 239 = .ok (.getfield 50, 3) := by decide +kernel
theorem dX12_far_242 : decode cX12_far 242 = .ok (.bipush 17, 2) := by decide +kernel
theorem dX12_far_244 : decode cX12_far 244 = .ok (.iload_n 3, 1) := by decide +kernel
theorem dX12_far_245 : decode cX12_far 245 = .ok (.imul, 1) := by decide +kernel
theorem dX12_far_246 : decode cX12_far 246 = .ok (.iload 4, 2) := by decide +kernel
theorem dX12_far_248 : decode cX12_far 248 = .ok (.iadd, 1) := by decide +kernel
theorem dX12_far_249 : decode cX12_far 249 = .ok (.iaload, 1) := by decide +kernel
theorem dX12_far_250 : decode cX12_far 250 = .ok (.ireturn, 1) := by decide +kernel
theorem dX12_common_0 : decode cX12_common 0 = .ok (.aload_n 0, 1) := by decide +kernel
theorem dX12_common_1 : decode cX12_common 1 = .ok (.iconst 0, 1) := by decide +kernel
theorem dX12_common_2 : decode cX12_common 2 = .ok (.putfield 89, 3) := by decide +kernel
theorem dX12_common_5 : decode cX12_common 5 = .ok (.aload_n 0, 1) := by decide +kernel
theorem dX12_common_6 : decode cX12_common 6 = .ok (.iconst 0, 1) := by decide +kernel
theorem dX12_common_7 : decode cX12_common 7 = .ok (.putfield 92, 3) := by decide +kernel
theorem dX12_common_10 : decode cX12_common 10 = .ok (.aload_n 0, 1) := by decide +kernel
theorem dX12_common_11 : decode cX12_common 11 = .ok (.iload_n 1, 1) := by decide +kernel
theorem dX12_common_12 : decode cX12_common 12 = .ok (.invokevirtual 330, 3) := by decide +kernel
theorem dX12_common_15 : decode cX12_common 15 = .ok (.ifCond .eq 11, 3) := by decide +kernel
theorem dX12_common_18 : decode cX12_common 18 = .ok (.aload_n 0, 1) := by decide +kernel
theorem dX12_common_19 : decode cX12_common 19 = .ok (.iload_n 2, 1) := by decide +kernel
theorem dX12_common_20 : decode cX12_common 20 = .ok (.invokevirtual 330, 3) := by decide +kernel
theorem dX12_common_23 : decode cX12_common 23 = .ok (.ifCond .ne 9, 3) := by decide +kernel
theorem dX12_common_26 : decode cX12_common 26 = .ok (.aload_n 0, 1) := by decide +kernel
theorem dX12_common_27 : decode cX12_common 27 = .ok (.iconst 2, 1) := by decide +kernel
theorem dX12_common_28 : decode cX12_common 28 = .ok (.invokevirtual 321, 3) := by decide +kernel
theorem dX12_common_31 : decode cX12_common 31 = .ok (.ireturn, 1) := by decide +kernel
theorem dX12_common_32 : decode cX12_common 32 = .ok (.iconst 0, 1) := by decide +kernel
theorem dX12_common_33 : decode cX12_common 33 = .ok (.istore_n 3, 1) := by decide +kernel
theorem dX12_common_34 : decode cX12_common 34 = .ok (.iconst 0, 1) := by decide +kernel
theorem dX12_common_35 : decode cX12_common 35 = .ok (.istore 4, 2) := by decide +kernel
theorem dX12_common_37 : decode cX12_common 37 = .ok (.iload 4, 2) := by decide +kernel
theorem dX12_common_39 : decode cX12_common 39 = .ok (.aload_n 0, 1) := by decide +kernel
theorem dX12_common_40 : decode cX12_common 40 = .ok (.iload_n 1, 1) := by decide +kernel
theorem dX12_common_41 : decode cX12_common 41 = .ok (.invokevirtual 342, 3) := by decide +kernel
theorem dX12_common_44 : decode cX12_common 44 = .ok (.if_icmp .ge 93, 3) := by decide +kernel
theorem dX12_common_47 : decode cX12_common 47 = .ok (.iconst 0, 1) := by decide +kernel
theorem dX12_common_48 : decode cX12_common 48 = .ok (.istore 5, 2) := by decide +kernel
theorem dX12_common_50 : decode cX12_common 50 = .ok (.iload 5, 2) := by decide +kernel
theorem dX12_common_52 : decode cX12_common 52 = .ok (.aload_n 0, 1) := by decide +kernel
theorem dX12_common_53 : decode cX12_common 53 = .ok (.iload_n 2, 1) := by decide +kernel
theorem dX12_common_54 : decode cX12_common 54 = .ok (.invokevirtual 342, 3) := by decide +kernel
theorem dX12_common_57 : decode cX12_common 57 = .ok (.if_icmp .ge 74, 3) := by decide +kernel
theorem dX12_common_60 : decode cX12_common 60 = .ok (.iconst 0, 1) := by decide +kernel
theorem dX12_common_61 : decode cX12_common 61 = .ok (.istore 6, 2) := by decide +kernel
theorem dX12_common_63 : decode cX12_common 63 = .ok (.iload 4, 2) := by decide +kernel
theorem dX12_common_65 : decode cX12_common 65 = .ok (.iload 6, 2) := by decide +kernel
theorem dX12_common_67 : decode cX12_common 67 = .ok (.iadd, 1) := by decide +kernel
theorem dX12_common_68 : decode cX12_common 68 = .ok (.aload_n 0, 1) := by decide +kernel
theorem dX12_common_69 : decode cX12_common 69 = .ok (.iload_n 1, 1) := by decide +kernel
theorem dX12_common_70 : decode cX12_common 70 = .ok (.invokevirtual 342, 3) := by decide +kernel
theorem dX12_common_73 : decode cX12_common 73 = .ok (.if_icmp .ge 45, 3) := by decide +kernel
theorem dX12_common_76 : decode cX12_common 76 = .ok (.iload 5, 2) := by decide +kernel
theorem dX12_common_78 : decode cX12_common 78 = .ok (.iload 6, 2) := by decide +kernel
theorem dX12_common_80 : decode cX12_common 80 = .ok (.iadd, 1) := by decide +kernel
theorem dX12_common_81 : decode cX12_common 81 = .ok (.aload_n 0, 1) := by decide +kernel
theorem dX12_common_82 : decode cX12_common 82 = .ok (.iload_n 2, 1) := by decide +kernel
theorem dX12_common_83 : decode cX12_common 83 = .ok (.invokevirtual 342, 3) := by decide +kernel
theorem dX12_common_86 : decode cX12_common 86 = .ok (.if_icmp .ge 32, 3) := by decide +kernel
theorem dX12_common_89 : decode cX12_common 89 = .ok (.aload_n 0, 1) := by decide +kernel
theorem dX12_common_90 : decode cX12_common 90 = .ok (.iload_n 1, 1) := by decide +kernel
theorem dX12_common_91 : decode cX12_common 91 = .ok (.iload 4, 2) := by decide +kernel
theorem dX12_common_93 : decode cX12_common 93 = .ok (.iload 6, 2) := by decide +kernel
theorem dX12_common_95 : decode cX12_common 95 = .ok (.iadd, 1) := by decide +kernel
theorem dX12_common_96 : decode cX12_common 96 = .ok (.invokevirtual 348, 3) := by decide +kernel
theorem dX12_common_99 : decode cX12_common 99 = .ok (.aload_n 0, 1) := by decide +kernel
theorem dX12_common_100 : decode cX12_common 100 = .ok (.iload_n 2, 1) := by decide +kernel
theorem dX12_common_101 : decode cX12_common 101 = .ok (.iload 5, 2) := by decide +kernel
theorem dX12_common_103 : decode cX12_common 103 = .ok (.iload 6, 2) := by decide +kernel
theorem dX12_common_105 : decode cX12_common 105 = .ok (.iadd, 1) := by decide +kernel
theorem dX12_common_106 : decode cX12_common 106 = .ok (.invokevirtual 348, 3) := by decide +kernel
theorem dX12_common_109 : decode cX12_common 109 = .ok (.if_icmp .ne 9, 3) := by decide +kernel
theorem dX12_common_112 : decode cX12_common 112 = .ok (.iinc 6 1, 3) := by decide +kernel
theorem dX12_common_115 : decode cX12_common 115 = .ok (.goto (-52), 3) := by decide +kernel
theorem dX12_common_118 : decode cX12_common 118 = .ok (.iload_n 3, 1) := by decide +kernel
theorem dX12_common_119 : decode cX12_common 119 = .ok (.iload 6, 2) := by decide +kernel
theorem dX12_common_121 : decode cX12_common 121 = .ok (.invokestatic 368, 3) := by decide +kernel
theorem dX12_common_124 : decode cX12_common 124 = .ok (.istore_n 3, 1) := by decide +kernel
theorem dX12_common_125 : decode cX12_common 125 = .ok (.iinc 5 1, 3) := by decide +kernel
theorem dX12_common_128 : decode cX12_common 128 = .ok (.goto (-78), 3) := by decide +kernel
theorem dX12_common_131 : decode cX12_common 131 = .ok (.iinc 4 1, 3) := by decide +kernel
theorem dX12_common_134 : decode cX12_common 134 = .ok (.goto (-97), 3) := by decide +kernel
theorem dX12_common_137 : decode cX12_common 137 = .ok (.iload_n 3, 1) := by decide +kernel
theorem dX12_common_138 : decode cX12_common 138 = .ok (.ireturn, 1) := by decide +kernel
theorem dX12_chainFrom_0 : decode cX12_chainFrom 0 = .ok (.iload_n 1, 1) := by decide +kernel
theorem dX12_chainFrom_1 : decode cX12_chainFrom 1 = .ok (.aload_n 0, 1) := by decide +kernel
theorem dX12_chainFrom_2 : decode cX12_chainFrom 2 = .ok (.getfield 418, 3) := by decide +kernel
theorem dX12_chainFrom_5 : decode cX12_chainFrom 5 = .ok (.if_icmp .le 37, 3) := by decide +kernel
theorem dX12_chainFrom_8 : decode cX12_chainFrom 8 = .ok (.aload_n 0, 1) := by decide +kernel
theorem dX12_chainFrom_9 : decode cX12_chainFrom 9 = .ok (.iload_n 1, 1) := by decide +kernel
theorem dX12_chainFrom_10 : decode cX12_chainFrom 10 = .ok (.putfield 418, 3) := by decide +kernel
theorem dX12_chainFrom_13 : decode cX12_chainFrom 13 = .ok (.iconst 0, 1) := by decide +kernel
theorem dX12_chainFrom_14 : decode cX12_chainFrom 14 = .ok (.istore 4, 2) := by decide +kernel
theorem dX12_chainFrom_16 : decode cX12_chainFrom 16 = .ok (.iload 4, 2) := by decide +kernel
theorem dX12_chainFrom_18 : decode cX12_chainFrom 18 = .ok (.iload_n 1, 1) := by decide +kernel
theorem dX12_chainFrom_19 : decode cX12_chainFrom 19 = .ok (.if_icmp .ge 23, 3) := by decide +kernel
theorem dX12_chainFrom_22 : decode cX12_chainFrom 22 = .ok (.aload_n 0, 1) := by decide +kernel
theorem dX12_chainFrom_23 : decode cX12_chainFrom 23 = .ok (.getfield 56, 3) := by decide +kernel
theorem dX12_chainFrom_26 : decode cX12_chainFrom 26 = .ok (.iload 4, 2) := by decide +kernel
theorem dX12_chainFrom_28 : decode cX12_chainFrom 28 = .ok (.aload_n 0, 1) := by decide +kernel
theorem dX12_chainFrom_29 : decode cX12_chainFrom 29 = .ok (.getfield 53, 3) := by decide +kernel
theorem dX12_chainFrom_32 : decode cX12_chainFrom 32 = .ok (.iload 4, 2) := by decide +kernel
theorem dX12_chainFrom_34 : decode cX12_chainFrom 34 = .ok (.iaload, 1) := by decide +kernel
theorem dX12_chainFrom_35 : decode cX12_chainFrom 35 = .ok (.iastore, 1) := by decide +kernel
theorem dX12_chainFrom_36 : decode cX12_chainFrom 36 = .ok (.iinc 4 1, 3) := by decide +kernel
theorem dX12_chainFrom_39 : decode cX12_chainFrom 39 = .ok (.goto (-23), 3) := by decide +kernel
theorem dX12_chainFrom_42 : decode cX12_chainFrom 42 = .ok (.iconst 0, 1) := by decide +kernel
theorem dX12_chainFrom_43 : decode cX12_chainFrom 43 = .ok (.istore 4, 2) := by decide +kernel
theorem dX12_chainFrom_45 : decode cX12_chainFrom 45 = .ok (.iload 4, 2) := by decide +kernel
theorem dX12_chainFrom_47 : decode cX12_chainFrom 47 = .ok (.aload_n 0, 1) := by decide +kernel
theorem dX12_chainFrom_48 : decode cX12_chainFrom 48 = .ok (.getfield 35, 3) := by decide +kernel
theorem dX12_chainFrom_51 : decode cX12_chainFrom 51 = .ok (.iconst 2, 1) := by decide +kernel
theorem dX12_chainFrom_52 : decode cX12_chainFrom 52 = .ok (.iaload, 1) := by decide +kernel
theorem dX12_chainFrom_53 : decode cX12_chainFrom 53 = .ok (.if_icmp .ge 65, 3) := by decide +kernel
theorem dX12_chainFrom_56 : decode cX12_chainFrom 56 = .ok (.iload_n 2, 1) := by decide +kernel
theorem dX12_chainFrom_57 : decode cX12_chainFrom 57 = .ok (.iload 4, 2) := by decide +kernel
theorem dX12_chainFrom_59 : decode cX12_chainFrom 59 = .ok (.invokestatic 402, 3) := by decide +kernel
theorem dX12_chainFrom_62 : decode cX12_chainFrom 62 = .ok (.ifCond .ne 50, 3) := by decide +kernel
theorem dX12_chainFrom_65 : decode cX12_chainFrom 65 = .ok (.iload_n 1, 1) := by decide +kernel
theorem dX12_chainFrom_66 : decode cX12_chainFrom 66 = .ok (.ifCond .le 24, 3) := by decide +kernel
theorem dX12_chainFrom_69 : decode cX12_chainFrom 69 = .ok (.aload_n 0, 1) := by decide +kernel
theorem dX12_chainFrom_70 : decode cX12_chainFrom 70 = .ok (.aload_n 0, 1) := by decide +kernel
theorem dX12_chainFrom_71 : decode cX12_chainFrom 71 = .ok (.getfield 53, 3) := by decide +kernel
theorem dX12_chainFrom_74 : decode cX12_chainFrom 74 = .ok (.iload_n 1, 1) := by decide +kernel
theorem dX12_chainFrom_75 : decode cX12_chainFrom 75 = .ok (.iconst 1, 1) := by decide +kernel
theorem dX12_chainFrom_76 : decode cX12_chainFrom 76 = .ok (.isub, 1) := by decide +kernel
theorem dX12_chainFrom_77 : decode cX12_chainFrom 77 = .ok (.iaload, 1) := by decide +kernel
theorem dX12_chainFrom_78 : decode cX12_chainFrom 78 = .ok (.iload 4, 2) := by decide +kernel
theorem dX12_chainFrom_80 : decode cX12_chainFrom 80 = .ok (.invokevirtual 414, 3) := by decide +kernel
theorem dX12_chainFrom_83 : decode cX12_chainFrom 83 = .ok (.iload_n 3, 1) := by decide +kernel
theorem dX12_chainFrom_84 : decode cX12_chainFrom 84 = .ok (.if_icmp .ge 6, 3) := by decide +kernel
theorem dX12_chainFrom_87 : decode cX12_chainFrom 87 = .ok (.goto 25, 3) := by decide +kernel
theorem dX12_chainFrom_90 : decode cX12_chainFrom 90 = .ok (.aload_n 0, 1) := by decide +kernel
theorem dX12_chainFrom_91 : decode cX12_chainFrom 91 = .ok (.getfield 53, 3) := by decide +kernel
theorem dX12_chainFrom_94 : decode cX12_chainFrom 94 = .ok (.iload_n 1, 1) := by decide +kernel
theorem dX12_chainFrom_95 : decode cX12_chainFrom 95 = .ok (.iload 4, 2) := by decide +kernel
theorem dX12_chainFrom_97 : decode cX12_chainFrom 97 = .ok (.iastore, 1) := by decide +kernel
theorem dX12_chainFrom_98 : decode cX12_chainFrom 98 = .ok (.aload_n 0, 1) := by decide +kernel
theorem dX12_chainFrom_99 : decode cX12_chainFrom 99 = .ok (.iload_n 1, 1) := by decide +kernel
theorem dX12_chainFrom_100 : decode cX12_chainFrom 100 = .ok (.iconst 1, 1) := by decide +kernel
theorem dX12_chainFrom_101 : decode cX12_chainFrom 101 = .ok (.iadd, 1) := by decide +kernel
theorem dX12_chainFrom_102 : decode cX12_chainFrom 102 = .ok (.iload_n 2, 1) := by decide +kernel
theorem dX12_chainFrom_103 : decode cX12_chainFrom 103 = .ok (.iconst 1, 1) := by decide +kernel
theorem dX12_chainFrom_104 : decode cX12_chainFrom 104 = .ok (.iload 4, 2) := by decide +kernel
theorem dX12_chainFrom_106 : decode cX12_chainFrom 106 = .ok (.ishl, 1) := by decide +kernel
theorem dX12_chainFrom_107 : decode cX12_chainFrom 107 = .ok (.ior, 1) := by decide +kernel
theorem dX12_chainFrom_108 : decode cX12_chainFrom 108 = .ok (.iload_n 3, 1) := by decide +kernel
theorem dX12_chainFrom_109 : decode cX12_chainFrom 109 = .ok (.invokevirtual 421, 3) := by decide +kernel
theorem dX12_chainFrom_112 : decode cX12_chainFrom 112 = .ok (.iinc 4 1, 3) := by decide +kernel
theorem dX12_chainFrom_115 : decode cX12_chainFrom 115 = .ok (.goto (-70), 3) := by decide +kernel
theorem dX12_chainFrom_118 : decode cX12_chainFrom 118 = .ok (.return_, 1) := by decide +kernel
theorem dX12_chain_0 : decode cX12_chain 0 = .ok (.aload_n 0, 1) := by decide +kernel
theorem dX12_chain_1 : decode cX12_chain 1 = .ok (.iconst 0, 1) := by decide +kernel
theorem dX12_chain_2 : decode cX12_chain 2 = .ok (.putfield 89, 3) := by decide +kernel
theorem dX12_chain_5 : decode cX12_chain 5 = .ok (.aload_n 0, 1) := by decide +kernel
theorem dX12_chain_6 : decode cX12_chain 6 = .ok (.iconst 0, 1) := by decide +kernel
theorem dX12_chain_7 : decode cX12_chain 7 = .ok (.putfield 92, 3) := by decide +kernel
theorem dX12_chain_10 : decode cX12_chain 10 = .ok (.iload_n 1, 1) := by decide +kernel
theorem dX12_chain_11 : decode cX12_chain 11 = .ok (.i2l, 1) := by decide +kernel
theorem dX12_chain_12 : decode cX12_chain 12 = .ok (.lconst 1, 1) := by decide +kernel
theorem dX12_chain_13 : decode cX12_chain 13 = .ok (.ldc2_w 424, 3) := by decide +kernel
theorem dX12_chain_16 : decode cX12_chain 16 = .ok (.invokestatic 124, 3) := by decide +kernel
theorem dX12_chain_19 : decode cX12_chain 19 = .ok (.ifCond .ne 9, 3) := by decide +kernel
theorem dX12_chain_22 : decode cX12_chain 22 = .ok (.aload_n 0, 1) := by decide +kernel
theorem dX12_chain_23 : decode cX12_chain 23 = .ok (.iconst 5, 1) := by decide +kernel
theorem dX12_chain_24 : decode cX12_chain 24 = .ok (.invokevirtual 321, 3) := by decide +kernel
theorem dX12_chain_27 : decode cX12_chain 27 = .ok (.ireturn, 1) := by decide +kernel
theorem dX12_chain_28 : decode cX12_chain 28 = .ok (.aload_n 0, 1) := by decide +kernel
theorem dX12_chain_29 : decode cX12_chain 29 = .ok (.getfield 35, 3) := by decide +kernel
theorem dX12_chain_32 : decode cX12_chain 32 = .ok (.iconst 2, 1) := by decide +kernel
theorem dX12_chain_33 : decode cX12_chain 33 = .ok (.iaload, 1) := by decide +kernel
theorem dX12_chain_34 : decode cX12_chain 34 = .ok (.ifCond .ne 10, 3) := by decide +kernel
theorem dX12_chain_37 : decode cX12_chain 37 = .ok (.aload_n 0, 1) := by decide +kernel
theorem dX12_chain_38 : decode cX12_chain 38 = .ok (.bipush 8, 2) := by decide +kernel
theorem dX12_chain_40 : decode cX12_chain 40 = .ok (.invokevirtual 321, 3) := by decide +kernel
theorem dX12_chain_43 : decode cX12_chain 43 = .ok (.ireturn, 1) := by decide +kernel
theorem dX12_chain_44 : decode cX12_chain 44 = .ok (.aload_n 0, 1) := by decide +kernel
theorem dX12_chain_45 : decode cX12_chain 45 = .ok (.iconst 0, 1) := by decide +kernel
theorem dX12_chain_46 : decode cX12_chain 46 = .ok (.putfield 418, 3) := by decide +kernel
theorem dX12_chain_49 : decode cX12_chain 49 = .ok (.aload_n 0, 1) := by decide +kernel
theorem dX12_chain_50 : decode cX12_chain 50 = .ok (.iconst 0, 1) := by decide +kernel
theorem dX12_chain_51 : decode cX12_chain 51 = .ok (.iconst 0, 1) := by decide +kernel
theorem dX12_chain_52 : decode cX12_chain 52 = .ok (.iload_n 1, 1) := by decide +kernel
theorem dX12_chain_53 : decode cX12_chain 53 = .ok (.invokevirtual 421, 3) := by decide +kernel
theorem dX12_chain_56 : decode cX12_chain 56 = .ok (.aload_n 0, 1) := by decide +kernel
theorem dX12_chain_57 : decode cX12_chain 57 = .ok (.aload_n 0, 1) := by decide +kernel
theorem dX12_chain_58 : decode cX12_chain 58 = .ok (.getfield 418, 3) := by decide +kernel
theorem dX12_chain_61 : decode cX12_chain 61 = .ok (.putfield 426, 3) := by decide +kernel
theorem dX12_chain_64 : decode cX12_chain 64 = .ok (.iconst 0, 1) := by decide +kernel
theorem dX12_chain_65 : decode cX12_chain 65 = .ok (.istore_n 2, 1) := by decide +kernel
theorem dX12_chain_66 : decode cX12_chain 66 = .ok (.iload_n 2, 1) := by decide +kernel
theorem dX12_chain_67 : decode cX12_chain 67 = .ok (.aload_n 0, 1) := by decide +kernel
theorem dX12_chain_68 : decode cX12_chain 68 = .ok (.getfield 418, 3) := by decide +kernel
theorem dX12_chain_71 : decode cX12_chain 71 = .ok (.if_icmp .ge 21, 3) := by decide +kernel
theorem dX12_chain_74 : decode cX12_chain 74 = .ok (.aload_n 0, 1) := by decide +kernel
theorem dX12_chain_75 : decode cX12_chain 75 = .ok (.getfield 59, 3) := by decide +kernel
theorem dX12_chain_78 : decode cX12_chain 78 = .ok (.iload_n 2, 1) := by decide +kernel
theorem dX12_chain_79 : decode cX12_chain 79 = .ok (.aload_n 0, 1) := by decide +kernel
theorem dX12_chain_80 : decode cX12_chain 80 = .ok (.getfield 56, 3) := by decide +kernel
theorem dX12_chain_83 : decode cX12_chain 83 = .ok (.iload_n 2, 1) := by decide +kernel
theorem dX12_chain_84 : decode cX12_chain 84 = .ok (.iaload, 1) := by decide +kernel
theorem dX12_chain_85 : decode cX12_chain 85 = .ok (.iastore, 1) := by decide +kernel
theorem dX12_chain_86 : decode cX12_chain 86 = .ok (.iinc 2 1, 3) := by decide +kernel
theorem dX12_chain_89 : decode cX12_chain 89 = .ok (.goto (-23), 3) := by decide +kernel
theorem dX12_chain_92 : decode cX12_chain 92 = .ok (.aload_n 0, 1) := by decide +kernel
theorem dX12_chain_93 : decode cX12_chain 93 = .ok (.getfield 418, 3) := by decide +kernel
theorem dX12_chain_96 : decode cX12_chain 96 = .ok (.ireturn, 1) := by decide +kernel
theorem dX12_chainAt_0 : decode cX12_chainAt 0 = .ok (.aload_n 0, 1) := by decide +kernel
theorem dX12_chainAt_1 : decode cX12_chainAt 1 = .ok (.iconst 0, 1) := by decide +kernel
theorem dX12_chainAt_2 : decode cX12_chainAt 2 = .ok (.putfield 89, 3) := by decide +kernel
theorem dX12_chainAt_5 : decode cX12_chainAt 5 = .ok (.aload_n 0, 1) := by decide +kernel
theorem dX12_chainAt_6 : decode cX12_chainAt 6 = .ok (.iconst 0, 1) := by decide +kernel
theorem dX12_chainAt_7 : decode cX12_chainAt 7 = .ok (.putfield 92, 3) := by decide +kernel
theorem dX12_chainAt_10 : decode cX12_chainAt 10 = .ok (.iload_n 1, 1) := by decide +kernel
theorem dX12_chainAt_11 : decode cX12_chainAt 11 = .ok (.i2l, 1) := by decide +kernel
theorem dX12_chainAt_12 : decode cX12_chainAt 12 = .ok (.lconst 0, 1) := by decide +kernel
theorem dX12_chainAt_13 : decode cX12_chainAt 13 = .ok (.aload_n 0, 1) := by decide +kernel
theorem dX12_chainAt_14 : decode cX12_chainAt 14 = .ok (.getfield 426, 3) := by decide +kernel
theorem dX12_chainAt_17 : decode cX12_chainAt 17 = .ok (.iconst 1, 1) := by decide +kernel
theorem dX12_chainAt_18 : decode cX12_chainAt 18 = .ok (.isub, 1) := by decide +kernel
theorem dX12_chainAt_19 : decode cX12_chainAt 19 = .ok (.i2l, 1) := by decide +kernel
theorem dX12_chainAt_20 : decode cX12_chainAt 20 = .ok (.invokestatic 124, 3) := by decide +kernel
theorem dX12_chainAt_23 : decode cX12_chainAt 23 = .ok (.ifCond .eq 12, 3) := by decide +kernel
theorem dX12_chainAt_26 : decode cX12_chainAt 26 = .ok (.aload_n 0, 1) := by decide +kernel
theorem dX12_chainAt_27 : decode cX12_chainAt 27 = .ok (.getfield 59, 3) := by decide +kernel
theorem dX12_chainAt_30 : decode cX12_chainAt 30 = .ok (.iload_n 1, 1) := by decide +kernel
theorem dX12_chainAt_31 : decode cX12_chainAt 31 = .ok (.iaload, 1) := by decide +kernel
theorem dX12_chainAt_32 : decode cX12_chainAt 32 = .ok (.goto 9, 3) := by decide +kernel
theorem dX12_chainAt_35 : decode cX12_chainAt 35 = .ok (.aload_n 0, 1) := by decide +kernel
theorem dX12_chainAt_36 : decode cX12_chainAt 36 = .ok (.bipush 8, 2) := by decide +kernel
theorem dX12_chainAt_38 : decode cX12_chainAt 38 = .ok (.invokevirtual 321, 3) := by decide +kernel
theorem dX12_chainAt_41 : decode cX12_chainAt 41 = .ok (.ireturn, 1) := by decide +kernel
theorem dX12_witness_0 : decode cX12_witness 0 = .ok (.aload_n 0, 1) := by decide +kernel
theorem dX12_witness_1 : decode cX12_witness 1 = .ok (.iconst 0, 1) := by decide +kernel
theorem dX12_witness_2 : decode cX12_witness 2 = .ok (.putfield 89, 3) := by decide +kernel
theorem dX12_witness_5 : decode cX12_witness 5 = .ok (.aload_n 0, 1) := by decide +kernel
theorem dX12_witness_6 : decode cX12_witness 6 = .ok (.iconst 0, 1) := by decide +kernel
theorem dX12_witness_7 : decode cX12_witness 7 = .ok (.putfield 92, 3) := by decide +kernel
theorem dX12_witness_10 : decode cX12_witness 10 = .ok (.aload_n 0, 1) := by decide +kernel
theorem dX12_witness_11 : decode cX12_witness 11 = .ok (.iload_n 1, 1) := by decide +kernel
theorem dX12_witness_12 : decode cX12_witness 12 = .ok (.invokevirtual 324, 3) := by decide +kernel
theorem dX12_witness_15 : decode cX12_witness 15 = .ok (.ifCond .ne 9, 3) := by decide +kernel
theorem dX12_witness_18 : decode cX12_witness 18 = .ok (.aload_n 0, 1) := by decide +kernel
theorem dX12_witness_19 : decode cX12_witness 19 = .ok (.iconst 2, 1) := by decide +kernel
theorem dX12_witness_20 : decode cX12_witness 20 = .ok (.invokevirtual 321, 3) := by decide +kernel
theorem dX12_witness_23 : decode cX12_witness 23 = .ok (.ireturn, 1) := by decide +kernel
theorem dX12_witness_24 : decode cX12_witness 24 = .ok (.iconst (-1), 1) := by decide +kernel
theorem dX12_witness_25 : decode cX12_witness 25 = .ok (.istore_n 2, 1) := by decide +kernel
theorem dX12_witness_26 : decode cX12_witness 26 = .ok (.iconst 0, 1) := by decide +kernel
theorem dX12_witness_27 : decode cX12_witness 27 = .ok (.istore_n 3, 1) := by decide +kernel
theorem dX12_witness_28 : decode cX12_witness 28 = .ok (.iload_n 3, 1) := by decide +kernel
theorem dX12_witness_29 : decode cX12_witness 29 = .ok (.iconst 1, 1) := by decide +kernel
theorem dX12_witness_30 : decode cX12_witness 30 = .ok (.aload_n 0, 1) := by decide +kernel
theorem dX12_witness_31 : decode cX12_witness 31 = .ok (.getfield 35, 3) := by decide +kernel
theorem dX12_witness_34 : decode cX12_witness 34 = .ok (.iconst 2, 1) := by decide +kernel
theorem dX12_witness_35 : decode cX12_witness 35 = .ok (.iaload, 1) := by decide +kernel
theorem dX12_witness_36 : decode cX12_witness 36 = .ok (.ishl, 1) := by decide +kernel
theorem dX12_witness_37 : decode cX12_witness 37 = .ok (.if_icmp .ge 37, 3) := by decide +kernel
theorem dX12_witness_40 : decode cX12_witness 40 = .ok (.iload_n 2, 1) := by decide +kernel
theorem dX12_witness_41 : decode cX12_witness 41 = .ok (.ifCond .lt 14, 3) := by decide +kernel
theorem dX12_witness_44 : decode cX12_witness 44 = .ok (.iload_n 3, 1) := by decide +kernel
theorem dX12_witness_45 : decode cX12_witness 45 = .ok (.invokestatic 429, 3) := by decide +kernel
theorem dX12_witness_48 : decode cX12_witness 48 = .ok (.iload_n 2, 1) := by decide +kernel
theorem dX12_witness_49 : decode cX12_witness 49 = .ok (.invokestatic 429, 3) := by decide +kernel
theorem dX12_witness_52 : decode cX12_witness 52 = .ok (.if_icmp .ge 16, 3) := by decide +kernel
theorem dX12_witness_55 : decode cX12_witness 55 = .ok (.aload_n 0, 1) := by decide +kernel
theorem dX12_witness_56 : decode cX12_witness 56 = .ok (.iload_n 3, 1) := by decide +kernel
theorem dX12_witness_57 : decode cX12_witness 57 = .ok (.invokevirtual 411, 3) := by decide +kernel
theorem dX12_witness_60 : decode cX12_witness 60 = .ok (.iconst 1, 1) := by decide +kernel
theorem dX12_witness_61 : decode cX12_witness 61 = .ok (.iload_n 1, 1) := by decide +kernel
theorem dX12_witness_62 : decode cX12_witness 62 = .ok (.ishl, 1) := by decide +kernel
theorem dX12_witness_63 : decode cX12_witness 63 = .ok (.if_icmp .ne 5, 3) := by decide +kernel
theorem dX12_witness_66 : decode cX12_witness 66 = .ok (.iload_n 3, 1) := by decide +kernel
theorem dX12_witness_67 : decode cX12_witness 67 = .ok (.istore_n 2, 1) := by decide +kernel
theorem dX12_witness_68 : decode cX12_witness 68 = .ok (.iinc 3 1, 3) := by decide +kernel
theorem dX12_witness_71 : decode cX12_witness 71 = .ok (.goto (-43), 3) := by decide +kernel
theorem dX12_witness_74 : decode cX12_witness 74 = .ok (.iload_n 2, 1) := by decide +kernel
theorem dX12_witness_75 : decode cX12_witness 75 = .ok (.ifCond .ge 12, 3) := by decide +kernel
theorem dX12_witness_78 : decode cX12_witness 78 = .ok (.aload_n 0, 1) := by decide +kernel
theorem dX12_witness_79 : decode cX12_witness 79 = .ok (.bipush 8, 2) := by decide +kernel
theorem dX12_witness_81 : decode cX12_witness 81 = .ok (.invokevirtual 321, 3) := by decide +kernel
theorem dX12_witness_84 : decode cX12_witness 84 = .ok (.goto 4, 3) := by decide +kernel
theorem dX12_witness_87 : decode cX12_witness 87 = .ok (.iload_n 2, 1) := by decide +kernel
theorem dX12_witness_88 : decode cX12_witness 88 = .ok (.ireturn, 1) := by decide +kernel
theorem dX12_standsIn_0 : decode cX12_standsIn 0 = .ok (.aload_n 0, 1) := by decide +kernel
theorem dX12_standsIn_1 : decode cX12_standsIn 1 = .ok (.iload_n 1, 1) := by decide +kernel
theorem dX12_standsIn_2 : decode cX12_standsIn 2 = .ok (.invokevirtual 342, 3) := by decide +kernel
theorem dX12_standsIn_5 : decode cX12_standsIn 5 = .ok (.istore_n 3, 1) := by decide +kernel
theorem dX12_standsIn_6 : decode cX12_standsIn 6 = .ok (.iconst 0, 1) := by decide +kernel
theorem dX12_standsIn_7 : decode cX12_standsIn 7 = .ok (.istore 4, 2) := by decide +kernel
theorem dX12_standsIn_9 : decode cX12_standsIn 9 = .ok (.iload 4, 2) := by decide +kernel
theorem dX12_standsIn_11 : decode cX12_standsIn 11 = .ok (.iload_n 3, 1) := by decide +kernel
theorem dX12_standsIn_12 : decode cX12_standsIn 12 = .ok (.iadd, 1) := by decide +kernel
theorem dX12_standsIn_13 : decode cX12_standsIn 13 = .ok (.aload_n 0, 1) := by decide +kernel
theorem dX12_standsIn_14 : decode cX12_standsIn 14 = .ok (.iload_n 2, 1) := by decide +kernel
theorem dX12_standsIn_15 : decode cX12_standsIn 15 = .ok (.invokevirtual 342, 3) := by decide +kernel
theorem dX12_standsIn_18 : decode cX12_standsIn 18 = .ok (.if_icmp .gt 66, 3) := by decide +kernel
theorem dX12_standsIn_21 : decode cX12_standsIn 21 = .ok (.iconst 1, 1) := by decide +kernel
theorem dX12_standsIn_22 : decode cX12_standsIn 22 = .ok (.istore 5, 2) := by decide +kernel
theorem dX12_standsIn_24 : decode cX12_standsIn 24 = .ok (.iconst 0, 1) := by decide +kernel
theorem dX12_standsIn_25 : decode cX12_standsIn 25 = .ok (.istore 6, 2) := by decide +kernel
theorem dX12_standsIn_27 : decode cX12_standsIn 27 = .ok (.iload 6, 2) := by decide +kernel
theorem dX12_standsIn_29 : decode cX12_standsIn 29 = .ok (.iload_n 3, 1) := by decide +kernel
theorem dX12_standsIn_30 : decode cX12_standsIn 30 = .ok (.if_icmp .ge 41, 3) := by decide +kernel
theorem dX12_standsIn_33 : decode cX12_standsIn 33 = .ok (.iload 5, 2) := by decide +kernel
theorem dX12_standsIn_35 : decode cX12_standsIn 35 = .ok (.ifCond .eq 36, 3) := by decide +kernel
theorem dX12_standsIn_38 : decode cX12_standsIn 38 = .ok (.aload_n 0, 1) := by decide +kernel
theorem dX12_standsIn_39 : decode cX12_standsIn 39 = .ok (.iload_n 1, 1) := by decide +kernel
theorem dX12_standsIn_40 : decode cX12_standsIn 40 = .ok (.iload 6, 2) := by decide +kernel
theorem dX12_standsIn_42 : decode cX12_standsIn 42 = .ok (.invokevirtual 348, 3) := by decide +kernel
theorem dX12_standsIn_45 : decode cX12_standsIn 45 = .ok (.aload_n 0, 1) := by decide +kernel
theorem dX12_standsIn_46 : decode cX12_standsIn 46 = .ok (.iload_n 2, 1) := by decide +kernel
theorem dX12_standsIn_47 : decode cX12_standsIn 47 = .ok (.iload 4, 2) := by decide +kernel
theorem dX12_standsIn_49 : decode cX12_standsIn 49 = .ok (.iload 6, 2) := by decide +kernel
theorem dX12_standsIn_51 : decode cX12_standsIn 51 = .ok (.iadd, 1) := by decide +kernel
theorem dX12_standsIn_52 : decode cX12_standsIn 52 = .ok (.invokevirtual 348, 3) := by decide +kernel
theorem dX12_standsIn_55 : decode cX12_standsIn 55 = .ok (.if_icmp .ne 7, 3) := by decide +kernel
theorem dX12_standsIn_58 : decode cX12_standsIn 58 = .ok (.iconst 1, 1) := by decide +kernel
theorem dX12_standsIn_59 : decode cX12_standsIn 59 = .ok (.goto 4, 3) := by decide +kernel
theorem dX12_standsIn_62 : decode cX12_standsIn 62 = .ok (.iconst 0, 1) := by decide +kernel
theorem dX12_standsIn_63 : decode cX12_standsIn 63 = .ok (.istore 5, 2) := by decide +kernel
theorem dX12_standsIn_65 : decode cX12_standsIn 65 = .ok (.iinc 6 1, 3) := by decide +kernel
theorem dX12_standsIn_68 : decode cX12_standsIn 68 = .ok (.goto (-41), 3) := by decide +kernel
theorem dX12_standsIn_71 : decode cX12_standsIn 71 = .ok (.iload 5, 2) := by decide +kernel
theorem dX12_standsIn_73 : decode cX12_standsIn 73 = .ok (.ifCond .eq 5, 3) := by decide +kernel
theorem dX12_standsIn_76 : decode cX12_standsIn 76 = .ok (.iconst 1, 1) := by decide +kernel
theorem dX12_standsIn_77 : decode cX12_standsIn 77 = .ok (.ireturn, 1) := by decide +kernel
theorem dX12_standsIn_78 : decode cX12_standsIn 78 = .ok (.iinc 4 1, 3) := by decide +kernel
theorem dX12_standsIn_81 : decode cX12_standsIn 81 = .ok (.goto (-72), 3) := by decide +kernel
theorem dX12_standsIn_84 : decode cX12_standsIn 84 = .ok (.iconst 0, 1) := by decide +kernel
theorem dX12_standsIn_85 : decode cX12_standsIn 85 = .ok (.ireturn, 1) := by decide +kernel
theorem dX12_isOwn_0 : decode cX12_isOwn 0 = .ok (.aload_n 0, 1) := by decide +kernel
theorem dX12_isOwn_1 : decode cX12_isOwn 1 = .ok (.iload_n 1, 1) := by decide +kernel
theorem dX12_isOwn_2 : decode cX12_isOwn 2 = .ok (.invokevirtual 342, 3) := by decide +kernel
theorem dX12_isOwn_5 : decode cX12_isOwn 5 = .ok (.ifCond .ne 5, 3) := by decide +kernel
theorem dX12_isOwn_8 : decode cX12_isOwn 8 = .ok (.iconst 0, 1) := by decide +kernel
theorem dX12_isOwn_9 : decode cX12_isOwn 9 = .ok (.ireturn, 1) := by decide +kernel
theorem dX12_isOwn_10 : decode cX12_isOwn 10 = .ok (.iconst 0, 1) := by decide +kernel
theorem dX12_isOwn_11 : decode cX12_isOwn 11 = .ok (.istore_n 3, 1) := by decide +kernel
theorem dX12_isOwn_12 : decode cX12_isOwn 12 = .ok (.iload_n 3, 1) := by decide +kernel
theorem dX12_isOwn_13 : decode cX12_isOwn 13 = .ok (.aload_n 0, 1) := by decide +kernel
theorem dX12_isOwn_14 : decode cX12_isOwn 14 = .ok (.getfield 35, 3) := by decide +kernel
theorem dX12_isOwn_17 : decode cX12_isOwn 17 = .ok (.iconst 2, 1) := by decide +kernel
theorem dX12_isOwn_18 : decode cX12_isOwn 18 = .ok (.iaload, 1) := by decide +kernel
theorem dX12_isOwn_19 : decode cX12_isOwn 19 = .ok (.if_icmp .ge 54, 3) := by decide +kernel
theorem dX12_isOwn_22 : decode cX12_isOwn 22 = .ok (.iload_n 3, 1) := by decide +kernel
theorem dX12_isOwn_23 : decode cX12_isOwn 23 = .ok (.iload_n 1, 1) := by decide +kernel
theorem dX12_isOwn_24 : decode cX12_isOwn 24 = .ok (.if_icmp .eq 43, 3) := by decide +kernel
theorem dX12_isOwn_27 : decode cX12_isOwn 27 = .ok (.iload_n 2, 1) := by decide +kernel
theorem dX12_isOwn_28 : decode cX12_isOwn 28 = .ok (.iload_n 3, 1) := by decide +kernel
theorem dX12_isOwn_29 : decode cX12_isOwn 29 = .ok (.invokestatic 402, 3) := by decide +kernel
theorem dX12_isOwn_32 : decode cX12_isOwn 32 = .ok (.ifCond .eq 35, 3) := by decide +kernel
theorem dX12_isOwn_35 : decode cX12_isOwn 35 = .ok (.aload_n 0, 1) := by decide +kernel
theorem dX12_isOwn_36 : decode cX12_isOwn 36 = .ok (.iload_n 1, 1) := by decide +kernel
theorem dX12_isOwn_37 : decode cX12_isOwn 37 = .ok (.iload_n 3, 1) := by decide +kernel
theorem dX12_isOwn_38 : decode cX12_isOwn 38 = .ok (.invokevirtual 432, 3) := by decide +kernel
theorem dX12_isOwn_41 : decode cX12_isOwn 41 = .ok (.ifCond .ne 6, 3) := by decide +kernel
theorem dX12_isOwn_44 : decode cX12_isOwn 44 = .ok (.goto 23, 3) := by decide +kernel
theorem dX12_isOwn_47 : decode cX12_isOwn 47 = .ok (.aload_n 0, 1) := by decide +kernel
theorem dX12_isOwn_48 : decode cX12_isOwn 48 = .ok (.iload_n 3, 1) := by decide +kernel
theorem dX12_isOwn_49 : decode cX12_isOwn 49 = .ok (.invokevirtual 342, 3) := by decide +kernel
theorem dX12_isOwn_52 : decode cX12_isOwn 52 = .ok (.aload_n 0, 1) := by decide +kernel
theorem dX12_isOwn_53 : decode cX12_isOwn 53 = .ok (.iload_n 1, 1) := by decide +kernel
theorem dX12_isOwn_54 : decode cX12_isOwn 54 = .ok (.invokevirtual 342, 3) := by decide +kernel
theorem dX12_isOwn_57 : decode cX12_isOwn 57 = .ok (.if_icmp .gt 8, 3) := by decide +kernel
theorem dX12_isOwn_60 : decode cX12_isOwn 60 = .ok (.iload_n 3, 1) := by decide +kernel
theorem dX12_isOwn_61 : decode cX12_isOwn 61 = .ok (.iload_n 1, 1) := by decide +kernel
theorem dX12_isOwn_62 : decode cX12_isOwn 62 = .ok (.if_icmp .ge 5, 3) := by decide +kernel
theorem dX12_isOwn_65 : decode cX12_isOwn 65 = .ok (.iconst 0, 1) := by decide +kernel
theorem dX12_isOwn_66 : decode cX12_isOwn 66 = .ok (.ireturn, 1) := by decide +kernel
theorem dX12_isOwn_67 : decode cX12_isOwn 67 = .ok (.iinc 3 1, 3) := by decide +kernel
theorem dX12_isOwn_70 : decode cX12_isOwn 70 = .ok (.goto (-58), 3) := by decide +kernel
theorem dX12_isOwn_73 : decode cX12_isOwn 73 = .ok (.iconst 1, 1) := by decide +kernel
theorem dX12_isOwn_74 : decode cX12_isOwn 74 = .ok (.ireturn, 1) := by decide +kernel
theorem dX12_isLess_0 : decode cX12_isLess 0 = .ok (.aload_n 0, 1) := by decide +kernel
theorem dX12_isLess_1 : decode cX12_isLess 1 = .ok (.getfield 435, 3) := by decide +kernel
theorem dX12_isLess_4 : decode cX12_isLess 4 = .ok (.iload_n 1, 1) := by decide +kernel
theorem dX12_isLess_5 : decode cX12_isLess 5 = .ok (.if_icmp .eq 17, 3) := by decide +kernel
theorem dX12_isLess_8 : decode cX12_isLess 8 = .ok (.iload_n 1, 1) := by decide +kernel
theorem dX12_isLess_9 : decode cX12_isLess 9 = .ok (.aload_n 0, 1) := by decide +kernel
theorem dX12_isLess_10 : decode cX12_isLess 10 = .ok (.getfield 435, 3) := by decide +kernel
theorem dX12_isLess_13 : decode cX12_isLess 13 = .ok (.if_icmp .ge 7, 3) := by decide +kernel
theorem dX12_isLess_16 : decode cX12_isLess 16 = .ok (.iconst 1, 1) := by decide +kernel
theorem dX12_isLess_17 : decode cX12_isLess 17 = .ok (.goto 4, 3) := by decide +kernel
theorem dX12_isLess_20 : decode cX12_isLess 20 = .ok (.iconst 0, 1) := by decide +kernel
theorem dX12_isLess_21 : decode cX12_isLess 21 = .ok (.ireturn, 1) := by decide +kernel
theorem dX12_isLess_22 : decode cX12_isLess 22 = .ok (.iconst 0, 1) := by decide +kernel
theorem dX12_isLess_23 : decode cX12_isLess 23 = .ok (.istore_n 2, 1) := by decide +kernel
theorem dX12_isLess_24 : decode cX12_isLess 24 = .ok (.iload_n 2, 1) := by decide +kernel
theorem dX12_isLess_25 : decode cX12_isLess 25 = .ok (.iload_n 1, 1) := by decide +kernel
theorem dX12_isLess_26 : decode cX12_isLess 26 = .ok (.if_icmp .ge 45, 3) := by decide +kernel
theorem dX12_isLess_29 : decode cX12_isLess 29 = .ok (.aload_n 0, 1) := by decide +kernel
theorem dX12_isLess_30 : decode cX12_isLess 30 = .ok (.getfield 41, 3) := by decide +kernel
theorem dX12_isLess_33 : decode cX12_isLess 33 = .ok (.iload_n 2, 1) := by decide +kernel
theorem dX12_isLess_34 : decode cX12_isLess 34 = .ok (.iaload, 1) := by decide +kernel
theorem dX12_isLess_35 : decode cX12_isLess 35 = .ok (.aload_n 0, 1) := by decide +kernel
theorem dX12_isLess_36 : decode cX12_isLess 36 = .ok (.getfield 68, 3) := by decide +kernel
theorem dX12_isLess_39 : decode cX12_isLess 39 = .ok (.iload_n 2, 1) := by decide +kernel
theorem dX12_isLess_40 : decode cX12_isLess 40 = .ok (.iaload, 1) := by decide +kernel
theorem dX12_isLess_41 : decode cX12_isLess 41 = .ok (.if_icmp .eq 24, 3) := by decide +kernel
theorem dX12_isLess_44 : decode cX12_isLess 44 = .ok (.aload_n 0, 1) := by decide +kernel
theorem dX12_isLess_45 : decode cX12_isLess 45 = .ok (.getfield 41, 3) := by decide +kernel
theorem dX12_isLess_48 : decode cX12_isLess 48 = .ok (.iload_n 2, 1) := by decide +kernel
theorem dX12_isLess_49 : decode cX12_isLess 49 = .ok (.iaload, 1) := by decide +kernel
theorem dX12_isLess_50 : decode cX12_isLess 50 = .ok (.aload_n 0, 1) := by decide +kernel
theorem dX12_isLess_51 : decode cX12_isLess 51 = .ok (.getfield 68, 3) := by decide +kernel
theorem dX12_isLess_54 : decode cX12_isLess 54 = .ok (.iload_n 2, 1) := by decide +kernel
theorem dX12_isLess_55 : decode cX12_isLess 55 = .ok (.iaload, 1) := by decide +kernel
theorem dX12_isLess_56 : decode cX12_isLess 56 = .ok (.if_icmp .ge 7, 3) := by decide +kernel
theorem dX12_isLess_59 : decode cX12_isLess 59 = .ok (.iconst 1, 1) := by decide +kernel
theorem dX12_isLess_60 : decode cX12_isLess 60 = .ok (.goto 4, 3) := by decide +kernel
theorem dX12_isLess_63 : decode cX12_isLess 63 = .ok (.iconst 0, 1) := by decide +kernel
theorem dX12_isLess_64 : decode cX12_isLess 64 = .ok (.ireturn, 1) := by decide +kernel
theorem dX12_isLess_65 : decode cX12_isLess 65 = .ok (.iinc 2 1, 3) := by decide +kernel
theorem dX12_isLess_68 : decode cX12_isLess 68 = .ok (.goto (-44), 3) := by decide +kernel
theorem dX12_isLess_71 : decode cX12_isLess 71 = .ok (.iconst 0, 1) := by decide +kernel
theorem dX12_isLess_72 : decode cX12_isLess 72 = .ok (.ireturn, 1) := by decide +kernel
theorem dX12_mergeFrom_0 : decode cX12_mergeFrom 0 = .ok (.iload_n 1, 1) := by decide +kernel
theorem dX12_mergeFrom_1 : decode cX12_mergeFrom 1 = .ok (.iconst 1, 1) := by decide +kernel
theorem dX12_mergeFrom_2 : decode cX12_mergeFrom 2 = .ok (.aload_n 0, 1) := by decide +kernel
theorem dX12_mergeFrom_3 : decode cX12_mergeFrom 3 = .ok (.getfield 438, 3) := by decide +kernel
theorem dX12_mergeFrom_6 : decode cX12_mergeFrom 6 = .ok (.ishl, 1) := by decide +kernel
theorem dX12_mergeFrom_7 : decode cX12_mergeFrom 7 = .ok (.iconst 1, 1) := by decide +kernel
theorem dX12_mergeFrom_8 : decode cX12_mergeFrom 8 = .ok (.isub, 1) := by decide +kernel
theorem dX12_mergeFrom_9 : decode cX12_mergeFrom 9 = .ok (.if_icmp .ne 54, 3) := by decide +kernel
theorem dX12_mergeFrom_12 : decode cX12_mergeFrom 12 = .ok (.aload_n 0, 1) := by decide +kernel
theorem dX12_mergeFrom_13 : decode cX12_mergeFrom 13 = .ok (.getfield 435, 3) := by decide +kernel
theorem dX12_mergeFrom_16 : decode cX12_mergeFrom 16 = .ok (.ifCond .lt 12, 3) := by decide +kernel
theorem dX12_mergeFrom_19 : decode cX12_mergeFrom 19 = .ok (.aload_n 0, 1) := by decide +kernel
theorem dX12_mergeFrom_20 : decode cX12_mergeFrom 20 = .ok (.iload_n 3, 1) := by decide +kernel
theorem dX12_mergeFrom_21 : decode cX12_mergeFrom 21 = .ok (.invokevirtual 441, 3) := by decide +kernel
theorem dX12_mergeFrom_24 : decode cX12_mergeFrom 24 = .ok (.ifCond .ne 4, 3) := by decide +kernel
theorem dX12_mergeFrom_27 : decode cX12_mergeFrom 27 = .ok (.return_, 1) := by decide +kernel
theorem dX12_mergeFrom_28 : decode cX12_mergeFrom 28 = .ok (.aload_n 0, 1) := by decide +kernel
theorem dX12_mergeFrom_29 : decode cX12_mergeFrom 29 = .ok (.iload_n 3, 1) := by decide +kernel
theorem dX12_mergeFrom_30 : decode cX12_mergeFrom 30 = .ok (.putfield 435, 3) := by decide +kernel
theorem dX12_mergeFrom_33 : decode cX12_mergeFrom 33 = .ok (.iconst 0, 1) := by decide +kernel
theorem dX12_mergeFrom_34 : decode cX12_mergeFrom 34 = .ok (.istore 4, 2) := by decide +kernel
theorem dX12_mergeFrom_36 : decode cX12_mergeFrom 36 = .ok (.iload 4, 2) := by decide +kernel
theorem dX12_mergeFrom_38 : decode cX12_mergeFrom 38 = .ok (.iload_n 3, 1) := by decide +kernel
theorem dX12_mergeFrom_39 : decode cX12_mergeFrom 39 = .ok (.if_icmp .ge 23, 3) := by decide +kernel
theorem dX12_mergeFrom_42 : decode cX12_mergeFrom 42 = .ok (.aload_n 0, 1) := by decide +kernel
theorem dX12_mergeFrom_43 : decode cX12_mergeFrom 43 = .ok (.getfield 68, 3) := by decide +kernel
theorem dX12_mergeFrom_46 : decode cX12_mergeFrom 46 = .ok (.iload 4, 2) := by decide +kernel
theorem dX12_mergeFrom_48 : decode cX12_mergeFrom 48 = .ok (.aload_n 0, 1) := by decide +kernel
theorem dX12_mergeFrom_49 : decode cX12_mergeFrom 49 = .ok (.getfield 41, 3) := by decide +kernel
theorem dX12_mergeFrom_52 : decode cX12_mergeFrom 52 = .ok (.iload 4, 2) := by decide +kernel
theorem dX12_mergeFrom_54 : decode cX12_mergeFrom 54 = .ok (.iaload, 1) := by decide +kernel
theorem dX12_mergeFrom_55 : decode cX12_mergeFrom 55 = .ok (.iastore, 1) := by decide +kernel
theorem dX12_mergeFrom_56 : decode cX12_mergeFrom 56 = .ok (.iinc 4 1, 3) := by decide +kernel
theorem dX12_mergeFrom_59 : decode cX12_mergeFrom 59 = .ok (.goto (-23), 3) := by decide +kernel
theorem dX12_mergeFrom_62 : decode cX12_mergeFrom 62 = .ok (.return_, 1) := by decide +kernel
theorem dX12_mergeFrom_63 : decode cX12_mergeFrom 63 = .ok (.iconst 0, 1) := by decide +kernel
theorem dX12_mergeFrom_64 : decode cX12_mergeFrom 64 = .ok (.istore 4, 2) := by decide +kernel
theorem dX12_mergeFrom_66 : decode cX12_mergeFrom 66 = .ok (.iload 4, 2) := by decide +kernel
theorem dX12_mergeFrom_68 : decode cX12_mergeFrom 68 = .ok (.aload_n 0, 1) := by decide +kernel
theorem dX12_mergeFrom_69 : decode cX12_mergeFrom 69 = .ok (.getfield 438, 3) := by decide +kernel
theorem dX12_mergeFrom_72 : decode cX12_mergeFrom 72 = .ok (.if_icmp .ge 111, 3) := by decide +kernel
theorem dX12_mergeFrom_75 : decode cX12_mergeFrom 75 = .ok (.iload_n 1, 1) := by decide +kernel
theorem dX12_mergeFrom_76 : decode cX12_mergeFrom 76 = .ok (.iload 4, 2) := by decide +kernel
theorem dX12_mergeFrom_78 : decode cX12_mergeFrom 78 = .ok (.invokestatic 402, 3) := by decide +kernel
theorem dX12_mergeFrom_81 : decode cX12_mergeFrom 81 = .ok (.ifCond .eq 6, 3) := by decide +kernel
theorem dX12_mergeFrom_84 : decode cX12_mergeFrom 84 = .ok (.goto 93, 3) := by decide +kernel
theorem dX12_mergeFrom_87 : decode cX12_mergeFrom 87 = .ok (.aload_n 0, 1) := by decide +kernel
theorem dX12_mergeFrom_88 : decode cX12_mergeFrom 88 = .ok (.getfield 62, 3) := by decide +kernel
theorem dX12_mergeFrom_91 : decode cX12_mergeFrom 91 = .ok (.iload 4, 2) := by decide +kernel
theorem dX12_mergeFrom_93 : decode cX12_mergeFrom 93 = .ok (.iaload, 1) := by decide +kernel
theorem dX12_mergeFrom_94 : decode cX12_mergeFrom 94 = .ok (.istore 5, 2) := by decide +kernel
theorem dX12_mergeFrom_96 : decode cX12_mergeFrom 96 = .ok (.iload_n 2, 1) := by decide +kernel
theorem dX12_mergeFrom_97 : decode cX12_mergeFrom 97 = .ok (.ifCond .ge 7, 3) := by decide +kernel
theorem dX12_mergeFrom_100 : decode cX12_mergeFrom 100 = .ok (.iconst 0, 1) := by decide +kernel
theorem dX12_mergeFrom_101 : decode cX12_mergeFrom 101 = .ok (.goto 10, 3) := by decide +kernel
theorem dX12_mergeFrom_104 : decode cX12_mergeFrom 104 = .ok (.aload_n 0, 1) := by decide +kernel
theorem dX12_mergeFrom_105 : decode cX12_mergeFrom 105 = .ok (.iload_n 2, 1) := by decide +kernel
theorem dX12_mergeFrom_106 : decode cX12_mergeFrom 106 = .ok (.iload 5, 2) := by decide +kernel
theorem dX12_mergeFrom_108 : decode cX12_mergeFrom 108 = .ok (.invokevirtual 414, 3) := by decide +kernel
theorem dX12_mergeFrom_111 : decode cX12_mergeFrom 111 = .ok (.istore 6, 2) := by decide +kernel
theorem dX12_mergeFrom_113 : decode cX12_mergeFrom 113 = .ok (.iload 6, 2) := by decide +kernel
theorem dX12_mergeFrom_115 : decode cX12_mergeFrom 115 = .ok (.istore 7, 2) := by decide +kernel
theorem dX12_mergeFrom_117 : decode cX12_mergeFrom 117 = .ok (.iload 7, 2) := by decide +kernel
theorem dX12_mergeFrom_119 : decode cX12_mergeFrom 119 = .ok (.aload_n 0, 1) := by decide +kernel
theorem dX12_mergeFrom_120 : decode cX12_mergeFrom 120 = .ok (.iload 5, 2) := by decide +kernel
theorem dX12_mergeFrom_122 : decode cX12_mergeFrom 122 = .ok (.invokevirtual 342, 3) := by decide +kernel
theorem dX12_mergeFrom_125 : decode cX12_mergeFrom 125 = .ok (.if_icmp .ge 29, 3) := by decide +kernel
theorem dX12_mergeFrom_128 : decode cX12_mergeFrom 128 = .ok (.aload_n 0, 1) := by decide +kernel
theorem dX12_mergeFrom_129 : decode cX12_mergeFrom 129 = .ok (.getfield 41, 3) := by decide +kernel
theorem dX12_mergeFrom_132 : decode cX12_mergeFrom 132 = .ok (.iload_n 3, 1) := by decide +kernel
theorem dX12_mergeFrom_133 : decode cX12_mergeFrom 133 = .ok (.iload 7, 2) := by decide +kernel
theorem dX12_mergeFrom_135 : decode cX12_mergeFrom 135 = .ok (.iadd, 1) := by decide +kernel
theorem dX12_mergeFrom_136 : decode cX12_mergeFrom 136 = .ok (.iload 6, 2) := by decide +kernel
theorem dX12_mergeFrom_138 : decode cX12_mergeFrom 138 = .ok (.isub, 1) := by decide +kernel
theorem dX12_mergeFrom_139 : decode cX12_mergeFrom 139 = .ok (.aload_n 0, 1) := by decide +kernel
theorem dX12_mergeFrom_140 : decode cX12_mergeFrom 140 = .ok (.iload 5, 2) := by decide +kernel
theorem dX12_mergeFrom_142 : decode cX12_mergeFrom 142 = .ok (.iload 7, 2) := by decide +kernel
theorem dX12_mergeFrom_144 : decode cX12_mergeFrom 144 = .ok (.invokevirtual 348, 3) := by decide +kernel
theorem dX12_mergeFrom_147 : decode cX12_mergeFrom 147 = .ok (.iastore, 1) := by decide +kernel
theorem dX12_mergeFrom_148 : decode cX12_mergeFrom 148 = .ok (.iinc 7 1, 3) := by decide +kernel
theorem dX12_mergeFrom_151 : decode cX12_mergeFrom 151 = .ok (.goto (-34), 3) := by decide +kernel
theorem dX12_mergeFrom_154 : decode cX12_mergeFrom 154 = .ok (.aload_n 0, 1) := by decide +kernel
theorem dX12_mergeFrom_155 : decode cX12_mergeFrom 155 = .ok (.iload_n 1, 1) := by decide +kernel
theorem dX12_mergeFrom_156 : decode cX12_mergeFrom 156 = .ok (.iconst 1, 1) := by decide +kernel
theorem dX12_mergeFrom_157 : decode cX12_mergeFrom 157 = .ok (.iload 4, 2) := by decide +kernel
theorem dX12_mergeFrom_159 : decode cX12_mergeFrom 159 = .ok (.ishl, 1) := by decide +kernel
theorem dX12_mergeFrom_160 : decode cX12_mergeFrom 160 = .ok (.ior, 1) := by decide +kernel
theorem dX12_mergeFrom_161 : decode cX12_mergeFrom 161 = .ok (.iload 5, 2) := by decide +kernel
theorem dX12_mergeFrom_163 : decode cX12_mergeFrom 163 = .ok (.iload_n 3, 1) := by decide +kernel
theorem dX12_mergeFrom_164 : decode cX12_mergeFrom 164 = .ok (.aload_n 0, 1) := by decide +kernel
theorem dX12_mergeFrom_165 : decode cX12_mergeFrom 165 = .ok (.iload 5, 2) := by decide +kernel
theorem dX12_mergeFrom_167 : decode cX12_mergeFrom 167 = .ok (.invokevirtual 342, 3) := by decide +kernel
theorem dX12_mergeFrom_170 : decode cX12_mergeFrom 170 = .ok (.iadd, 1) := by decide +kernel
theorem dX12_mergeFrom_171 : decode cX12_mergeFrom 171 = .ok (.iload 6, 2) := by decide +kernel
theorem dX12_mergeFrom_173 : decode cX12_mergeFrom 173 = .ok (.isub, 1) := by decide +kernel
theorem dX12_mergeFrom_174 : decode cX12_mergeFrom 174 = .ok (.invokevirtual 444, 3) := by decide +kernel
theorem dX12_mergeFrom_177 : decode cX12_mergeFrom 177 = .ok (.iinc 4 1, 3) := by decide +kernel
theorem dX12_mergeFrom_180 : decode cX12_mergeFrom 180 = .ok (.goto (-114), 3) := by decide +kernel
theorem dX12_mergeFrom_183 : decode cX12_mergeFrom 183 = .ok (.return_, 1) := by decide +kernel
theorem dX12_merged_0 : decode cX12_merged 0 = .ok (.aload_n 0, 1) := by decide +kernel
theorem dX12_merged_1 : decode cX12_merged 1 = .ok (.iconst 0, 1) := by decide +kernel
theorem dX12_merged_2 : decode cX12_merged 2 = .ok (.putfield 89, 3) := by decide +kernel
theorem dX12_merged_5 : decode cX12_merged 5 = .ok (.aload_n 0, 1) := by decide +kernel
theorem dX12_merged_6 : decode cX12_merged 6 = .ok (.iconst 0, 1) := by decide +kernel
theorem dX12_merged_7 : decode cX12_merged 7 = .ok (.putfield 92, 3) := by decide +kernel
theorem dX12_merged_10 : decode cX12_merged 10 = .ok (.aload_n 0, 1) := by decide +kernel
theorem dX12_merged_11 : decode cX12_merged 11 = .ok (.iload_n 1, 1) := by decide +kernel
theorem dX12_merged_12 : decode cX12_merged 12 = .ok (.invokevirtual 408, 3) := by decide +kernel
theorem dX12_merged_15 : decode cX12_merged 15 = .ok (.ifCond .ne 9, 3) := by decide +kernel
theorem dX12_merged_18 : decode cX12_merged 18 = .ok (.aload_n 0, 1) := by decide +kernel
theorem dX12_merged_19 : decode cX12_merged 19 = .ok (.iconst 2, 1) := by decide +kernel
theorem dX12_merged_20 : decode cX12_merged 20 = .ok (.invokevirtual 321, 3) := by decide +kernel
theorem dX12_merged_23 : decode cX12_merged 23 = .ok (.ireturn, 1) := by decide +kernel
theorem dX12_merged_24 : decode cX12_merged 24 = .ok (.iload_n 1, 1) := by decide +kernel
theorem dX12_merged_25 : decode cX12_merged 25 = .ok (.invokestatic 429, 3) := by decide +kernel
theorem dX12_merged_28 : decode cX12_merged 28 = .ok (.bipush 6, 2) := by decide +kernel
theorem dX12_merged_30 : decode cX12_merged 30 = .ok (.if_icmp .le 9, 3) := by decide +kernel
theorem dX12_merged_33 : decode cX12_merged 33 = .ok (.aload_n 0, 1) := by decide +kernel
theorem dX12_merged_34 : decode cX12_merged 34 = .ok (.iconst 5, 1) := by decide +kernel
theorem dX12_merged_35 : decode cX12_merged 35 = .ok (.invokevirtual 321, 3) := by decide +kernel
theorem dX12_merged_38 : decode cX12_merged 38 = .ok (.ireturn, 1) := by decide +kernel
theorem dX12_merged_39 : decode cX12_merged 39 = .ok (.aload_n 0, 1) := by decide +kernel
theorem dX12_merged_40 : decode cX12_merged 40 = .ok (.iconst 0, 1) := by decide +kernel
theorem dX12_merged_41 : decode cX12_merged 41 = .ok (.putfield 438, 3) := by decide +kernel
theorem dX12_merged_44 : decode cX12_merged 44 = .ok (.iconst 0, 1) := by decide +kernel
theorem dX12_merged_45 : decode cX12_merged 45 = .ok (.istore_n 2, 1) := by decide +kernel
theorem dX12_merged_46 : decode cX12_merged 46 = .ok (.iload_n 2, 1) := by decide +kernel
theorem dX12_merged_47 : decode cX12_merged 47 = .ok (.aload_n 0, 1) := by decide +kernel
theorem dX12_merged_48 : decode cX12_merged 48 = .ok (.getfield 35, 3) := by decide +kernel
theorem dX12_merged_51 : decode cX12_merged 51 = .ok (.iconst 2, 1) := by decide +kernel
theorem dX12_merged_52 : decode cX12_merged 52 = .ok (.iaload, 1) := by decide +kernel
theorem dX12_merged_53 : decode cX12_merged 53 = .ok (.if_icmp .ge 49, 3) := by decide +kernel
theorem dX12_merged_56 : decode cX12_merged 56 = .ok (.iload_n 1, 1) := by decide +kernel
theorem dX12_merged_57 : decode cX12_merged 57 = .ok (.iload_n 2, 1) := by decide +kernel
theorem dX12_merged_58 : decode cX12_merged 58 = .ok (.invokestatic 402, 3) := by decide +kernel
theorem dX12_merged_61 : decode cX12_merged 61 = .ok (.ifCond .eq 35, 3) := by decide +kernel
theorem dX12_merged_64 : decode cX12_merged 64 = .ok (.aload_n 0, 1) := by decide +kernel
theorem dX12_merged_65 : decode cX12_merged 65 = .ok (.iload_n 2, 1) := by decide +kernel
theorem dX12_merged_66 : decode cX12_merged 66 = .ok (.iload_n 1, 1) := by decide +kernel
theorem dX12_merged_67 : decode cX12_merged 67 = .ok (.invokevirtual 447, 3) := by decide +kernel
theorem dX12_merged_70 : decode cX12_merged 70 = .ok (.ifCond .ne 6, 3) := by decide +kernel
theorem dX12_merged_73 : decode cX12_merged 73 = .ok (.goto 23, 3) := by decide +kernel
theorem dX12_merged_76 : decode cX12_merged 76 = .ok (.aload_n 0, 1) := by decide +kernel
theorem dX12_merged_77 : decode cX12_merged 77 = .ok (.getfield 62, 3) := by decide +kernel
theorem dX12_merged_80 : decode cX12_merged 80 = .ok (.aload_n 0, 1) := by decide +kernel
theorem dX12_merged_81 : decode cX12_merged 81 = .ok (.getfield 438, 3) := by decide +kernel
theorem dX12_merged_84 : decode cX12_merged 84 = .ok (.iload_n 2, 1) := by decide +kernel
theorem dX12_merged_85 : decode cX12_merged 85 = .ok (.iastore, 1) := by decide +kernel
theorem dX12_merged_86 : decode cX12_merged 86 = .ok (.aload_n 0, 1) := by decide +kernel
theorem dX12_merged_87 : decode cX12_merged 87 = .ok (.dup, 1) := by decide +kernel
theorem dX12_merged_88 : decode cX12_merged 88 = .ok (.getfield 438, 3) := by decide +kernel
theorem dX12_merged_91 : decode cX12_merged 91 = .ok (.iconst 1, 1) := by decide +kernel
theorem dX12_merged_92 : decode cX12_merged 92 = .ok (.iadd, 1) := by decide +kernel
theorem dX12_merged_93 : decode cX12_merged 93 = .ok (.putfield 438, 3) := by decide +kernel
theorem dX12_merged_96 : decode cX12_merged 96 = .ok (.iinc 2 1, 3) := by decide +kernel
theorem dX12_merged_99 : decode cX12_merged 99 = .ok (.goto (-53), 3) := by decide +kernel
theorem dX12_merged_102 : decode cX12_merged 102 = .ok (.aload_n 0, 1) := by decide +kernel
theorem dX12_merged_103 : decode cX12_merged 103 = .ok (.iconst (-1), 1) := by decide +kernel
theorem dX12_merged_104 : decode cX12_merged 104 = .ok (.putfield 435, 3) := by decide +kernel
theorem dX12_merged_107 : decode cX12_merged 107 = .ok (.aload_n 0, 1) := by decide +kernel
theorem dX12_merged_108 : decode cX12_merged 108 = .ok (.iconst 0, 1) := by decide +kernel
theorem dX12_merged_109 : decode cX12_merged 109 = .ok (.iconst (-1), 1) := by decide +kernel
theorem dX12_merged_110 : decode cX12_merged 110 = .ok (.iconst 0, 1) := by decide +kernel
theorem dX12_merged_111 : decode cX12_merged 111 = .ok (.invokevirtual 444, 3) := by decide +kernel
theorem dX12_merged_114 : decode cX12_merged 114 = .ok (.aload_n 0, 1) := by decide +kernel
theorem dX12_merged_115 : decode cX12_merged 115 = .ok (.aload_n 0, 1) := by decide +kernel
theorem dX12_merged_116 : decode cX12_merged 116 = .ok (.getfield 435, 3) := by decide +kernel
theorem dX12_merged_119 : decode cX12_merged 119 = .ok (.putfield 450, 3) := by decide +kernel
theorem dX12_merged_122 : decode cX12_merged 122 = .ok (.iconst 0, 1) := by decide +kernel
theorem dX12_merged_123 : decode cX12_merged 123 = .ok (.istore_n 2, 1) := by decide +kernel
theorem dX12_merged_124 : decode cX12_merged 124 = .ok (.iload_n 2, 1) := by decide +kernel
theorem dX12_merged_125 : decode cX12_merged 125 = .ok (.aload_n 0, 1) := by decide +kernel
theorem dX12_merged_126 : decode cX12_merged 126 = .ok (.getfield 435, 3) := by decide +kernel
theorem dX12_merged_129 : decode cX12_merged 129 = .ok (.if_icmp .ge 21, 3) := by decide +kernel
theorem dX12_merged_132 : decode cX12_merged 132 = .ok (.aload_n 0, 1) := by decide +kernel
theorem dX12_merged_133 : decode cX12_merged 133 = .ok (.getfield 65, 3) := by decide +kernel
theorem dX12_merged_136 : decode cX12_merged 136 = .ok (.iload_n 2, 1) := by decide +kernel
theorem dX12_merged_137 : decode cX12_merged 137 = .ok (.aload_n 0, 1) := by decide +kernel
theorem dX12_merged_138 : decode cX12_merged 138 = .ok (.getfield 68, 3) := by decide +kernel
theorem dX12_merged_141 : decode cX12_merged 141 = .ok (.iload_n 2, 1) := by decide +kernel
theorem dX12_merged_142 : decode cX12_merged 142 = .ok (.iaload, 1) := by decide +kernel
theorem dX12_merged_143 : decode cX12_merged 143 = .ok (.iastore, 1) := by decide +kernel
theorem dX12_merged_144 : decode cX12_merged 144 = .ok (.iinc 2 1, 3) := by decide +kernel
theorem dX12_merged_147 : decode cX12_merged 147 = .ok (.goto (-23), 3) := by decide +kernel
theorem dX12_merged_150 : decode cX12_merged 150 = .ok (.aload_n 0, 1) := by decide +kernel
theorem dX12_merged_151 : decode cX12_merged 151 = .ok (.getfield 435, 3) := by decide +kernel
theorem dX12_merged_154 : decode cX12_merged 154 = .ok (.ireturn, 1) := by decide +kernel
theorem dX12_mergedAt_0 : decode cX12_mergedAt 0 = .ok (.aload_n 0, 1) := by decide +kernel
theorem dX12_mergedAt_1 : decode cX12_mergedAt 1 = .ok (.iconst 0, 1) := by decide +kernel
theorem dX12_mergedAt_2 : decode cX12_mergedAt 2 = .ok (.putfield 89, 3) := by decide +kernel
theorem dX12_mergedAt_5 : decode cX12_mergedAt 5 = .ok (.aload_n 0, 1) := by decide +kernel
theorem dX12_mergedAt_6 : decode cX12_mergedAt 6 = .ok (.iconst 0, 1) := by decide +kernel
theorem dX12_mergedAt_7 : decode cX12_mergedAt 7 = .ok (.putfield 92, 3) := by decide +kernel
theorem dX12_mergedAt_10 : decode cX12_mergedAt 10 = .ok (.iload_n 1, 1) := by decide +kernel
theorem dX12_mergedAt_11 : decode cX12_mergedAt 11 = .ok (.i2l, 1) := by decide +kernel
theorem dX12_mergedAt_12 : decode cX12_mergedAt 12 = .ok (.lconst 0, 1) := by decide +kernel
theorem dX12_mergedAt_13 : decode cX12_mergedAt 13 = .ok (.aload_n 0, 1) := by decide +kernel
theorem dX12_mergedAt_14 : decode cX12_mergedAt 14 = .ok (.getfield 450, 3) := by decide +kernel
theorem dX12_mergedAt_17 : decode cX12_mergedAt 17 = .ok (.iconst 1, 1) := by decide +kernel
theorem dX12_mergedAt_18 : decode cX12_mergedAt 18 = .ok (.isub, 1) := by decide +kernel
theorem dX12_mergedAt_19 : decode cX12_mergedAt 19 = .ok (.i2l, 1) := by decide +kernel
theorem dX12_mergedAt_20 : decode cX12_mergedAt 20 = .ok (.invokestatic 124, 3) := by decide +kernel
theorem dX12_mergedAt_23 : decode cX12_mergedAt 23 = .ok (.ifCond .eq 12, 3) := by decide +kernel
theorem dX12_mergedAt_26 : decode cX12_mergedAt 26 = .ok (.aload_n 0, 1) := by decide +kernel
theorem dX12_mergedAt_27 : decode cX12_mergedAt 27 = .ok (.getfield 65, 3) := by decide +kernel
theorem dX12_mergedAt_30 : decode cX12_mergedAt 30 = .ok (.iload_n 1, 1) := by decide +kernel
theorem dX12_mergedAt_31 : decode cX12_mergedAt 31 = .ok (.iaload, 1) := by decide +kernel
theorem dX12_mergedAt_32 : decode cX12_mergedAt 32 = .ok (.goto 9, 3) := by decide +kernel
theorem dX12_mergedAt_35 : decode cX12_mergedAt 35 = .ok (.aload_n 0, 1) := by decide +kernel
theorem dX12_mergedAt_36 : decode cX12_mergedAt 36 = .ok (.bipush 8, 2) := by decide +kernel
theorem dX12_mergedAt_38 : decode cX12_mergedAt 38 = .ok (.invokevirtual 321, 3) := by decide +kernel
theorem dX12_mergedAt_41 : decode cX12_mergedAt 41 = .ok (.ireturn, 1) := by decide +kernel
theorem dX12_keepsOf_0 : decode cX12_keepsOf 0 = .ok (.aload_n 0, 1) := by decide +kernel
theorem dX12_keepsOf_1 : decode cX12_keepsOf 1 = .ok (.getfield 35, 3) := by decide +kernel
theorem dX12_keepsOf_4 : decode cX12_keepsOf 4 = .ok (.sipush 140, 3) := by decide +kernel
theorem dX12_keepsOf_7 : decode cX12_keepsOf 7 = .ok (.iload_n 1, 1) := by decide +kernel
theorem dX12_keepsOf_8 : decode cX12_keepsOf 8 = .ok (.iadd, 1) := by decide +kernel
theorem dX12_keepsOf_9 : decode cX12_keepsOf 9 = .ok (.iaload, 1) := by decide +kernel
theorem dX12_keepsOf_10 : decode cX12_keepsOf 10 = .ok (.aload_n 0, 1) := by decide +kernel
theorem dX12_keepsOf_11 : decode cX12_keepsOf 11 = .ok (.iload_n 1, 1) := by decide +kernel
theorem dX12_keepsOf_12 : decode cX12_keepsOf 12 = .ok (.aload_n 0, 1) := by decide +kernel
theorem dX12_keepsOf_13 : decode cX12_keepsOf 13 = .ok (.getfield 35, 3) := by decide +kernel
theorem dX12_keepsOf_16 : decode cX12_keepsOf 16 = .ok (.sipush 140, 3) := by decide +kernel
theorem dX12_keepsOf_19 : decode cX12_keepsOf 19 = .ok (.iload_n 1, 1) := by decide +kernel
theorem dX12_keepsOf_20 : decode cX12_keepsOf 20 = .ok (.iadd, 1) := by decide +kernel
theorem dX12_keepsOf_21 : decode cX12_keepsOf 21 = .ok (.iaload, 1) := by decide +kernel
theorem dX12_keepsOf_22 : decode cX12_keepsOf 22 = .ok (.iload_n 2, 1) := by decide +kernel
theorem dX12_keepsOf_23 : decode cX12_keepsOf 23 = .ok (.invokevirtual 335, 3) := by decide +kernel
theorem dX12_keepsOf_26 : decode cX12_keepsOf 26 = .ok (.isub, 1) := by decide +kernel
theorem dX12_keepsOf_27 : decode cX12_keepsOf 27 = .ok (.ireturn, 1) := by decide +kernel
theorem dX12_keeps_0 : decode cX12_keeps 0 = .ok (.aload_n 0, 1) := by decide +kernel
theorem dX12_keeps_1 : decode cX12_keeps 1 = .ok (.iconst 0, 1) := by decide +kernel
theorem dX12_keeps_2 : decode cX12_keeps 2 = .ok (.putfield 89, 3) := by decide +kernel
theorem dX12_keeps_5 : decode cX12_keeps 5 = .ok (.aload_n 0, 1) := by decide +kernel
theorem dX12_keeps_6 : decode cX12_keeps 6 = .ok (.iconst 0, 1) := by decide +kernel
theorem dX12_keeps_7 : decode cX12_keeps 7 = .ok (.putfield 92, 3) := by decide +kernel
theorem dX12_keeps_10 : decode cX12_keeps 10 = .ok (.aload_n 0, 1) := by decide +kernel
theorem dX12_keeps_11 : decode cX12_keeps 11 = .ok (.iload_n 1, 1) := by decide +kernel
theorem dX12_keeps_12 : decode cX12_keeps 12 = .ok (.invokevirtual 330, 3) := by decide +kernel
theorem dX12_keeps_15 : decode cX12_keeps 15 = .ok (.ifCond .ne 9, 3) := by decide +kernel
theorem dX12_keeps_18 : decode cX12_keeps 18 = .ok (.aload_n 0, 1) := by decide +kernel
theorem dX12_keeps_19 : decode cX12_keeps 19 = .ok (.iconst 2, 1) := by decide +kernel
theorem dX12_keeps_20 : decode cX12_keeps 20 = .ok (.invokevirtual 321, 3) := by decide +kernel
theorem dX12_keeps_23 : decode cX12_keeps 23 = .ok (.ireturn, 1) := by decide +kernel
theorem dX12_keeps_24 : decode cX12_keeps 24 = .ok (.iload_n 2, 1) := by decide +kernel
theorem dX12_keeps_25 : decode cX12_keeps 25 = .ok (.i2l, 1) := by decide +kernel
theorem dX12_keeps_26 : decode cX12_keeps 26 = .ok (.lconst 0, 1) := by decide +kernel
theorem dX12_keeps_27 : decode cX12_keeps 27 = .ok (.ldc2_w 363, 3) := by decide +kernel
theorem dX12_keeps_30 : decode cX12_keeps 30 = .ok (.invokestatic 124, 3) := by decide +kernel
theorem dX12_keeps_33 : decode cX12_keeps 33 = .ok (.ifCond .eq 12, 3) := by decide +kernel
theorem dX12_keeps_36 : decode cX12_keeps 36 = .ok (.aload_n 0, 1) := by decide +kernel
theorem dX12_keeps_37 : decode cX12_keeps 37 = .ok (.iload_n 1, 1) := by decide +kernel
theorem dX12_keeps_38 : decode cX12_keeps 38 = .ok (.iload_n 2, 1) := by decide +kernel
theorem dX12_keeps_39 : decode cX12_keeps 39 = .ok (.invokevirtual 453, 3) := by decide +kernel
theorem dX12_keeps_42 : decode cX12_keeps 42 = .ok (.goto 8, 3) := by decide +kernel
theorem dX12_keeps_45 : decode cX12_keeps 45 = .ok (.aload_n 0, 1) := by decide +kernel
theorem dX12_keeps_46 : decode cX12_keeps 46 = .ok (.iconst 5, 1) := by decide +kernel
theorem dX12_keeps_47 : decode cX12_keeps 47 = .ok (.invokevirtual 321, 3) := by decide +kernel
theorem dX12_keeps_50 : decode cX12_keeps 50 = .ok (.ireturn, 1) := by decide +kernel
theorem dX12_keptBy_0 : decode cX12_keptBy 0 = .ok (.iconst 0, 1) := by decide +kernel
theorem dX12_keptBy_1 : decode cX12_keptBy 1 = .ok (.istore_n 3, 1) := by decide +kernel
theorem dX12_keptBy_2 : decode cX12_keptBy 2 = .ok (.iconst 0, 1) := by decide +kernel
theorem dX12_keptBy_3 : decode cX12_keptBy 3 = .ok (.istore 4, 2) := by decide +kernel
theorem dX12_keptBy_5 : decode cX12_keptBy 5 = .ok (.iload 4, 2) := by decide +kernel
theorem dX12_keptBy_7 : decode cX12_keptBy 7 = .ok (.aload_n 0, 1) := by decide +kernel
theorem dX12_keptBy_8 : decode cX12_keptBy 8 = .ok (.getfield 35, 3) := by decide +kernel
theorem dX12_keptBy_11 : decode cX12_keptBy 11 = .ok (.iconst 2, 1) := by decide +kernel
theorem dX12_keptBy_12 : decode cX12_keptBy 12 = .ok (.iaload, 1) := by decide +kernel
theorem dX12_keptBy_13 : decode cX12_keptBy 13 = .ok (.if_icmp .ge 32, 3) := by decide +kernel
theorem dX12_keptBy_16 : decode cX12_keptBy 16 = .ok (.iload_n 3, 1) := by decide +kernel
theorem dX12_keptBy_17 : decode cX12_keptBy 17 = .ok (.iload_n 1, 1) := by decide +kernel
theorem dX12_keptBy_18 : decode cX12_keptBy 18 = .ok (.iload 4, 2) := by decide +kernel
theorem dX12_keptBy_20 : decode cX12_keptBy 20 = .ok (.invokestatic 402, 3) := by decide +kernel
theorem dX12_keptBy_23 : decode cX12_keptBy 23 = .ok (.ifCond .eq 13, 3) := by decide +kernel
theorem dX12_keptBy_26 : decode cX12_keptBy 26 = .ok (.aload_n 0, 1) := by decide +kernel
theorem dX12_keptBy_27 : decode cX12_keptBy 27 = .ok (.iload 4, 2) := by decide +kernel
theorem dX12_keptBy_29 : decode cX12_keptBy 29 = .ok (.iload_n 2, 1) := by decide +kernel
theorem dX12_keptBy_30 : decode cX12_keptBy 30 = .ok (.invokevirtual 453, 3) := by decide +kernel
theorem dX12_keptBy_33 : decode cX12_keptBy 33 = .ok (.goto 4, 3) := by decide +kernel
theorem dX12_keptBy_36 : decode cX12_keptBy 36 = .ok (.iconst 0, 1) := by decide +kernel
theorem dX12_keptBy_37 : decode cX12_keptBy 37 = .ok (.iadd, 1) := by decide +kernel
theorem dX12_keptBy_38 : decode cX12_keptBy 38 = .ok (.istore_n 3, 1) := by decide +kernel
theorem dX12_keptBy_39 : decode cX12_keptBy 39 = .ok (.iinc 4 1, 3) := by decide +kernel
theorem dX12_keptBy_42 : decode cX12_keptBy 42 = .ok (.goto (-37), 3) := by decide +kernel
theorem dX12_keptBy_45 : decode cX12_keptBy 45 = .ok (.iload_n 3, 1) := by decide +kernel
theorem dX12_keptBy_46 : decode cX12_keptBy 46 = .ok (.ireturn, 1) := by decide +kernel
theorem dX12_costOf_0 : decode cX12_costOf 0 = .ok (.iconst 0, 1) := by decide +kernel
theorem dX12_costOf_1 : decode cX12_costOf 1 = .ok (.istore_n 2, 1) := by decide +kernel
theorem dX12_costOf_2 : decode cX12_costOf 2 = .ok (.iconst 0, 1) := by decide +kernel
theorem dX12_costOf_3 : decode cX12_costOf 3 = .ok (.istore_n 3, 1) := by decide +kernel
theorem dX12_costOf_4 : decode cX12_costOf 4 = .ok (.iload_n 3, 1) := by decide +kernel
theorem dX12_costOf_5 : decode cX12_costOf 5 = .ok (.aload_n 0, 1) := by decide +kernel
theorem dX12_costOf_6 : decode cX12_costOf 6 = .ok (.getfield 35, 3) := by decide +kernel
theorem dX12_costOf_9 : decode cX12_costOf 9 = .ok (.iconst 2, 1) := by decide +kernel
theorem dX12_costOf_10 : decode cX12_costOf 10 = .ok (.iaload, 1) := by decide +kernel
theorem dX12_costOf_11 : decode cX12_costOf 11 = .ok (.if_icmp .ge 34, 3) := by decide +kernel
theorem dX12_costOf_14 : decode cX12_costOf 14 = .ok (.iload_n 2, 1) := by decide +kernel
theorem dX12_costOf_15 : decode cX12_costOf 15 = .ok (.iload_n 1, 1) := by decide +kernel
theorem dX12_costOf_16 : decode cX12_costOf 16 = .ok (.iload_n 3, 1) := by decide +kernel
theorem dX12_costOf_17 : decode cX12_costOf 17 = .ok (.invokestatic 402, 3) := by decide +kernel
theorem dX12_costOf_20 : decode cX12_costOf 20 = .ok (.ifCond .eq 16, 3) := by decide +kernel
theorem dX12_costOf_23 : decode cX12_costOf 23 = .ok (.aload_n 0, 1) := by decide +kernel
theorem dX12_costOf_24 : decode cX12_costOf 24 = .ok (.getfield 35, 3) := by decide +kernel
theorem dX12_costOf_27 : decode cX12_costOf 27 = .ok (.sipush 164, 3) := by decide +kernel
theorem dX12_costOf_30 : decode cX12_costOf 30 = .ok (.iload_n 3, 1) := by decide +kernel
theorem dX12_costOf_31 : decode cX12_costOf 31 = .ok (.iadd, 1) := by decide +kernel
theorem dX12_costOf_32 : decode cX12_costOf 32 = .ok (.iaload, 1) := by decide +kernel
theorem dX12_costOf_33 : decode cX12_costOf 33 = .ok (.goto 4, 3) := by decide +kernel
theorem dX12_costOf_36 : decode cX12_costOf 36 = .ok (.iconst 0, 1) := by decide +kernel
theorem dX12_costOf_37 : decode cX12_costOf 37 = .ok (.iadd, 1) := by decide +kernel
theorem dX12_costOf_38 : decode cX12_costOf 38 = .ok (.istore_n 2, 1) := by decide +kernel
theorem dX12_costOf_39 : decode cX12_costOf 39 = .ok (.iinc 3 1, 3) := by decide +kernel
theorem dX12_costOf_42 : decode cX12_costOf 42 = .ok (.goto (-38), 3) := by decide +kernel
theorem dX12_costOf_45 : decode cX12_costOf 45 = .ok (.iload_n 2, 1) := by decide +kernel
theorem dX12_costOf_46 : decode cX12_costOf 46 = .ok (.ireturn, 1) := by decide +kernel
theorem dX12_fewest_0 : decode cX12_fewest 0 = .ok (.aload_n 0, 1) := by decide +kernel
theorem dX12_fewest_1 : decode cX12_fewest 1 = .ok (.iconst 0, 1) := by decide +kernel
theorem dX12_fewest_2 : decode cX12_fewest 2 = .ok (.putfield 89, 3) := by decide +kernel
theorem dX12_fewest_5 : decode cX12_fewest 5 = .ok (.aload_n 0, 1) := by decide +kernel
theorem dX12_fewest_6 : decode cX12_fewest 6 = .ok (.iconst 0, 1) := by decide +kernel
theorem dX12_fewest_7 : decode cX12_fewest 7 = .ok (.putfield 92, 3) := by decide +kernel
theorem dX12_fewest_10 : decode cX12_fewest 10 = .ok (.aload_n 0, 1) := by decide +kernel
theorem dX12_fewest_11 : decode cX12_fewest 11 = .ok (.iload_n 1, 1) := by decide +kernel
theorem dX12_fewest_12 : decode cX12_fewest 12 = .ok (.invokevirtual 324, 3) := by decide +kernel
theorem dX12_fewest_15 : decode cX12_fewest 15 = .ok (.ifCond .ne 9, 3) := by decide +kernel
theorem dX12_fewest_18 : decode cX12_fewest 18 = .ok (.aload_n 0, 1) := by decide +kernel
theorem dX12_fewest_19 : decode cX12_fewest 19 = .ok (.iconst 2, 1) := by decide +kernel
theorem dX12_fewest_20 : decode cX12_fewest 20 = .ok (.invokevirtual 321, 3) := by decide +kernel
theorem dX12_fewest_23 : decode cX12_fewest 23 = .ok (.ireturn, 1) := by decide +kernel
theorem dX12_fewest_24 : decode cX12_fewest 24 = .ok (.iload_n 2, 1) := by decide +kernel
theorem dX12_fewest_25 : decode cX12_fewest 25 = .ok (.i2l, 1) := by decide +kernel
theorem dX12_fewest_26 : decode cX12_fewest 26 = .ok (.lconst 0, 1) := by decide +kernel
theorem dX12_fewest_27 : decode cX12_fewest 27 = .ok (.ldc2_w 363, 3) := by decide +kernel
theorem dX12_fewest_30 : decode cX12_fewest 30 = .ok (.invokestatic 124, 3) := by decide +kernel
theorem dX12_fewest_33 : decode cX12_fewest 33 = .ok (.ifCond .ne 9, 3) := by decide +kernel
theorem dX12_fewest_36 : decode cX12_fewest 36 = .ok (.aload_n 0, 1) := by decide +kernel
theorem dX12_fewest_37 : decode cX12_fewest 37 = .ok (.iconst 5, 1) := by decide +kernel
theorem dX12_fewest_38 : decode cX12_fewest 38 = .ok (.invokevirtual 321, 3) := by decide +kernel
theorem dX12_fewest_41 : decode cX12_fewest 41 = .ok (.ireturn, 1) := by decide +kernel
theorem dX12_fewest_42 : decode cX12_fewest 42 = .ok (.iconst (-1), 1) := by decide +kernel
theorem dX12_fewest_43 : decode cX12_fewest 43 = .ok (.istore_n 3, 1) := by decide +kernel
theorem dX12_fewest_44 : decode cX12_fewest 44 = .ok (.iconst 0, 1) := by decide +kernel
theorem dX12_fewest_45 : decode cX12_fewest 45 = .ok (.istore 4, 2) := by decide +kernel
theorem dX12_fewest_47 : decode cX12_fewest 47 = .ok (.iload 4, 2) := by decide +kernel
theorem dX12_fewest_49 : decode cX12_fewest 49 = .ok (.iconst 1, 1) := by decide +kernel
theorem dX12_fewest_50 : decode cX12_fewest 50 = .ok (.aload_n 0, 1) := by decide +kernel
theorem dX12_fewest_51 : decode cX12_fewest 51 = .ok (.getfield 35, 3) := by decide +kernel
theorem dX12_fewest_54 : decode cX12_fewest 54 = .ok (.iconst 2, 1) := by decide +kernel
theorem dX12_fewest_55 : decode cX12_fewest 55 = .ok (.iaload, 1) := by decide +kernel
theorem dX12_fewest_56 : decode cX12_fewest 56 = .ok (.ishl, 1) := by decide +kernel
theorem dX12_fewest_57 : decode cX12_fewest 57 = .ok (.if_icmp .ge 46, 3) := by decide +kernel
theorem dX12_fewest_60 : decode cX12_fewest 60 = .ok (.aload_n 0, 1) := by decide +kernel
theorem dX12_fewest_61 : decode cX12_fewest 61 = .ok (.iload 4, 2) := by decide +kernel
theorem dX12_fewest_63 : decode cX12_fewest 63 = .ok (.iload_n 2, 1) := by decide +kernel
theorem dX12_fewest_64 : decode cX12_fewest 64 = .ok (.invokevirtual 456, 3) := by decide +kernel
theorem dX12_fewest_67 : decode cX12_fewest 67 = .ok (.aload_n 0, 1) := by decide +kernel
theorem dX12_fewest_68 : decode cX12_fewest 68 = .ok (.getfield 35, 3) := by decide +kernel
theorem dX12_fewest_71 : decode cX12_fewest 71 = .ok (.iconst 4, 1) := by decide +kernel
theorem dX12_fewest_72 : decode cX12_fewest 72 = .ok (.iload_n 1, 1) := by decide +kernel
theorem dX12_fewest_73 : decode cX12_fewest 73 = .ok (.iadd, 1) := by decide +kernel
theorem dX12_fewest_74 : decode cX12_fewest 74 = .ok (.iaload, 1) := by decide +kernel
theorem dX12_fewest_75 : decode cX12_fewest 75 = .ok (.if_icmp .lt 22, 3) := by decide +kernel
theorem dX12_fewest_78 : decode cX12_fewest 78 = .ok (.iload_n 3, 1) := by decide +kernel
theorem dX12_fewest_79 : decode cX12_fewest 79 = .ok (.ifCond .lt 12, 3) := by decide +kernel
theorem dX12_fewest_82 : decode cX12_fewest 82 = .ok (.iload 4, 2) := by decide +kernel
theorem dX12_fewest_84 : decode cX12_fewest 84 = .ok (.invokestatic 429, 3) := by decide +kernel
theorem dX12_fewest_87 : decode cX12_fewest 87 = .ok (.iload_n 3, 1) := by decide +kernel
theorem dX12_fewest_88 : decode cX12_fewest 88 = .ok (.if_icmp .ge 9, 3) := by decide +kernel
theorem dX12_fewest_91 : decode cX12_fewest 91 = .ok (.iload 4, 2) := by decide +kernel
theorem dX12_fewest_93 : decode cX12_fewest 93 = .ok (.invokestatic 429, 3) := by decide +kernel
theorem dX12_fewest_96 : decode cX12_fewest 96 = .ok (.istore_n 3, 1) := by decide +kernel
theorem dX12_fewest_97 : decode cX12_fewest 97 = .ok (.iinc 4 1, 3) := by decide +kernel
theorem dX12_fewest_100 : decode cX12_fewest 100 = .ok (.goto (-53), 3) := by decide +kernel
theorem dX12_fewest_103 : decode cX12_fewest 103 = .ok (.iload_n 3, 1) := by decide +kernel
theorem dX12_fewest_104 : decode cX12_fewest 104 = .ok (.ifCond .ge 12, 3) := by decide +kernel
theorem dX12_fewest_107 : decode cX12_fewest 107 = .ok (.aload_n 0, 1) := by decide +kernel
theorem dX12_fewest_108 : decode cX12_fewest 108 = .ok (.bipush 9, 2) := by decide +kernel
theorem dX12_fewest_110 : decode cX12_fewest 110 = .ok (.invokevirtual 321, 3) := by decide +kernel
theorem dX12_fewest_113 : decode cX12_fewest 113 = .ok (.goto 4, 3) := by decide +kernel
theorem dX12_fewest_116 : decode cX12_fewest 116 = .ok (.iload_n 3, 1) := by decide +kernel
theorem dX12_fewest_117 : decode cX12_fewest 117 = .ok (.ireturn, 1) := by decide +kernel
theorem dX12_cheapest_0 : decode cX12_cheapest 0 = .ok (.aload_n 0, 1) := by decide +kernel
theorem dX12_cheapest_1 : decode cX12_cheapest 1 = .ok (.iconst 0, 1) := by decide +kernel
theorem dX12_cheapest_2 : decode cX12_cheapest 2 = .ok (.putfield 89, 3) := by decide +kernel
theorem dX12_cheapest_5 : decode cX12_cheapest 5 = .ok (.aload_n 0, 1) := by decide +kernel
theorem dX12_cheapest_6 : decode cX12_cheapest 6 = .ok (.iconst 0, 1) := by decide +kernel
theorem dX12_cheapest_7 : decode cX12_cheapest 7 = .ok (.putfield 92, 3) := by decide +kernel
theorem dX12_cheapest_10 : decode cX12_cheapest 10 = .ok (.aload_n 0, 1) := by decide +kernel
theorem dX12_cheapest_11 : decode cX12_cheapest 11 = .ok (.iload_n 1, 1) := by decide +kernel
theorem dX12_cheapest_12 : decode cX12_cheapest 12 = .ok (.invokevirtual 324, 3) := by decide +kernel
theorem dX12_cheapest_15 : decode cX12_cheapest 15 = .ok (.ifCond .ne 9, 3) := by decide +kernel
theorem dX12_cheapest_18 : decode cX12_cheapest 18 = .ok (.aload_n 0, 1) := by decide +kernel
theorem dX12_cheapest_19 : decode cX12_cheapest 19 = .ok (.iconst 2, 1) := by decide +kernel
theorem dX12_cheapest_20 : decode cX12_cheapest 20 = .ok (.invokevirtual 321, 3) := by decide +kernel
theorem dX12_cheapest_23 : decode cX12_cheapest 23 = .ok (.ireturn, 1) := by decide +kernel
theorem dX12_cheapest_24 : decode cX12_cheapest 24 = .ok (.iload_n 2, 1) := by decide +kernel
theorem dX12_cheapest_25 : decode cX12_cheapest 25 = .ok (.i2l, 1) := by decide +kernel
theorem dX12_cheapest_26 : decode cX12_cheapest 26 = .ok (.lconst 0, 1) := by decide +kernel
theorem dX12_cheapest_27 : decode cX12_cheapest 27 = .ok (.ldc2_w 363, 3) := by decide +kernel
theorem dX12_cheapest_30 : decode cX12_cheapest 30 = .ok (.invokestatic 124, 3) := by decide +kernel
theorem dX12_cheapest_33 : decode cX12_cheapest 33 = .ok (.ifCond .eq 13, 3) := by decide +kernel
theorem dX12_cheapest_36 : decode cX12_cheapest 36 = .ok (.iload_n 3, 1) := by decide +kernel
theorem dX12_cheapest_37 : decode cX12_cheapest 37 = .ok (.i2l, 1) := by decide +kernel
theorem dX12_cheapest_38 : decode cX12_cheapest 38 = .ok (.lconst 0, 1) := by decide +kernel
theorem dX12_cheapest_39 : decode cX12_cheapest 39 = .ok (.lconst 1, 1) := by decide +kernel
theorem dX12_cheapest_40 : decode cX12_cheapest 40 = .ok (.invokestatic 124, 3) := by decide +kernel
theorem dX12_cheapest_43 : decode cX12_cheapest 43 = .ok (.ifCond .ne 9, 3) := by decide +kernel
theorem dX12_cheapest_46 : decode cX12_cheapest 46 = .ok (.aload_n 0, 1) := by decide +kernel
theorem dX12_cheapest_47 : decode cX12_cheapest 47 = .ok (.iconst 5, 1) := by decide +kernel
theorem dX12_cheapest_48 : decode cX12_cheapest 48 = .ok (.invokevirtual 321, 3) := by decide +kernel
theorem dX12_cheapest_51 : decode cX12_cheapest 51 = .ok (.ireturn, 1) := by decide +kernel
theorem dX12_cheapest_52 : decode cX12_cheapest 52 = .ok (.iconst (-1), 1) := by decide +kernel
theorem dX12_cheapest_53 : decode cX12_cheapest 53 = .ok (.istore 4, 2) := by decide +kernel
theorem dX12_cheapest_55 : decode cX12_cheapest 55 = .ok (.iconst 0, 1) := by decide +kernel
theorem dX12_cheapest_56 : decode cX12_cheapest 56 = .ok (.istore 5, 2) := by decide +kernel
theorem dX12_cheapest_58 : decode cX12_cheapest 58 = .ok (.iload 5, 2) := by decide +kernel
theorem dX12_cheapest_60 : decode cX12_cheapest 60 = .ok (.iconst 1, 1) := by decide +kernel
theorem dX12_cheapest_61 : decode cX12_cheapest 61 = .ok (.aload_n 0, 1) := by decide +kernel
theorem dX12_cheapest_62 : decode cX12_cheapest 62 = .ok (.getfield 35, 3) := by decide +kernel
theorem dX12_cheapest_65 : decode cX12_cheapest 65 = .ok (.iconst 2, 1) := by decide +kernel
theorem dX12_cheapest_66 : decode cX12_cheapest 66 = .ok (.iaload, 1) := by decide +kernel
theorem dX12_cheapest_67 : decode cX12_cheapest 67 = .ok (.ishl, 1) := by decide +kernel
theorem dX12_cheapest_68 : decode cX12_cheapest 68 = .ok (.if_icmp .ge 51, 3) := by decide +kernel
theorem dX12_cheapest_71 : decode cX12_cheapest 71 = .ok (.aload_n 0, 1) := by decide +kernel
theorem dX12_cheapest_72 : decode cX12_cheapest 72 = .ok (.iload 5, 2) := by decide +kernel
theorem dX12_cheapest_74 : decode cX12_cheapest 74 = .ok (.iload_n 2, 1) := by decide +kernel
theorem dX12_cheapest_75 : decode cX12_cheapest 75 = .ok (.invokevirtual 456, 3) := by decide +kernel
theorem dX12_cheapest_78 : decode cX12_cheapest 78 = .ok (.aload_n 0, 1) := by decide +kernel
theorem dX12_cheapest_79 : decode cX12_cheapest 79 = .ok (.getfield 35, 3) := by decide +kernel
theorem dX12_cheapest_82 : decode cX12_cheapest 82 = .ok (.iconst 4, 1) := by decide +kernel
theorem dX12_cheapest_83 : decode cX12_cheapest 83 = .ok (.iload_n 1, 1) := by decide +kernel
theorem dX12_cheapest_84 : decode cX12_cheapest 84 = .ok (.iadd, 1) := by decide +kernel
theorem dX12_cheapest_85 : decode cX12_cheapest 85 = .ok (.iaload, 1) := by decide +kernel
theorem dX12_cheapest_86 : decode cX12_cheapest 86 = .ok (.if_icmp .lt 27, 3) := by decide +kernel
theorem dX12_cheapest_89 : decode cX12_cheapest 89 = .ok (.iload 4, 2) := by decide +kernel
theorem dX12_cheapest_91 : decode cX12_cheapest 91 = .ok (.ifCond .lt 18, 3) := by decide +kernel
theorem dX12_cheapest_94 : decode cX12_cheapest 94 = .ok (.aload_n 0, 1) := by decide +kernel
theorem dX12_cheapest_95 : decode cX12_cheapest 95 = .ok (.iload 5, 2) := by decide +kernel
theorem dX12_cheapest_97 : decode cX12_cheapest 97 = .ok (.invokevirtual 459, 3) := by decide +kernel
theorem dX12_cheapest_100 : decode cX12_cheapest 100 = .ok (.aload_n 0, 1) := by decide +kernel
theorem dX12_cheapest_101 : decode cX12_cheapest 101 = .ok (.iload 4, 2) := by decide +kernel
theorem dX12_cheapest_103 : decode cX12_cheapest 103 = .ok (.invokevirtual 459, 3) := by decide +kernel
theorem dX12_cheapest_106 : decode cX12_cheapest 106 = .ok (.if_icmp .ge 7, 3) := by decide +kernel
theorem dX12_cheapest_109 : decode cX12_cheapest 109 = .ok (.iload 5, 2) := by decide +kernel
theorem dX12_cheapest_111 : decode cX12_cheapest 111 = .ok (.istore 4, 2) := by decide +kernel
theorem dX12_cheapest_113 : decode cX12_cheapest 113 = .ok (.iinc 5 1, 3) := by decide +kernel
theorem dX12_cheapest_116 : decode cX12_cheapest 116 = .ok (.goto (-58), 3) := by decide +kernel
theorem dX12_cheapest_119 : decode cX12_cheapest 119 = .ok (.iload 4, 2) := by decide +kernel
theorem dX12_cheapest_121 : decode cX12_cheapest 121 = .ok (.ifCond .ge 12, 3) := by decide +kernel
theorem dX12_cheapest_124 : decode cX12_cheapest 124 = .ok (.aload_n 0, 1) := by decide +kernel
theorem dX12_cheapest_125 : decode cX12_cheapest 125 = .ok (.bipush 9, 2) := by decide +kernel
theorem dX12_cheapest_127 : decode cX12_cheapest 127 = .ok (.invokevirtual 321, 3) := by decide +kernel
theorem dX12_cheapest_130 : decode cX12_cheapest 130 = .ok (.goto 18, 3) := by decide +kernel
theorem dX12_cheapest_133 : decode cX12_cheapest 133 = .ok (.iload_n 3, 1) := by decide +kernel
theorem dX12_cheapest_134 : decode cX12_cheapest 134 = .ok (.ifCond .ne 12, 3) := by decide +kernel
theorem dX12_cheapest_137 : decode cX12_cheapest 137 = .ok (.aload_n 0, 1) := by decide +kernel
theorem dX12_cheapest_138 : decode cX12_cheapest 138 = .ok (.iload 4, 2) := by decide +kernel
theorem dX12_cheapest_140 : decode cX12_cheapest 140 = .ok (.invokevirtual 459, 3) := by decide +kernel
theorem dX12_cheapest_143 : decode cX12_cheapest 143 = .ok (.goto 5, 3) := by decide +kernel
theorem dX12_cheapest_146 : decode cX12_cheapest 146 = .ok (.iload 4, 2) := by decide +kernel
theorem dX12_cheapest_148 : decode cX12_cheapest 148 = .ok (.ireturn, 1) := by decide +kernel
theorem dX12_fillFrom_0 : decode cX12_fillFrom 0 = .ok (.aload_n 0, 1) := by decide +kernel
theorem dX12_fillFrom_1 : decode cX12_fillFrom 1 = .ok (.iconst 0, 1) := by decide +kernel
theorem dX12_fillFrom_2 : decode cX12_fillFrom 2 = .ok (.putfield 89, 3) := by decide +kernel
theorem dX12_fillFrom_5 : decode cX12_fillFrom 5 = .ok (.aload_n 0, 1) := by decide +kernel
theorem dX12_fillFrom_6 : decode cX12_fillFrom 6 = .ok (.iconst 0, 1) := by decide +kernel
theorem dX12_fillFrom_7 : decode cX12_fillFrom 7 = .ok (.putfield 92, 3) := by decide +kernel
theorem dX12_fillFrom_10 : decode cX12_fillFrom 10 = .ok (.aload_n 0, 1) := by decide +kernel
theorem dX12_fillFrom_11 : decode cX12_fillFrom 11 = .ok (.iload_n 1, 1) := by decide +kernel
theorem dX12_fillFrom_12 : decode cX12_fillFrom 12 = .ok (.invokevirtual 330, 3) := by decide +kernel
theorem dX12_fillFrom_15 : decode cX12_fillFrom 15 = .ok (.ifCond .eq 11, 3) := by decide +kernel
theorem dX12_fillFrom_18 : decode cX12_fillFrom 18 = .ok (.aload_n 0, 1) := by decide +kernel
theorem dX12_fillFrom_19 : decode cX12_fillFrom 19 = .ok (.iload_n 2, 1) := by decide +kernel
theorem dX12_fillFrom_20 : decode cX12_fillFrom 20 = .ok (.invokevirtual 324, 3) := by decide +kernel
theorem dX12_fillFrom_23 : decode cX12_fillFrom 23 = .ok (.ifCond .ne 9, 3) := by decide +kernel
theorem dX12_fillFrom_26 : decode cX12_fillFrom 26 = .ok (.aload_n 0, 1) := by decide +kernel
theorem dX12_fillFrom_27 : decode cX12_fillFrom 27 = .ok (.iconst 2, 1) := by decide +kernel
theorem dX12_fillFrom_28 : decode cX12_fillFrom 28 = .ok (.invokevirtual 321, 3) := by decide +kernel
theorem dX12_fillFrom_31 : decode cX12_fillFrom 31 = .ok (.ireturn, 1) := by decide +kernel
theorem dX12_fillFrom_32 : decode cX12_fillFrom 32 = .ok (.iload_n 3, 1) := by decide +kernel
theorem dX12_fillFrom_33 : decode cX12_fillFrom 33 = .ok (.i2l, 1) := by decide +kernel
theorem dX12_fillFrom_34 : decode cX12_fillFrom 34 = .ok (.lconst 0, 1) := by decide +kernel
theorem dX12_fillFrom_35 : decode cX12_fillFrom 35 = .ok (.ldc2_w 363, 3) := by decide +kernel
theorem dX12_fillFrom_38 : decode cX12_fillFrom 38 = .ok (.invokestatic 124, 3) := by decide +kernel
theorem dX12_fillFrom_41 : decode cX12_fillFrom 41 = .ok (.ifCond .ne 9, 3) := by decide +kernel
theorem dX12_fillFrom_44 : decode cX12_fillFrom 44 = .ok (.aload_n 0, 1) := by decide +kernel
theorem dX12_fillFrom_45 : decode cX12_fillFrom 45 = .ok (.iconst 5, 1) := by decide +kernel
theorem dX12_fillFrom_46 : decode cX12_fillFrom 46 = .ok (.invokevirtual 321, 3) := by decide +kernel
theorem dX12_fillFrom_49 : decode cX12_fillFrom 49 = .ok (.ireturn, 1) := by decide +kernel
theorem dX12_fillFrom_50 : decode cX12_fillFrom 50 = .ok (.iconst (-1), 1) := by decide +kernel
theorem dX12_fillFrom_51 : decode cX12_fillFrom 51 = .ok (.istore 4, 2) := by decide +kernel
theorem dX12_fillFrom_53 : decode cX12_fillFrom 53 = .ok (.iconst 0, 1) := by decide +kernel
theorem dX12_fillFrom_54 : decode cX12_fillFrom 54 = .ok (.istore 5, 2) := by decide +kernel
theorem dX12_fillFrom_56 : decode cX12_fillFrom 56 = .ok (.iconst 0, 1) := by decide +kernel
theorem dX12_fillFrom_57 : decode cX12_fillFrom 57 = .ok (.istore 6, 2) := by decide +kernel
theorem dX12_fillFrom_59 : decode cX12_fillFrom 59 = .ok (.iload 6, 2) := by decide +kernel
theorem dX12_fillFrom_61 : decode cX12_fillFrom 61 = .ok (.aload_n 0, 1) := by decide +kernel
theorem dX12_fillFrom_62 : decode cX12_fillFrom 62 = .ok (.getfield 35, 3) := by decide +kernel
theorem dX12_fillFrom_65 : decode cX12_fillFrom 65 = .ok (.iconst 4, 1) := by decide +kernel
theorem dX12_fillFrom_66 : decode cX12_fillFrom 66 = .ok (.iload_n 2, 1) := by decide +kernel
theorem dX12_fillFrom_67 : decode cX12_fillFrom 67 = .ok (.iadd, 1) := by decide +kernel
theorem dX12_fillFrom_68 : decode cX12_fillFrom 68 = .ok (.iaload, 1) := by decide +kernel
theorem dX12_fillFrom_69 : decode cX12_fillFrom 69 = .ok (.if_icmp .ge 219, 3) := by decide +kernel
theorem dX12_fillFrom_72 : decode cX12_fillFrom 72 = .ok (.aload_n 0, 1) := by decide +kernel
theorem dX12_fillFrom_73 : decode cX12_fillFrom 73 = .ok (.getfield 35, 3) := by decide +kernel
theorem dX12_fillFrom_76 : decode cX12_fillFrom 76 = .ok (.sipush 140, 3) := by decide +kernel
theorem dX12_fillFrom_79 : decode cX12_fillFrom 79 = .ok (.iload_n 1, 1) := by decide +kernel
theorem dX12_fillFrom_80 : decode cX12_fillFrom 80 = .ok (.iadd, 1) := by decide +kernel
theorem dX12_fillFrom_81 : decode cX12_fillFrom 81 = .ok (.iaload, 1) := by decide +kernel
theorem dX12_fillFrom_82 : decode cX12_fillFrom 82 = .ok (.aload_n 0, 1) := by decide +kernel
theorem dX12_fillFrom_83 : decode cX12_fillFrom 83 = .ok (.getfield 35, 3) := by decide +kernel
theorem dX12_fillFrom_86 : decode cX12_fillFrom 86 = .ok (.iconst 4, 1) := by decide +kernel
theorem dX12_fillFrom_87 : decode cX12_fillFrom 87 = .ok (.iload_n 2, 1) := by decide +kernel
theorem dX12_fillFrom_88 : decode cX12_fillFrom 88 = .ok (.iadd, 1) := by decide +kernel
theorem dX12_fillFrom_89 : decode cX12_fillFrom 89 = .ok (.iaload, 1) := by decide +kernel
theorem dX12_fillFrom_90 : decode cX12_fillFrom 90 = .ok (.iload 6, 2) := by decide +kernel
theorem dX12_fillFrom_92 : decode cX12_fillFrom 92 = .ok (.isub, 1) := by decide +kernel
theorem dX12_fillFrom_93 : decode cX12_fillFrom 93 = .ok (.invokestatic 283, 3) := by decide +kernel
theorem dX12_fillFrom_96 : decode cX12_fillFrom 96 = .ok (.istore 7, 2) := by decide +kernel
theorem dX12_fillFrom_98 : decode cX12_fillFrom 98 = .ok (.aload_n 0, 1) := by decide +kernel
theorem dX12_fillFrom_99 : decode cX12_fillFrom 99 = .ok (.iload_n 1, 1) := by decide +kernel
theorem dX12_fillFrom_100 : decode cX12_fillFrom 100 = .ok (.iload 7, 2) := by decide +kernel
theorem dX12_fillFrom_102 : decode cX12_fillFrom 102 = .ok (.iload_n 3, 1) := by decide +kernel
theorem dX12_fillFrom_103 : decode cX12_fillFrom 103 = .ok (.invokevirtual 335, 3) := by decide +kernel
theorem dX12_fillFrom_106 : decode cX12_fillFrom 106 = .ok (.istore 8, 2) := by decide +kernel
theorem dX12_fillFrom_108 : decode cX12_fillFrom 108 = .ok (.iload 6, 2) := by decide +kernel
theorem dX12_fillFrom_110 : decode cX12_fillFrom 110 = .ok (.aload_n 0, 1) := by decide +kernel
theorem dX12_fillFrom_111 : decode cX12_fillFrom 111 = .ok (.iload_n 1, 1) := by decide +kernel
theorem dX12_fillFrom_112 : decode cX12_fillFrom 112 = .ok (.iload 8, 2) := by decide +kernel
theorem dX12_fillFrom_114 : decode cX12_fillFrom 114 = .ok (.invokevirtual 345, 3) := by decide +kernel
theorem dX12_fillFrom_117 : decode cX12_fillFrom 117 = .ok (.iadd, 1) := by decide +kernel
theorem dX12_fillFrom_118 : decode cX12_fillFrom 118 = .ok (.istore 9, 2) := by decide +kernel
theorem dX12_fillFrom_120 : decode cX12_fillFrom 120 = .ok (.iconst 0, 1) := by decide +kernel
theorem dX12_fillFrom_121 : decode cX12_fillFrom 121 = .ok (.istore 10, 2) := by decide +kernel
theorem dX12_fillFrom_123 : decode cX12_fillFrom 123 = .ok (.iconst 0, 1) := by decide +kernel
theorem dX12_fillFrom_124 : decode cX12_fillFrom 124 = .ok (.istore 11, 2) := by decide +kernel
theorem dX12_fillFrom_126 : decode cX12_fillFrom 126 = .ok (.iload 11, 2) := by decide +kernel
theorem dX12_fillFrom_128 : decode cX12_fillFrom 128 = .ok (.aload_n 0, 1) := by decide +kernel
theorem dX12_fillFrom_129 : decode cX12_fillFrom 129 = .ok (.getfield 35, 3) := by decide +kernel
theorem dX12_fillFrom_132 : decode cX12_fillFrom 132 = .ok (.iconst 1, 1) := by decide +kernel
theorem dX12_fillFrom_133 : decode cX12_fillFrom 133 = .ok (.iaload, 1) := by decide +kernel
theorem dX12_fillFrom_134 : decode cX12_fillFrom 134 = .ok (.if_icmp .ge 118, 3) := by decide +kernel
theorem dX12_fillFrom_137 : decode cX12_fillFrom 137 = .ok (.iload 8, 2) := by decide +kernel
theorem dX12_fillFrom_139 : decode cX12_fillFrom 139 = .ok (.iload 7, 2) := by decide +kernel
theorem dX12_fillFrom_141 : decode cX12_fillFrom 141 = .ok (.if_icmp .ge 111, 3) := by decide +kernel
theorem dX12_fillFrom_144 : decode cX12_fillFrom 144 = .ok (.iconst 0, 1) := by decide +kernel
theorem dX12_fillFrom_145 : decode cX12_fillFrom 145 = .ok (.istore 12, 2) := by decide +kernel
theorem dX12_fillFrom_147 : decode cX12_fillFrom 147 = .ok (.iload 12, 2) := by decide +kernel
theorem dX12_fillFrom_149 : decode cX12_fillFrom 149 = .ok (.iload 7, 2) := by decide +kernel
theorem dX12_fillFrom_151 : decode cX12_fillFrom 151 = .ok (.iadd, 1) := by decide +kernel
theorem dX12_fillFrom_152 : decode cX12_fillFrom 152 = .ok (.iload 8, 2) := by decide +kernel
theorem dX12_fillFrom_154 : decode cX12_fillFrom 154 = .ok (.isub, 1) := by decide +kernel
theorem dX12_fillFrom_155 : decode cX12_fillFrom 155 = .ok (.aload_n 0, 1) := by decide +kernel
theorem dX12_fillFrom_156 : decode cX12_fillFrom 156 = .ok (.getfield 35, 3) := by decide +kernel
theorem dX12_fillFrom_159 : decode cX12_fillFrom 159 = .ok (.iconst 4, 1) := by decide +kernel
theorem dX12_fillFrom_160 : decode cX12_fillFrom 160 = .ok (.iload 11, 2) := by decide +kernel
theorem dX12_fillFrom_162 : decode cX12_fillFrom 162 = .ok (.iadd, 1) := by decide +kernel
theorem dX12_fillFrom_163 : decode cX12_fillFrom 163 = .ok (.iaload, 1) := by decide +kernel
theorem dX12_fillFrom_164 : decode cX12_fillFrom 164 = .ok (.if_icmp .gt 82, 3) := by decide +kernel
theorem dX12_fillFrom_167 : decode cX12_fillFrom 167 = .ok (.iconst 1, 1) := by decide +kernel
theorem dX12_fillFrom_168 : decode cX12_fillFrom 168 = .ok (.istore 13, 2) := by decide +kernel
theorem dX12_fillFrom_170 : decode cX12_fillFrom 170 = .ok (.iconst 0, 1) := by decide +kernel
theorem dX12_fillFrom_171 : decode cX12_fillFrom 171 = .ok (.istore 14, 2) := by decide +kernel
theorem dX12_fillFrom_173 : decode cX12_fillFrom 173 = .ok (.iload 14, 2) := by decide +kernel
theorem dX12_fillFrom_175 : decode cX12_fillFrom 175 = .ok (.iload 7, 2) := by decide +kernel
theorem dX12_fillFrom_177 : decode cX12_fillFrom 177 = .ok (.iload 8, 2) := by decide +kernel
theorem dX12_fillFrom_179 : decode cX12_fillFrom 179 = .ok (.isub, 1) := by decide +kernel
theorem dX12_fillFrom_180 : decode cX12_fillFrom 180 = .ok (.if_icmp .ge 45, 3) := by decide +kernel
theorem dX12_fillFrom_183 : decode cX12_fillFrom 183 = .ok (.iload 13, 2) := by decide +kernel
theorem dX12_fillFrom_185 : decode cX12_fillFrom 185 = .ok (.ifCond .eq 40, 3) := by decide +kernel
theorem dX12_fillFrom_188 : decode cX12_fillFrom 188 = .ok (.aload_n 0, 1) := by decide +kernel
theorem dX12_fillFrom_189 : decode cX12_fillFrom 189 = .ok (.iload_n 2, 1) := by decide +kernel
theorem dX12_fillFrom_190 : decode cX12_fillFrom 190 = .ok (.iload 9, 2) := by decide +kernel
theorem dX12_fillFrom_192 : decode cX12_fillFrom 192 = .ok (.iload 14, 2) := by decide +kernel
theorem dX12_fillFrom_194 : decode cX12_fillFrom 194 = .ok (.iadd, 1) := by decide +kernel
theorem dX12_fillFrom_195 : decode cX12_fillFrom 195 = .ok (.invokevirtual 327, 3) := by decide +kernel
theorem dX12_fillFrom_198 : decode cX12_fillFrom 198 = .ok (.aload_n 0, 1) := by decide +kernel
theorem dX12_fillFrom_199 : decode cX12_fillFrom 199 = .ok (.iload 11, 2) := by decide +kernel
theorem dX12_fillFrom_201 : decode cX12_fillFrom 201 = .ok (.iload 12, 2) := by decide +kernel
theorem dX12_fillFrom_203 : decode cX12_fillFrom 203 = .ok (.iload 14, 2) := by decide +kernel
theorem dX12_fillFrom_205 : decode cX12_fillFrom 205 = .ok (.iadd, 1) := by decide +kernel
theorem dX12_fillFrom_206 : decode cX12_fillFrom 206 = .ok (.invokevirtual 327, 3) := by decide +kernel
theorem dX12_fillFrom_209 : decode cX12_fillFrom 209 = .ok (.if_icmp .ne 7, 3) := by decide +kernel
theorem dX12_fillFrom_212 : decode cX12_fillFrom 212 = .ok (.iconst 1, 1) := by decide +kernel
theorem dX12_fillFrom_213 : decode cX12_fillFrom 213 = .ok (.goto 4, 3) := by decide +kernel
theorem dX12_fillFrom_216 : decode cX12_fillFrom 216 = .ok (.iconst 0, 1) := by decide +kernel
theorem dX12_fillFrom_217 : decode cX12_fillFrom 217 = .ok (.istore 13, 2) := by decide +kernel
theorem dX12_fillFrom_219 : decode cX12_fillFrom 219 = .ok (.iinc 14 1, 3) := by decide +kernel
theorem dX12_fillFrom_222 : decode cX12_fillFrom 222 = .ok (.goto (-49), 3) := by decide +kernel
theorem dX12_fillFrom_225 : decode cX12_fillFrom 225 = .ok (.iload 10, 2) := by decide +kernel
theorem dX12_fillFrom_227 : decode cX12_fillFrom 227 = .ok (.iload 13, 2) := by decide +kernel
theorem dX12_fillFrom_229 : decode cX12_fillFrom 229 = .ok (.ifCond .eq 7, 3) := by decide +kernel
theorem dX12_fillFrom_232 : decode cX12_fillFrom 232 = .ok (.iconst 1, 1) := by decide +kernel
theorem dX12_fillFrom_233 : decode cX12_fillFrom 233 = .ok (.goto 4, 3) := by decide +kernel
theorem dX12_fillFrom_236 : decode cX12_fillFrom 236 = .ok (.iconst 0, 1) := by decide +kernel
theorem dX12_fillFrom_237 : decode cX12_fillFrom 237 = .ok (.iadd, 1) := by decide +kernel
theorem dX12_fillFrom_238 : decode cX12_fillFrom 238 = .ok (.istore 10, 2) := by decide +kernel
theorem dX12_fillFrom_240 : decode cX12_fillFrom 240 = .ok (.iinc 12 1, 3) := by decide +kernel
theorem dX12_fillFrom_243 : decode cX12_fillFrom 243 = .ok (.goto (-96), 3) := by decide +kernel
theorem dX12_fillFrom_246 : decode cX12_fillFrom 246 = .ok (.iinc 11 1, 3) := by decide +kernel
theorem dX12_fillFrom_249 : decode cX12_fillFrom 249 = .ok (.goto (-123), 3) := by decide +kernel
theorem dX12_fillFrom_252 : decode cX12_fillFrom 252 = .ok (.iload 8, 2) := by decide +kernel
theorem dX12_fillFrom_254 : decode cX12_fillFrom 254 = .ok (.iload 7, 2) := by decide +kernel
theorem dX12_fillFrom_256 : decode cX12_fillFrom 256 = .ok (.if_icmp .eq 26, 3) := by decide +kernel
theorem dX12_fillFrom_259 : decode cX12_fillFrom 259 = .ok (.iload 4, 2) := by decide +kernel
theorem dX12_fillFrom_261 : decode cX12_fillFrom 261 = .ok (.ifCond .lt 13, 3) := by decide +kernel
theorem dX12_fillFrom_264 : decode cX12_fillFrom 264 = .ok (.iload 10, 2) := by decide +kernel
theorem dX12_fillFrom_266 : decode cX12_fillFrom 266 = .ok (.iload 5, 2) := by decide +kernel
theorem dX12_fillFrom_268 : decode cX12_fillFrom 268 = .ok (.if_icmp .lt 6, 3) := by decide +kernel
theorem dX12_fillFrom_271 : decode cX12_fillFrom 271 = .ok (.goto 11, 3) := by decide +kernel
theorem dX12_fillFrom_274 : decode cX12_fillFrom 274 = .ok (.iload 6, 2) := by decide +kernel
theorem dX12_fillFrom_276 : decode cX12_fillFrom 276 = .ok (.istore 4, 2) := by decide +kernel
theorem dX12_fillFrom_278 : decode cX12_fillFrom 278 = .ok (.iload 10, 2) := by decide +kernel
theorem dX12_fillFrom_280 : decode cX12_fillFrom 280 = .ok (.istore 5, 2) := by decide +kernel
theorem dX12_fillFrom_282 : decode cX12_fillFrom 282 = .ok (.iinc 6 1, 3) := by decide +kernel
theorem dX12_fillFrom_285 : decode cX12_fillFrom 285 = .ok (.goto (-226), 3) := by decide +kernel
theorem dX12_fillFrom_288 : decode cX12_fillFrom 288 = .ok (.iload 4, 2) := by decide +kernel
theorem dX12_fillFrom_290 : decode cX12_fillFrom 290 = .ok (.ifCond .ge 12, 3) := by decide +kernel
theorem dX12_fillFrom_293 : decode cX12_fillFrom 293 = .ok (.aload_n 0, 1) := by decide +kernel
theorem dX12_fillFrom_294 : decode cX12_fillFrom 294 = .ok (.bipush 8, 2) := by decide +kernel
theorem dX12_fillFrom_296 : decode cX12_fillFrom 296 = .ok (.invokevirtual 321, 3) := by decide +kernel
theorem dX12_fillFrom_299 : decode cX12_fillFrom 299 = .ok (.goto 5, 3) := by decide +kernel
theorem dX12_fillFrom_302 : decode cX12_fillFrom 302 = .ok (.iload 4, 2) := by decide +kernel
theorem dX12_fillFrom_304 : decode cX12_fillFrom 304 = .ok (.ireturn, 1) := by decide +kernel
theorem dX12_worthOn_0 : decode cX12_worthOn 0 = .ok (.aload_n 0, 1) := by decide +kernel
theorem dX12_worthOn_1 : decode cX12_worthOn 1 = .ok (.getfield 35, 3) := by decide +kernel
theorem dX12_worthOn_4 : decode cX12_worthOn 4 = .ok (.sipush 172, 3) := by decide +kernel
theorem dX12_worthOn_7 : decode cX12_worthOn 7 = .ok (.iload_n 1, 1) := by decide +kernel
theorem dX12_worthOn_8 : decode cX12_worthOn 8 = .ok (.iadd, 1) := by decide +kernel
theorem dX12_worthOn_9 : decode cX12_worthOn 9 = .ok (.iaload, 1) := by decide +kernel
theorem dX12_worthOn_10 : decode cX12_worthOn 10 = .ok (.aload_n 0, 1) := by decide +kernel
theorem dX12_worthOn_11 : decode cX12_worthOn 11 = .ok (.iload_n 1, 1) := by decide +kernel
theorem dX12_worthOn_12 : decode cX12_worthOn 12 = .ok (.iload_n 2, 1) := by decide +kernel
theorem dX12_worthOn_13 : decode cX12_worthOn 13 = .ok (.invokevirtual 339, 3) := by decide +kernel
theorem dX12_worthOn_16 : decode cX12_worthOn 16 = .ok (.imul, 1) := by decide +kernel
theorem dX12_worthOn_17 : decode cX12_worthOn 17 = .ok (.ireturn, 1) := by decide +kernel
theorem dX12_shelf_0 : decode cX12_shelf 0 = .ok (.aload_n 0, 1) := by decide +kernel
theorem dX12_shelf_1 : decode cX12_shelf 1 = .ok (.iconst 0, 1) := by decide +kernel
theorem dX12_shelf_2 : decode cX12_shelf 2 = .ok (.putfield 89, 3) := by decide +kernel
theorem dX12_shelf_5 : decode cX12_shelf 5 = .ok (.aload_n 0, 1) := by decide +kernel
theorem dX12_shelf_6 : decode cX12_shelf 6 = .ok (.iconst 0, 1) := by decide +kernel
theorem dX12_shelf_7 : decode cX12_shelf 7 = .ok (.putfield 92, 3) := by decide +kernel
theorem dX12_shelf_10 : decode cX12_shelf 10 = .ok (.iconst 0, 1) := by decide +kernel
theorem dX12_shelf_11 : decode cX12_shelf 11 = .ok (.istore_n 1, 1) := by decide +kernel
theorem dX12_shelf_12 : decode cX12_shelf 12 = .ok (.iconst 0, 1) := by decide +kernel
theorem dX12_shelf_13 : decode cX12_shelf 13 = .ok (.istore_n 2, 1) := by decide +kernel
theorem dX12_shelf_14 : decode cX12_shelf 14 = .ok (.iload_n 2, 1) := by decide +kernel
theorem dX12_shelf_15 : decode cX12_shelf 15 = .ok (.aload_n 0, 1) := by decide +kernel
theorem dX12_shelf_16 : decode cX12_shelf 16 = .ok (.getfield 35, 3) := by decide +kernel
theorem dX12_shelf_19 : decode cX12_shelf 19 = .ok (.iconst 2, 1) := by decide +kernel
theorem dX12_shelf_20 : decode cX12_shelf 20 = .ok (.iaload, 1) := by decide +kernel
theorem dX12_shelf_21 : decode cX12_shelf 21 = .ok (.if_icmp .ge 32, 3) := by decide +kernel
theorem dX12_shelf_24 : decode cX12_shelf 24 = .ok (.iload_n 1, 1) := by decide +kernel
theorem dX12_shelf_25 : decode cX12_shelf 25 = .ok (.aload_n 0, 1) := by decide +kernel
theorem dX12_shelf_26 : decode cX12_shelf 26 = .ok (.getfield 35, 3) := by decide +kernel
theorem dX12_shelf_29 : decode cX12_shelf 29 = .ok (.sipush 188, 3) := by decide +kernel
theorem dX12_shelf_32 : decode cX12_shelf 32 = .ok (.iload_n 2, 1) := by decide +kernel
theorem dX12_shelf_33 : decode cX12_shelf 33 = .ok (.iadd, 1) := by decide +kernel
theorem dX12_shelf_34 : decode cX12_shelf 34 = .ok (.iaload, 1) := by decide +kernel
theorem dX12_shelf_35 : decode cX12_shelf 35 = .ok (.ifCond .le 9, 3) := by decide +kernel
theorem dX12_shelf_38 : decode cX12_shelf 38 = .ok (.iconst 1, 1) := by decide +kernel
theorem dX12_shelf_39 : decode cX12_shelf 39 = .ok (.iload_n 2, 1) := by decide +kernel
theorem dX12_shelf_40 : decode cX12_shelf 40 = .ok (.ishl, 1) := by decide +kernel
theorem dX12_shelf_41 : decode cX12_shelf 41 = .ok (.goto 4, 3) := by decide +kernel
theorem dX12_shelf_44 : decode cX12_shelf 44 = .ok (.iconst 0, 1) := by decide +kernel
theorem dX12_shelf_45 : decode cX12_shelf 45 = .ok (.ior, 1) := by decide +kernel
theorem dX12_shelf_46 : decode cX12_shelf 46 = .ok (.istore_n 1, 1) := by decide +kernel
theorem dX12_shelf_47 : decode cX12_shelf 47 = .ok (.iinc 2 1, 3) := by decide +kernel
theorem dX12_shelf_50 : decode cX12_shelf 50 = .ok (.goto (-36), 3) := by decide +kernel
theorem dX12_shelf_53 : decode cX12_shelf 53 = .ok (.iload_n 1, 1) := by decide +kernel
theorem dX12_shelf_54 : decode cX12_shelf 54 = .ok (.ifCond .ne 10, 3) := by decide +kernel
theorem dX12_shelf_57 : decode cX12_shelf 57 = .ok (.aload_n 0, 1) := by decide +kernel
theorem dX12_shelf_58 : decode cX12_shelf 58 = .ok (.bipush 8, 2) := by decide +kernel
theorem dX12_shelf_60 : decode cX12_shelf 60 = .ok (.invokevirtual 321, 3) := by decide +kernel
theorem dX12_shelf_63 : decode cX12_shelf 63 = .ok (.ireturn, 1) := by decide +kernel
theorem dX12_shelf_64 : decode cX12_shelf 64 = .ok (.sipush 255, 3) := by decide +kernel
theorem dX12_shelf_67 : decode cX12_shelf 67 = .ok (.istore_n 2, 1) := by decide +kernel
theorem dX12_shelf_68 : decode cX12_shelf 68 = .ok (.iload_n 2, 1) := by decide +kernel
theorem dX12_shelf_69 : decode cX12_shelf 69 = .ok (.ifCond .lt 84, 3) := by decide +kernel
theorem dX12_shelf_72 : decode cX12_shelf 72 = .ok (.aload_n 0, 1) := by decide +kernel
theorem dX12_shelf_73 : decode cX12_shelf 73 = .ok (.getfield 71, 3) := by decide +kernel
theorem dX12_shelf_76 : decode cX12_shelf 76 = .ok (.iload_n 2, 1) := by decide +kernel
theorem dX12_shelf_77 : decode cX12_shelf 77 = .ok (.iconst 0, 1) := by decide +kernel
theorem dX12_shelf_78 : decode cX12_shelf 78 = .ok (.iastore, 1) := by decide +kernel
theorem dX12_shelf_79 : decode cX12_shelf 79 = .ok (.iconst 0, 1) := by decide +kernel
theorem dX12_shelf_80 : decode cX12_shelf 80 = .ok (.istore_n 3, 1) := by decide +kernel
theorem dX12_shelf_81 : decode cX12_shelf 81 = .ok (.iload_n 3, 1) := by decide +kernel
theorem dX12_shelf_82 : decode cX12_shelf 82 = .ok (.bipush 8, 2) := by decide +kernel
theorem dX12_shelf_84 : decode cX12_shelf 84 = .ok (.if_icmp .ge 63, 3) := by decide +kernel
theorem dX12_shelf_87 : decode cX12_shelf 87 = .ok (.iload_n 1, 1) := by decide +kernel
theorem dX12_shelf_88 : decode cX12_shelf 88 = .ok (.iload_n 2, 1) := by decide +kernel
theorem dX12_shelf_89 : decode cX12_shelf 89 = .ok (.iconst (-1), 1) := by decide +kernel
theorem dX12_shelf_90 : decode cX12_shelf 90 = .ok (.ixor, 1) := by decide +kernel
theorem dX12_shelf_91 : decode cX12_shelf 91 = .ok (.iand, 1) := by decide +kernel
theorem dX12_shelf_92 : decode cX12_shelf 92 = .ok (.iload_n 3, 1) := by decide +kernel
theorem dX12_shelf_93 : decode cX12_shelf 93 = .ok (.invokestatic 402, 3) := by decide +kernel
theorem dX12_shelf_96 : decode cX12_shelf 96 = .ok (.ifCond .eq 45, 3) := by decide +kernel
theorem dX12_shelf_99 : decode cX12_shelf 99 = .ok (.aload_n 0, 1) := by decide +kernel
theorem dX12_shelf_100 : decode cX12_shelf 100 = .ok (.getfield 71, 3) := by decide +kernel
theorem dX12_shelf_103 : decode cX12_shelf 103 = .ok (.iload_n 2, 1) := by decide +kernel
theorem dX12_shelf_104 : decode cX12_shelf 104 = .ok (.aload_n 0, 1) := by decide +kernel
theorem dX12_shelf_105 : decode cX12_shelf 105 = .ok (.getfield 71, 3) := by decide +kernel
theorem dX12_shelf_108 : decode cX12_shelf 108 = .ok (.iload_n 2, 1) := by decide +kernel
theorem dX12_shelf_109 : decode cX12_shelf 109 = .ok (.iaload, 1) := by decide +kernel
theorem dX12_shelf_110 : decode cX12_shelf 110 = .ok (.aload_n 0, 1) := by decide +kernel
theorem dX12_shelf_111 : decode cX12_shelf 111 = .ok (.iload_n 3, 1) := by decide +kernel
theorem dX12_shelf_112 : decode cX12_shelf 112 = .ok (.aload_n 0, 1) := by decide +kernel
theorem dX12_shelf_113 : decode cX12_shelf 113 = .ok (.getfield 35, 3) := by decide +kernel
theorem dX12_shelf_116 : decode cX12_shelf 116 = .ok (.iconst 0, 1) := by decide +kernel
theorem dX12_shelf_117 : decode cX12_shelf 117 = .ok (.iaload, 1) := by decide +kernel
theorem dX12_shelf_118 : decode cX12_shelf 118 = .ok (.iload_n 2, 1) := by decide +kernel
theorem dX12_shelf_119 : decode cX12_shelf 119 = .ok (.invokestatic 429, 3) := by decide +kernel
theorem dX12_shelf_122 : decode cX12_shelf 122 = .ok (.iadd, 1) := by decide +kernel
theorem dX12_shelf_123 : decode cX12_shelf 123 = .ok (.invokevirtual 462, 3) := by decide +kernel
theorem dX12_shelf_126 : decode cX12_shelf 126 = .ok (.aload_n 0, 1) := by decide +kernel
theorem dX12_shelf_127 : decode cX12_shelf 127 = .ok (.getfield 71, 3) := by decide +kernel
theorem dX12_shelf_130 : decode cX12_shelf 130 = .ok (.iload_n 2, 1) := by decide +kernel
theorem dX12_shelf_131 : decode cX12_shelf 131 = .ok (.iconst 1, 1) := by decide +kernel
theorem dX12_shelf_132 : decode cX12_shelf 132 = .ok (.iload_n 3, 1) := by decide +kernel
theorem dX12_shelf_133 : decode cX12_shelf 133 = .ok (.ishl, 1) := by decide +kernel
theorem dX12_shelf_134 : decode cX12_shelf 134 = .ok (.ior, 1) := by decide +kernel
theorem dX12_shelf_135 : decode cX12_shelf 135 = .ok (.iaload, 1) := by decide +kernel
theorem dX12_shelf_136 : decode cX12_shelf 136 = .ok (.iadd, 1) := by decide +kernel
theorem dX12_shelf_137 : decode cX12_shelf 137 = .ok (.invokestatic 368, 3) := by decide +kernel
theorem dX12_shelf_140 : decode cX12_shelf 140 = .ok (.iastore, 1) := by decide +kernel
theorem dX12_shelf_141 : decode cX12_shelf 141 = .ok (.iinc 3 1, 3) := by decide +kernel
theorem dX12_shelf_144 : decode cX12_shelf 144 = .ok (.goto (-63), 3) := by decide +kernel
theorem dX12_shelf_147 : decode cX12_shelf 147 = .ok (.iinc 2 (-1), 3) := by decide +kernel
theorem dX12_shelf_150 : decode cX12_shelf 150 = .ok (.goto (-82), 3) := by decide +kernel
theorem dX12_shelf_153 : decode cX12_shelf 153 = .ok (.aload_n 0, 1) := by decide +kernel
theorem dX12_shelf_154 : decode cX12_shelf 154 = .ok (.iconst 0, 1) := by decide +kernel
theorem dX12_shelf_155 : decode cX12_shelf 155 = .ok (.putfield 465, 3) := by decide +kernel
theorem dX12_shelf_158 : decode cX12_shelf 158 = .ok (.iconst 0, 1) := by decide +kernel
theorem dX12_shelf_159 : decode cX12_shelf 159 = .ok (.istore_n 2, 1) := by decide +kernel
theorem dX12_shelf_160 : decode cX12_shelf 160 = .ok (.iload_n 2, 1) := by decide +kernel
theorem dX12_shelf_161 : decode cX12_shelf 161 = .ok (.iload_n 1, 1) := by decide +kernel
theorem dX12_shelf_162 : decode cX12_shelf 162 = .ok (.if_icmp .eq 88, 3) := by decide +kernel
theorem dX12_shelf_165 : decode cX12_shelf 165 = .ok (.iconst 0, 1) := by decide +kernel
theorem dX12_shelf_166 : decode cX12_shelf 166 = .ok (.istore_n 3, 1) := by decide +kernel
theorem dX12_shelf_167 : decode cX12_shelf 167 = .ok (.iload_n 1, 1) := by decide +kernel
theorem dX12_shelf_168 : decode cX12_shelf 168 = .ok (.iload_n 2, 1) := by decide +kernel
theorem dX12_shelf_169 : decode cX12_shelf 169 = .ok (.iconst (-1), 1) := by decide +kernel
theorem dX12_shelf_170 : decode cX12_shelf 170 = .ok (.ixor, 1) := by decide +kernel
theorem dX12_shelf_171 : decode cX12_shelf 171 = .ok (.iand, 1) := by decide +kernel
theorem dX12_shelf_172 : decode cX12_shelf 172 = .ok (.iload_n 3, 1) := by decide +kernel
theorem dX12_shelf_173 : decode cX12_shelf 173 = .ok (.invokestatic 402, 3) := by decide +kernel
theorem dX12_shelf_176 : decode cX12_shelf 176 = .ok (.ifCond .eq 39, 3) := by decide +kernel
theorem dX12_shelf_179 : decode cX12_shelf 179 = .ok (.aload_n 0, 1) := by decide +kernel
theorem dX12_shelf_180 : decode cX12_shelf 180 = .ok (.iload_n 3, 1) := by decide +kernel
theorem dX12_shelf_181 : decode cX12_shelf 181 = .ok (.aload_n 0, 1) := by decide +kernel
theorem dX12_shelf_182 : decode cX12_shelf 182 = .ok (.getfield 35, 3) := by decide +kernel
theorem dX12_shelf_185 : decode cX12_shelf 185 = .ok (.iconst 0, 1) := by decide +kernel
theorem dX12_shelf_186 : decode cX12_shelf 186 = .ok (.iaload, 1) := by decide +kernel
theorem dX12_shelf_187 : decode cX12_shelf 187 = .ok (.iload_n 2, 1) := by decide +kernel
theorem dX12_shelf_188 : decode cX12_shelf 188 = .ok (.invokestatic 429, 3) := by decide +kernel
theorem dX12_shelf_191 : decode cX12_shelf 191 = .ok (.iadd, 1) := by decide +kernel
theorem dX12_shelf_192 : decode cX12_shelf 192 = .ok (.invokevirtual 462, 3) := by decide +kernel
theorem dX12_shelf_195 : decode cX12_shelf 195 = .ok (.aload_n 0, 1) := by decide +kernel
theorem dX12_shelf_196 : decode cX12_shelf 196 = .ok (.getfield 71, 3) := by decide +kernel
theorem dX12_shelf_199 : decode cX12_shelf 199 = .ok (.iload_n 2, 1) := by decide +kernel
theorem dX12_shelf_200 : decode cX12_shelf 200 = .ok (.iconst 1, 1) := by decide +kernel
theorem dX12_shelf_201 : decode cX12_shelf 201 = .ok (.iload_n 3, 1) := by decide +kernel
theorem dX12_shelf_202 : decode cX12_shelf 202 = .ok (.ishl, 1) := by decide +kernel
theorem dX12_shelf_203 : decode cX12_shelf 203 = .ok (.ior, 1) := by decide +kernel
theorem dX12_shelf_204 : decode cX12_shelf 204 = .ok (.iaload, 1) := by decide +kernel
theorem dX12_shelf_205 : decode cX12_shelf 205 = .ok (.iadd, 1) := by decide +kernel
theorem dX12_shelf_206 : decode cX12_shelf 206 = .ok (.aload_n 0, 1) := by decide +kernel
theorem dX12_shelf_207 : decode cX12_shelf 207 = .ok (.getfield 71, 3) := by decide +kernel
theorem dX12_shelf_210 : decode cX12_shelf 210 = .ok (.iload_n 2, 1) := by decide +kernel
theorem dX12_shelf_211 : decode cX12_shelf 211 = .ok (.iaload, 1) := by decide +kernel
theorem dX12_shelf_212 : decode cX12_shelf 212 = .ok (.if_icmp .eq 9, 3) := by decide +kernel
theorem dX12_shelf_215 : decode cX12_shelf 215 = .ok (.iinc 3 1, 3) := by decide +kernel
theorem dX12_shelf_218 : decode cX12_shelf 218 = .ok (.goto (-51), 3) := by decide +kernel
theorem dX12_shelf_221 : decode cX12_shelf 221 = .ok (.aload_n 0, 1) := by decide +kernel
theorem dX12_shelf_222 : decode cX12_shelf 222 = .ok (.getfield 74, 3) := by decide +kernel
theorem dX12_shelf_225 : decode cX12_shelf 225 = .ok (.aload_n 0, 1) := by decide +kernel
theorem dX12_shelf_226 : decode cX12_shelf 226 = .ok (.getfield 465, 3) := by decide +kernel
theorem dX12_shelf_229 : decode cX12_shelf 229 = .ok (.iload_n 3, 1) := by decide +kernel
theorem dX12_shelf_230 : decode cX12_shelf 230 = .ok (.iastore, 1) := by decide +kernel
theorem dX12_shelf_231 : decode cX12_shelf 231 = .ok (.aload_n 0, 1) := by decide +kernel
theorem dX12_shelf_232 : decode cX12_shelf 232 = .ok (.dup, 1) := by decide +kernel
theorem dX12_shelf_233 : decode cX12_shelf 233 = .ok (.getfield 465, 3) := by decide +kernel
theorem dX12_shelf_236 : decode cX12_shelf 236 = .ok (.iconst 1, 1) := by decide +kernel
theorem dX12_shelf_237 : decode cX12_shelf 237 = .ok (.iadd, 1) := by decide +kernel
theorem dX12_shelf_238 : decode cX12_shelf 238 = .ok (.putfield 465, 3) := by decide +kernel
theorem dX12_shelf_241 : decode cX12_shelf 241 = .ok (.iload_n 2, 1) := by decide +kernel
theorem dX12_shelf_242 : decode cX12_shelf 242 = .ok (.iconst 1, 1) := by decide +kernel
theorem dX12_shelf_243 : decode cX12_shelf 243 = .ok (.iload_n 3, 1) := by decide +kernel
theorem dX12_shelf_244 : decode cX12_shelf 244 = .ok (.ishl, 1) := by decide +kernel
theorem dX12_shelf_245 : decode cX12_shelf 245 = .ok (.ior, 1) := by decide +kernel
theorem dX12_shelf_246 : decode cX12_shelf 246 = .ok (.istore_n 2, 1) := by decide +kernel
theorem dX12_shelf_247 : decode cX12_shelf 247 = .ok (.goto (-87), 3) := by decide +kernel
theorem dX12_shelf_250 : decode cX12_shelf 250 = .ok (.aload_n 0, 1) := by decide +kernel
theorem dX12_shelf_251 : decode cX12_shelf 251 = .ok (.getfield 71, 3) := by decide +kernel
theorem dX12_shelf_254 : decode cX12_shelf 254 = .ok (.iconst 0, 1) := by decide +kernel
theorem dX12_shelf_255 : decode cX12_shelf 255 = .ok (.iaload, 1) := by decide +kernel
theorem dX12_shelf_256 : decode cX12_shelf 256 = .ok (.ireturn, 1) := by decide +kernel
theorem dX12_shelfAt_0 : decode cX12_shelfAt 0 = .ok (.aload_n 0, 1) := by decide +kernel
theorem dX12_shelfAt_1 : decode cX12_shelfAt 1 = .ok (.iconst 0, 1) := by decide +kernel
theorem dX12_shelfAt_2 : decode cX12_shelfAt 2 = .ok (.putfield 89, 3) := by decide +kernel
theorem dX12_shelfAt_5 : decode cX12_shelfAt 5 = .ok (.aload_n 0, 1) := by decide +kernel
theorem dX12_shelfAt_6 : decode cX12_shelfAt 6 = .ok (.iconst 0, 1) := by decide +kernel
theorem dX12_shelfAt_7 : decode cX12_shelfAt 7 = .ok (.putfield 92, 3) := by decide +kernel
theorem dX12_shelfAt_10 : decode cX12_shelfAt 10 = .ok (.iload_n 1, 1) := by decide +kernel
theorem dX12_shelfAt_11 : decode cX12_shelfAt 11 = .ok (.i2l, 1) := by decide +kernel
theorem dX12_shelfAt_12 : decode cX12_shelfAt 12 = .ok (.lconst 0, 1) := by decide +kernel
theorem dX12_shelfAt_13 : decode cX12_shelfAt 13 = .ok (.aload_n 0, 1) := by decide +kernel
theorem dX12_shelfAt_14 : decode cX12_shelfAt 14 = .ok (.getfield 465, 3) := by decide +kernel
theorem dX12_shelfAt_17 : decode cX12_shelfAt 17 = .ok (.iconst 1, 1) := by decide +kernel
theorem dX12_shelfAt_18 : decode cX12_shelfAt 18 = .ok (.isub, 1) := by decide +kernel
theorem dX12_shelfAt_19 : decode cX12_shelfAt 19 = .ok (.i2l, 1) := by decide +kernel
theorem dX12_shelfAt_20 : decode cX12_shelfAt 20 = .ok (.invokestatic 124, 3) := by decide +kernel
theorem dX12_shelfAt_23 : decode cX12_shelfAt 23 = .ok (.ifCond .eq 12, 3) := by decide +kernel
theorem dX12_shelfAt_26 : decode cX12_shelfAt 26 = .ok (.aload_n 0, 1) := by decide +kernel
theorem dX12_shelfAt_27 : decode cX12_shelfAt 27 = .ok (.getfield 74, 3) := by decide +kernel
theorem dX12_shelfAt_30 : decode cX12_shelfAt 30 = .ok (.iload_n 1, 1) := by decide +kernel
theorem dX12_shelfAt_31 : decode cX12_shelfAt 31 = .ok (.iaload, 1) := by decide +kernel
theorem dX12_shelfAt_32 : decode cX12_shelfAt 32 = .ok (.goto 9, 3) := by decide +kernel
theorem dX12_shelfAt_35 : decode cX12_shelfAt 35 = .ok (.aload_n 0, 1) := by decide +kernel
theorem dX12_shelfAt_36 : decode cX12_shelfAt 36 = .ok (.bipush 8, 2) := by decide +kernel
theorem dX12_shelfAt_38 : decode cX12_shelfAt 38 = .ok (.invokevirtual 321, 3) := by decide +kernel
theorem dX12_shelfAt_41 : decode cX12_shelfAt 41 = .ok (.ireturn, 1) := by decide +kernel
theorem dX12_isHeard_0 : decode cX12_isHeard 0 = .ok (.iconst 0, 1) := by decide +kernel
theorem dX12_isHeard_1 : decode cX12_isHeard 1 = .ok (.istore 4, 2) := by decide +kernel
theorem dX12_isHeard_3 : decode cX12_isHeard 3 = .ok (.iload 4, 2) := by decide +kernel
theorem dX12_isHeard_5 : decode cX12_isHeard 5 = .ok (.aload_n 0, 1) := by decide +kernel
theorem dX12_isHeard_6 : decode cX12_isHeard 6 = .ok (.getfield 35, 3) := by decide +kernel
theorem dX12_isHeard_9 : decode cX12_isHeard 9 = .ok (.iconst 2, 1) := by decide +kernel
theorem dX12_isHeard_10 : decode cX12_isHeard 10 = .ok (.iaload, 1) := by decide +kernel
theorem dX12_isHeard_11 : decode cX12_isHeard 11 = .ok (.if_icmp .ge 93, 3) := by decide +kernel
theorem dX12_isHeard_14 : decode cX12_isHeard 14 = .ok (.iconst 0, 1) := by decide +kernel
theorem dX12_isHeard_15 : decode cX12_isHeard 15 = .ok (.istore 5, 2) := by decide +kernel
theorem dX12_isHeard_17 : decode cX12_isHeard 17 = .ok (.iload 5, 2) := by decide +kernel
theorem dX12_isHeard_19 : decode cX12_isHeard 19 = .ok (.iload_n 3, 1) := by decide +kernel
theorem dX12_isHeard_20 : decode cX12_isHeard 20 = .ok (.iadd, 1) := by decide +kernel
theorem dX12_isHeard_21 : decode cX12_isHeard 21 = .ok (.iload_n 2, 1) := by decide +kernel
theorem dX12_isHeard_22 : decode cX12_isHeard 22 = .ok (.isub, 1) := by decide +kernel
theorem dX12_isHeard_23 : decode cX12_isHeard 23 = .ok (.aload_n 0, 1) := by decide +kernel
theorem dX12_isHeard_24 : decode cX12_isHeard 24 = .ok (.iload 4, 2) := by decide +kernel
theorem dX12_isHeard_26 : decode cX12_isHeard 26 = .ok (.invokevirtual 342, 3) := by decide +kernel
theorem dX12_isHeard_29 : decode cX12_isHeard 29 = .ok (.if_icmp .gt 69, 3) := by decide +kernel
theorem dX12_isHeard_32 : decode cX12_isHeard 32 = .ok (.iconst 1, 1) := by decide +kernel
theorem dX12_isHeard_33 : decode cX12_isHeard 33 = .ok (.istore 6, 2) := by decide +kernel
theorem dX12_isHeard_35 : decode cX12_isHeard 35 = .ok (.iload_n 2, 1) := by decide +kernel
theorem dX12_isHeard_36 : decode cX12_isHeard 36 = .ok (.istore 7, 2) := by decide +kernel
theorem dX12_isHeard_38 : decode cX12_isHeard 38 = .ok (.iload 7, 2) := by decide +kernel
theorem dX12_isHeard_40 : decode cX12_isHeard 40 = .ok (.iload_n 3, 1) := by decide +kernel
theorem dX12_isHeard_41 : decode cX12_isHeard 41 = .ok (.if_icmp .ge 44, 3) := by decide +kernel
theorem dX12_isHeard_44 : decode cX12_isHeard 44 = .ok (.iload 6, 2) := by decide +kernel
theorem dX12_isHeard_46 : decode cX12_isHeard 46 = .ok (.ifCond .eq 39, 3) := by decide +kernel
theorem dX12_isHeard_49 : decode cX12_isHeard 49 = .ok (.aload_n 0, 1) := by decide +kernel
theorem dX12_isHeard_50 : decode cX12_isHeard 50 = .ok (.iload_n 1, 1) := by decide +kernel
theorem dX12_isHeard_51 : decode cX12_isHeard 51 = .ok (.iload 7, 2) := by decide +kernel
theorem dX12_isHeard_53 : decode cX12_isHeard 53 = .ok (.invokevirtual 327, 3) := by decide +kernel
theorem dX12_isHeard_56 : decode cX12_isHeard 56 = .ok (.aload_n 0, 1) := by decide +kernel
theorem dX12_isHeard_57 : decode cX12_isHeard 57 = .ok (.iload 4, 2) := by decide +kernel
theorem dX12_isHeard_59 : decode cX12_isHeard 59 = .ok (.iload 5, 2) := by decide +kernel
theorem dX12_isHeard_61 : decode cX12_isHeard 61 = .ok (.iload 7, 2) := by decide +kernel
theorem dX12_isHeard_63 : decode cX12_isHeard 63 = .ok (.iadd, 1) := by decide +kernel
theorem dX12_isHeard_64 : decode cX12_isHeard 64 = .ok (.iload_n 2, 1) := by decide +kernel
theorem dX12_isHeard_65 : decode cX12_isHeard 65 = .ok (.isub, 1) := by decide +kernel
theorem dX12_isHeard_66 : decode cX12_isHeard 66 = .ok (.invokevirtual 348, 3) := by decide +kernel
theorem dX12_isHeard_69 : decode cX12_isHeard 69 = .ok (.if_icmp .ne 7, 3) := by decide +kernel
theorem dX12_isHeard_72 : decode cX12_isHeard 72 = .ok (.iconst 1, 1) := by decide +kernel
theorem dX12_isHeard_73 : decode cX12_isHeard 73 = .ok (.goto 4, 3) := by decide +kernel
theorem dX12_isHeard_76 : decode cX12_isHeard 76 = .ok (.iconst 0, 1) := by decide +kernel
theorem dX12_isHeard_77 : decode cX12_isHeard 77 = .ok (.istore 6, 2) := by decide +kernel
theorem dX12_isHeard_79 : decode cX12_isHeard 79 = .ok (.iinc 7 1, 3) := by decide +kernel
theorem dX12_isHeard_82 : decode cX12_isHeard 82 = .ok (.goto (-44), 3) := by decide +kernel
theorem dX12_isHeard_85 : decode cX12_isHeard 85 = .ok (.iload 6, 2) := by decide +kernel
theorem dX12_isHeard_87 : decode cX12_isHeard 87 = .ok (.ifCond .eq 5, 3) := by decide +kernel
theorem dX12_isHeard_90 : decode cX12_isHeard 90 = .ok (.iconst 1, 1) := by decide +kernel
theorem dX12_isHeard_91 : decode cX12_isHeard 91 = .ok (.ireturn, 1) := by decide +kernel
theorem dX12_isHeard_92 : decode cX12_isHeard 92 = .ok (.iinc 5 1, 3) := by decide +kernel
theorem dX12_isHeard_95 : decode cX12_isHeard 95 = .ok (.goto (-78), 3) := by decide +kernel
theorem dX12_isHeard_98 : decode cX12_isHeard 98 = .ok (.iinc 4 1, 3) := by decide +kernel
theorem dX12_isHeard_101 : decode cX12_isHeard 101 = .ok (.goto (-98), 3) := by decide +kernel
theorem dX12_isHeard_104 : decode cX12_isHeard 104 = .ok (.iconst 0, 1) := by decide +kernel
theorem dX12_isHeard_105 : decode cX12_isHeard 105 = .ok (.ireturn, 1) := by decide +kernel
theorem dX12_isVowel_0 : decode cX12_isVowel 0 = .ok (.iload_n 0, 1) := by decide +kernel
theorem dX12_isVowel_1 : decode cX12_isVowel 1 = .ok (.iconst 1, 1) := by decide +kernel
theorem dX12_isVowel_2 : decode cX12_isVowel 2 = .ok (.if_icmp .eq 26, 3) := by decide +kernel
theorem dX12_isVowel_5 : decode cX12_isVowel 5 = .ok (.iload_n 0, 1) := by decide +kernel
theorem dX12_isVowel_6 : decode cX12_isVowel 6 = .ok (.iconst 5, 1) := by decide +kernel
theorem dX12_isVowel_7 : decode cX12_isVowel 7 = .ok (.if_icmp .eq 21, 3) := by decide +kernel
theorem dX12_isVowel_10 : decode cX12_isVowel 10 = .ok (.iload_n 0, 1) := by decide +kernel
theorem dX12_isVowel_11 : decode cX12_isVowel 11 = .ok (.bipush 9, 2) := by decide +kernel
theorem dX12_isVowel_13 : decode cX12_isVowel 13 = .ok (.if_icmp .eq 15, 3) := by decide +kernel
theorem dX12_isVowel_16 : decode cX12_isVowel 16 = .ok (.iload_n 0, 1) := by decide +kernel
theorem dX12_isVowel_17 : decode cX12_isVowel 17 = .ok (.bipush 15, 2) := by decide +kernel
theorem dX12_isVowel_19 : decode cX12_isVowel 19 = .ok (.if_icmp .eq 9, 3) := by decide +kernel
theorem dX12_isVowel_22 : decode cX12_isVowel 22 = .ok (.iload_n 0, 1) := by decide +kernel
theorem dX12_isVowel_23 : decode cX12_isVowel 23 = .ok (.bipush 21, 2) := by decide +kernel
theorem dX12_isVowel_25 : decode cX12_isVowel 25 = .ok (.if_icmp .ne 7, 3) := by decide +kernel
theorem dX12_isVowel_28 : decode cX12_isVowel 28 = .ok (.iconst 1, 1) := by decide +kernel
theorem dX12_isVowel_29 : decode cX12_isVowel 29 = .ok (.goto 4, 3) := by decide +kernel
theorem dX12_isVowel_32 : decode cX12_isVowel 32 = .ok (.iconst 0, 1) := by decide +kernel
theorem dX12_isVowel_33 : decode cX12_isVowel 33 = .ok (.ireturn, 1) := by decide +kernel
theorem dX12_pieced_0 : decode cX12_pieced 0 = .ok (.aload_n 0, 1) := by decide +kernel
theorem dX12_pieced_1 : decode cX12_pieced 1 = .ok (.iconst 0, 1) := by decide +kernel
theorem dX12_pieced_2 : decode cX12_pieced 2 = .ok (.putfield 89, 3) := by decide +kernel
theorem dX12_pieced_5 : decode cX12_pieced 5 = .ok (.aload_n 0, 1) := by decide +kernel
theorem dX12_pieced_6 : decode cX12_pieced 6 = .ok (.iconst 0, 1) := by decide +kernel
theorem dX12_pieced_7 : decode cX12_pieced 7 = .ok (.putfield 92, 3) := by decide +kernel
theorem dX12_pieced_10 : decode cX12_pieced 10 = .ok (.aload_n 0, 1) := by decide +kernel
theorem dX12_pieced_11 : decode cX12_pieced 11 = .ok (.iload_n 1, 1) := by decide +kernel
theorem dX12_pieced_12 : decode cX12_pieced 12 = .ok (.invokevirtual 324, 3) := by decide +kernel
theorem dX12_pieced_15 : decode cX12_pieced 15 = .ok (.ifCond .ne 9, 3) := by decide +kernel
theorem dX12_pieced_18 : decode cX12_pieced 18 = .ok (.aload_n 0, 1) := by decide +kernel
theorem dX12_pieced_19 : decode cX12_pieced 19 = .ok (.iconst 2, 1) := by decide +kernel
theorem dX12_pieced_20 : decode cX12_pieced 20 = .ok (.invokevirtual 321, 3) := by decide +kernel
theorem dX12_pieced_23 : decode cX12_pieced 23 = .ok (.ireturn, 1) := by decide +kernel
theorem dX12_pieced_24 : decode cX12_pieced 24 = .ok (.iload_n 2, 1) := by decide +kernel
theorem dX12_pieced_25 : decode cX12_pieced 25 = .ok (.i2l, 1) := by decide +kernel
theorem dX12_pieced_26 : decode cX12_pieced 26 = .ok (.lconst 0, 1) := by decide +kernel
theorem dX12_pieced_27 : decode cX12_pieced 27 = .ok (.lconst 1, 1) := by decide +kernel
theorem dX12_pieced_28 : decode cX12_pieced 28 = .ok (.invokestatic 124, 3) := by decide +kernel
theorem dX12_pieced_31 : decode cX12_pieced 31 = .ok (.ifCond .ne 9, 3) := by decide +kernel
theorem dX12_pieced_34 : decode cX12_pieced 34 = .ok (.aload_n 0, 1) := by decide +kernel
theorem dX12_pieced_35 : decode cX12_pieced 35 = .ok (.iconst 5, 1) := by decide +kernel
theorem dX12_pieced_36 : decode cX12_pieced 36 = .ok (.invokevirtual 321, 3) := by decide +kernel
theorem dX12_pieced_39 : decode cX12_pieced 39 = .ok (.ireturn, 1) := by decide +kernel
theorem dX12_pieced_40 : decode cX12_pieced 40 = .ok (.aload_n 0, 1) := by decide +kernel
theorem dX12_pieced_41 : decode cX12_pieced 41 = .ok (.getfield 35, 3) := by decide +kernel
theorem dX12_pieced_44 : decode cX12_pieced 44 = .ok (.iconst 4, 1) := by decide +kernel
theorem dX12_pieced_45 : decode cX12_pieced 45 = .ok (.iload_n 1, 1) := by decide +kernel
theorem dX12_pieced_46 : decode cX12_pieced 46 = .ok (.iadd, 1) := by decide +kernel
theorem dX12_pieced_47 : decode cX12_pieced 47 = .ok (.iaload, 1) := by decide +kernel
theorem dX12_pieced_48 : decode cX12_pieced 48 = .ok (.istore_n 3, 1) := by decide +kernel
theorem dX12_pieced_49 : decode cX12_pieced 49 = .ok (.iconst 0, 1) := by decide +kernel
theorem dX12_pieced_50 : decode cX12_pieced 50 = .ok (.istore 4, 2) := by decide +kernel
theorem dX12_pieced_52 : decode cX12_pieced 52 = .ok (.iload 4, 2) := by decide +kernel
theorem dX12_pieced_54 : decode cX12_pieced 54 = .ok (.iload_n 3, 1) := by decide +kernel
theorem dX12_pieced_55 : decode cX12_pieced 55 = .ok (.if_icmp .gt 181, 3) := by decide +kernel
theorem dX12_pieced_58 : decode cX12_pieced 58 = .ok (.aload_n 0, 1) := by decide +kernel
theorem dX12_pieced_59 : decode cX12_pieced 59 = .ok (.getfield 77, 3) := by decide +kernel
theorem dX12_pieced_62 : decode cX12_pieced 62 = .ok (.iload 4, 2) := by decide +kernel
theorem dX12_pieced_64 : decode cX12_pieced 64 = .ok (.iload 4, 2) := by decide +kernel
theorem dX12_pieced_66 : decode cX12_pieced 66 = .ok (.ifCond .ne 7, 3) := by decide +kernel
theorem dX12_pieced_69 : decode cX12_pieced 69 = .ok (.iconst 0, 1) := by decide +kernel
theorem dX12_pieced_70 : decode cX12_pieced 70 = .ok (.goto 6, 3) := by decide +kernel
theorem dX12_pieced_73 : decode cX12_pieced 73 = .ok (.ldc_w 417, 3) := by decide +kernel
theorem dX12_pieced_76 : decode cX12_pieced 76 = .ok (.iastore, 1) := by decide +kernel
theorem dX12_pieced_77 : decode cX12_pieced 77 = .ok (.aload_n 0, 1) := by decide +kernel
theorem dX12_pieced_78 : decode cX12_pieced 78 = .ok (.getfield 80, 3) := by decide +kernel
theorem dX12_pieced_81 : decode cX12_pieced 81 = .ok (.iload 4, 2) := by decide +kernel
theorem dX12_pieced_83 : decode cX12_pieced 83 = .ok (.iload 4, 2) := by decide +kernel
theorem dX12_pieced_85 : decode cX12_pieced 85 = .ok (.ifCond .ne 7, 3) := by decide +kernel
theorem dX12_pieced_88 : decode cX12_pieced 88 = .ok (.iconst 0, 1) := by decide +kernel
theorem dX12_pieced_89 : decode cX12_pieced 89 = .ok (.goto 6, 3) := by decide +kernel
theorem dX12_pieced_92 : decode cX12_pieced 92 = .ok (.ldc_w 417, 3) := by decide +kernel
theorem dX12_pieced_95 : decode cX12_pieced 95 = .ok (.iastore, 1) := by decide +kernel
theorem dX12_pieced_96 : decode cX12_pieced 96 = .ok (.iconst 0, 1) := by decide +kernel
theorem dX12_pieced_97 : decode cX12_pieced 97 = .ok (.istore 5, 2) := by decide +kernel
theorem dX12_pieced_99 : decode cX12_pieced 99 = .ok (.iload 5, 2) := by decide +kernel
theorem dX12_pieced_101 : decode cX12_pieced 101 = .ok (.iload 4, 2) := by decide +kernel
theorem dX12_pieced_103 : decode cX12_pieced 103 = .ok (.if_icmp .ge 127, 3) := by decide +kernel
theorem dX12_pieced_106 : decode cX12_pieced 106 = .ok (.aload_n 0, 1) := by decide +kernel
theorem dX12_pieced_107 : decode cX12_pieced 107 = .ok (.getfield 77, 3) := by decide +kernel
theorem dX12_pieced_110 : decode cX12_pieced 110 = .ok (.iload 5, 2) := by decide +kernel
theorem dX12_pieced_112 : decode cX12_pieced 112 = .ok (.iaload, 1) := by decide +kernel
theorem dX12_pieced_113 : decode cX12_pieced 113 = .ok (.ldc_w 417, 3) := by decide +kernel
theorem dX12_pieced_116 : decode cX12_pieced 116 = .ok (.if_icmp .eq 108, 3) := by decide +kernel
theorem dX12_pieced_119 : decode cX12_pieced 119 = .ok (.aload_n 0, 1) := by decide +kernel
theorem dX12_pieced_120 : decode cX12_pieced 120 = .ok (.iload_n 1, 1) := by decide +kernel
theorem dX12_pieced_121 : decode cX12_pieced 121 = .ok (.iload 5, 2) := by decide +kernel
theorem dX12_pieced_123 : decode cX12_pieced 123 = .ok (.iload 4, 2) := by decide +kernel
theorem dX12_pieced_125 : decode cX12_pieced 125 = .ok (.invokevirtual 468, 3) := by decide +kernel
theorem dX12_pieced_128 : decode cX12_pieced 128 = .ok (.ifCond .ne 6, 3) := by decide +kernel
theorem dX12_pieced_131 : decode cX12_pieced 131 = .ok (.goto 93, 3) := by decide +kernel
theorem dX12_pieced_134 : decode cX12_pieced 134 = .ok (.iload 5, 2) := by decide +kernel
theorem dX12_pieced_136 : decode cX12_pieced 136 = .ok (.ifCond .le 32, 3) := by decide +kernel
theorem dX12_pieced_139 : decode cX12_pieced 139 = .ok (.aload_n 0, 1) := by decide +kernel
theorem dX12_pieced_140 : decode cX12_pieced 140 = .ok (.iload_n 1, 1) := by decide +kernel
theorem dX12_pieced_141 : decode cX12_pieced 141 = .ok (.iload 5, 2) := by decide +kernel
theorem dX12_pieced_143 : decode cX12_pieced 143 = .ok (.iconst 1, 1) := by decide +kernel
theorem dX12_pieced_144 : decode cX12_pieced 144 = .ok (.isub, 1) := by decide +kernel
theorem dX12_pieced_145 : decode cX12_pieced 145 = .ok (.invokevirtual 327, 3) := by decide +kernel
theorem dX12_pieced_148 : decode cX12_pieced 148 = .ok (.invokestatic 472, 3) := by decide +kernel
theorem dX12_pieced_151 : decode cX12_pieced 151 = .ok (.aload_n 0, 1) := by decide +kernel
theorem dX12_pieced_152 : decode cX12_pieced 152 = .ok (.iload_n 1, 1) := by decide +kernel
theorem dX12_pieced_153 : decode cX12_pieced 153 = .ok (.iload 5, 2) := by decide +kernel
theorem dX12_pieced_155 : decode cX12_pieced 155 = .ok (.invokevirtual 327, 3) := by decide +kernel
theorem dX12_pieced_158 : decode cX12_pieced 158 = .ok (.invokestatic 472, 3) := by decide +kernel
theorem dX12_pieced_161 : decode cX12_pieced 161 = .ok (.if_icmp .ne 7, 3) := by decide +kernel
theorem dX12_pieced_164 : decode cX12_pieced 164 = .ok (.iconst 1, 1) := by decide +kernel
theorem dX12_pieced_165 : decode cX12_pieced 165 = .ok (.goto 4, 3) := by decide +kernel
theorem dX12_pieced_168 : decode cX12_pieced 168 = .ok (.iconst 0, 1) := by decide +kernel
theorem dX12_pieced_169 : decode cX12_pieced 169 = .ok (.istore 6, 2) := by decide +kernel
theorem dX12_pieced_171 : decode cX12_pieced 171 = .ok (.aload_n 0, 1) := by decide +kernel
theorem dX12_pieced_172 : decode cX12_pieced 172 = .ok (.getfield 77, 3) := by decide +kernel
theorem dX12_pieced_175 : decode cX12_pieced 175 = .ok (.iload 4, 2) := by decide +kernel
theorem dX12_pieced_177 : decode cX12_pieced 177 = .ok (.aload_n 0, 1) := by decide +kernel
theorem dX12_pieced_178 : decode cX12_pieced 178 = .ok (.getfield 77, 3) := by decide +kernel
theorem dX12_pieced_181 : decode cX12_pieced 181 = .ok (.iload 4, 2) := by decide +kernel
theorem dX12_pieced_183 : decode cX12_pieced 183 = .ok (.iaload, 1) := by decide +kernel
theorem dX12_pieced_184 : decode cX12_pieced 184 = .ok (.aload_n 0, 1) := by decide +kernel
theorem dX12_pieced_185 : decode cX12_pieced 185 = .ok (.getfield 77, 3) := by decide +kernel
theorem dX12_pieced_188 : decode cX12_pieced 188 = .ok (.iload 5, 2) := by decide +kernel
theorem dX12_pieced_190 : decode cX12_pieced 190 = .ok (.iaload, 1) := by decide +kernel
theorem dX12_pieced_191 : decode cX12_pieced 191 = .ok (.iconst 1, 1) := by decide +kernel
theorem dX12_pieced_192 : decode cX12_pieced 192 = .ok (.iadd, 1) := by decide +kernel
theorem dX12_pieced_193 : decode cX12_pieced 193 = .ok (.invokestatic 283, 3) := by decide +kernel
theorem dX12_pieced_196 : decode cX12_pieced 196 = .ok (.iastore, 1) := by decide +kernel
theorem dX12_pieced_197 : decode cX12_pieced 197 = .ok (.aload_n 0, 1) := by decide +kernel
theorem dX12_pieced_198 : decode cX12_pieced 198 = .ok (.getfield 80, 3) := by decide +kernel
theorem dX12_pieced_201 : decode cX12_pieced 201 = .ok (.iload 4, 2) := by decide +kernel
theorem dX12_pieced_203 : decode cX12_pieced 203 = .ok (.aload_n 0, 1) := by decide +kernel
theorem dX12_pieced_204 : decode cX12_pieced 204 = .ok (.getfield 80, 3) := by decide +kernel
theorem dX12_pieced_207 : decode cX12_pieced 207 = .ok (.iload 4, 2) := by decide +kernel
theorem dX12_pieced_209 : decode cX12_pieced 209 = .ok (.iaload, 1) := by decide +kernel
theorem dX12_pieced_210 : decode cX12_pieced 210 = .ok (.aload_n 0, 1) := by decide +kernel
theorem dX12_pieced_211 : decode cX12_pieced 211 = .ok (.getfield 80, 3) := by decide +kernel
theorem dX12_pieced_214 : decode cX12_pieced 214 = .ok (.iload 5, 2) := by decide +kernel
theorem dX12_pieced_216 : decode cX12_pieced 216 = .ok (.iaload, 1) := by decide +kernel
theorem dX12_pieced_217 : decode cX12_pieced 217 = .ok (.iload 6, 2) := by decide +kernel
theorem dX12_pieced_219 : decode cX12_pieced 219 = .ok (.iadd, 1) := by decide +kernel
theorem dX12_pieced_220 : decode cX12_pieced 220 = .ok (.invokestatic 283, 3) := by decide +kernel
theorem dX12_pieced_223 : decode cX12_pieced 223 = .ok (.iastore, 1) := by decide +kernel
theorem dX12_pieced_224 : decode cX12_pieced 224 = .ok (.iinc 5 1, 3) := by decide +kernel
theorem dX12_pieced_227 : decode cX12_pieced 227 = .ok (.goto (-128), 3) := by decide +kernel
theorem dX12_pieced_230 : decode cX12_pieced 230 = .ok (.iinc 4 1, 3) := by decide +kernel
theorem dX12_pieced_233 : decode cX12_pieced 233 = .ok (.goto (-181), 3) := by decide +kernel
theorem dX12_pieced_236 : decode cX12_pieced 236 = .ok (.aload_n 0, 1) := by decide +kernel
theorem dX12_pieced_237 : decode cX12_pieced 237 = .ok (.getfield 77, 3) := by decide +kernel
theorem dX12_pieced_240 : decode cX12_pieced 240 = .ok (.iload_n 3, 1) := by decide +kernel
theorem dX12_pieced_241 : decode cX12_pieced 241 = .ok (.iaload, 1) := by decide +kernel
theorem dX12_pieced_242 : decode cX12_pieced 242 = .ok (.ldc_w 417, 3) := by decide +kernel
theorem dX12_pieced_245 : decode cX12_pieced 245 = .ok (.if_icmp .ne 12, 3) := by decide +kernel
theorem dX12_pieced_248 : decode cX12_pieced 248 = .ok (.aload_n 0, 1) := by decide +kernel
theorem dX12_pieced_249 : decode cX12_pieced 249 = .ok (.bipush 9, 2) := by decide +kernel
theorem dX12_pieced_251 : decode cX12_pieced 251 = .ok (.invokevirtual 321, 3) := by decide +kernel
theorem dX12_pieced_254 : decode cX12_pieced 254 = .ok (.goto 22, 3) := by decide +kernel
theorem dX12_pieced_257 : decode cX12_pieced 257 = .ok (.iload_n 2, 1) := by decide +kernel
theorem dX12_pieced_258 : decode cX12_pieced 258 = .ok (.ifCond .ne 12, 3) := by decide +kernel
theorem dX12_pieced_261 : decode cX12_pieced 261 = .ok (.aload_n 0, 1) := by decide +kernel
theorem dX12_pieced_262 : decode cX12_pieced 262 = .ok (.getfield 77, 3) := by decide +kernel
theorem dX12_pieced_265 : decode cX12_pieced 265 = .ok (.iload_n 3, 1) := by decide +kernel
theorem dX12_pieced_266 : decode cX12_pieced 266 = .ok (.iaload, 1) := by decide +kernel
theorem dX12_pieced_267 : decode cX12_pieced 267 = .ok (.goto 9, 3) := by decide +kernel
theorem dX12_pieced_270 : decode cX12_pieced 270 = .ok (.aload_n 0, 1) := by decide +kernel
theorem dX12_pieced_271 : decode cX12_pieced 271 = .ok (.getfield 80, 3) := by decide +kernel
theorem dX12_pieced_274 : decode cX12_pieced 274 = .ok (.iload_n 3, 1) := by decide +kernel
theorem dX12_pieced_275 : decode cX12_pieced 275 = .ok (.iaload, 1) := by decide +kernel
theorem dX12_pieced_276 : decode cX12_pieced 276 = .ok (.ireturn, 1) := by decide +kernel
theorem dX12_draw_0 : decode cX12_draw 0 = .ok (.aload_n 0, 1) := by decide +kernel
theorem dX12_draw_1 : decode cX12_draw 1 = .ok (.aload_n 0, 1) := by decide +kernel
theorem dX12_draw_2 : decode cX12_draw 2 = .ok (.getfield 475, 3) := by decide +kernel
theorem dX12_draw_5 : decode cX12_draw 5 = .ok (.sipush 2683, 3) := by decide +kernel
theorem dX12_draw_8 : decode cX12_draw 8 = .ok (.imul, 1) := by decide +kernel
theorem dX12_draw_9 : decode cX12_draw 9 = .ok (.sipush 9419, 3) := by decide +kernel
theorem dX12_draw_12 : decode cX12_draw 12 = .ok (.iadd, 1) := by decide +kernel
theorem dX12_draw_13 : decode cX12_draw 13 = .ok (.ldc_w 478, 3) := by decide +kernel
theorem dX12_draw_16 : decode cX12_draw 16 = .ok (.irem, 1) := by decide +kernel
theorem dX12_draw_17 : decode cX12_draw 17 = .ok (.putfield 475, 3) := by decide +kernel
theorem dX12_draw_20 : decode cX12_draw 20 = .ok (.aload_n 0, 1) := by decide +kernel
theorem dX12_draw_21 : decode cX12_draw 21 = .ok (.getfield 475, 3) := by decide +kernel
theorem dX12_draw_24 : decode cX12_draw 24 = .ok (.bipush 8, 2) := by decide +kernel
theorem dX12_draw_26 : decode cX12_draw 26 = .ok (.idiv, 1) := by decide +kernel
theorem dX12_draw_27 : decode cX12_draw 27 = .ok (.bipush 16, 2) := by decide +kernel
theorem dX12_draw_29 : decode cX12_draw 29 = .ok (.irem, 1) := by decide +kernel
theorem dX12_draw_30 : decode cX12_draw 30 = .ok (.ireturn, 1) := by decide +kernel
theorem dX12_wholeBehind_0 : decode cX12_wholeBehind 0 = .ok (.aload_n 0, 1) := by decide +kernel
theorem dX12_wholeBehind_1 : decode cX12_wholeBehind 1 = .ok (.iload_n 1, 1) := by decide +kernel
theorem dX12_wholeBehind_2 : decode cX12_wholeBehind 2 = .ok (.putfield 475, 3) := by decide +kernel
theorem dX12_wholeBehind_5 : decode cX12_wholeBehind 5 = .ok (.iconst 1, 1) := by decide +kernel
theorem dX12_wholeBehind_6 : decode cX12_wholeBehind 6 = .ok (.aload_n 0, 1) := by decide +kernel
theorem dX12_wholeBehind_7 : decode cX12_wholeBehind 7 = .ok (.getfield 35, 3) := by decide +kernel
theorem dX12_wholeBehind_10 : decode cX12_wholeBehind 10 = .ok (.iconst 2, 1) := by decide +kernel
theorem dX12_wholeBehind_11 : decode cX12_wholeBehind 11 = .ok (.iaload, 1) := by decide +kernel
theorem dX12_wholeBehind_12 : decode cX12_wholeBehind 12 = .ok (.ishl, 1) := by decide +kernel
theorem dX12_wholeBehind_13 : decode cX12_wholeBehind 13 = .ok (.iconst 1, 1) := by decide +kernel
theorem dX12_wholeBehind_14 : decode cX12_wholeBehind 14 = .ok (.isub, 1) := by decide +kernel
theorem dX12_wholeBehind_15 : decode cX12_wholeBehind 15 = .ok (.istore_n 3, 1) := by decide +kernel
theorem dX12_wholeBehind_16 : decode cX12_wholeBehind 16 = .ok (.iconst 0, 1) := by decide +kernel
theorem dX12_wholeBehind_17 : decode cX12_wholeBehind 17 = .ok (.istore 4, 2) := by decide +kernel
theorem dX12_wholeBehind_19 : decode cX12_wholeBehind 19 = .ok (.iload 4, 2) := by decide +kernel
theorem dX12_wholeBehind_21 : decode cX12_wholeBehind 21 = .ok (.bipush 8, 2) := by decide +kernel
theorem dX12_wholeBehind_23 : decode cX12_wholeBehind 23 = .ok (.if_icmp .ge 17, 3) := by decide +kernel
theorem dX12_wholeBehind_26 : decode cX12_wholeBehind 26 = .ok (.aload_n 0, 1) := by decide +kernel
theorem dX12_wholeBehind_27 : decode cX12_wholeBehind 27 = .ok (.getfield 83, 3) := by decide +kernel
theorem dX12_wholeBehind_30 : decode cX12_wholeBehind 30 = .ok (.iload 4, 2) := by decide +kernel
theorem dX12_wholeBehind_32 : decode cX12_wholeBehind 32 = .ok (.iconst 0, 1) := by decide +kernel
theorem dX12_wholeBehind_33 : decode cX12_wholeBehind 33 = .ok (.iastore, 1) := by decide +kernel
theorem dX12_wholeBehind_34 : decode cX12_wholeBehind 34 = .ok (.iinc 4 1, 3) := by decide +kernel
theorem dX12_wholeBehind_37 : decode cX12_wholeBehind 37 = .ok (.goto (-18), 3) := by decide +kernel
theorem dX12_wholeBehind_40 : decode cX12_wholeBehind 40 = .ok (.iconst 1, 1) := by decide +kernel
theorem dX12_wholeBehind_41 : decode cX12_wholeBehind 41 = .ok (.istore 4, 2) := by decide +kernel
theorem dX12_wholeBehind_43 : decode cX12_wholeBehind 43 = .ok (.iload 4, 2) := by decide +kernel
theorem dX12_wholeBehind_45 : decode cX12_wholeBehind 45 = .ok (.iload_n 2, 1) := by decide +kernel
theorem dX12_wholeBehind_46 : decode cX12_wholeBehind 46 = .ok (.if_icmp .gt 77, 3) := by decide +kernel
theorem dX12_wholeBehind_49 : decode cX12_wholeBehind 49 = .ok (.iconst 0, 1) := by decide +kernel
theorem dX12_wholeBehind_50 : decode cX12_wholeBehind 50 = .ok (.istore 5, 2) := by decide +kernel
theorem dX12_wholeBehind_52 : decode cX12_wholeBehind 52 = .ok (.iload 5, 2) := by decide +kernel
theorem dX12_wholeBehind_54 : decode cX12_wholeBehind 54 = .ok (.aload_n 0, 1) := by decide +kernel
theorem dX12_wholeBehind_55 : decode cX12_wholeBehind 55 = .ok (.getfield 35, 3) := by decide +kernel
theorem dX12_wholeBehind_58 : decode cX12_wholeBehind 58 = .ok (.iconst 2, 1) := by decide +kernel
theorem dX12_wholeBehind_59 : decode cX12_wholeBehind 59 = .ok (.iaload, 1) := by decide +kernel
theorem dX12_wholeBehind_60 : decode cX12_wholeBehind 60 = .ok (.if_icmp .ge 57, 3) := by decide +kernel
theorem dX12_wholeBehind_63 : decode cX12_wholeBehind 63 = .ok (.iload_n 3, 1) := by decide +kernel
theorem dX12_wholeBehind_64 : decode cX12_wholeBehind 64 = .ok (.iload 5, 2) := by decide +kernel
theorem dX12_wholeBehind_66 : decode cX12_wholeBehind 66 = .ok (.invokestatic 402, 3) := by decide +kernel
theorem dX12_wholeBehind_69 : decode cX12_wholeBehind 69 = .ok (.ifCond .eq 42, 3) := by decide +kernel
theorem dX12_wholeBehind_72 : decode cX12_wholeBehind 72 = .ok (.aload_n 0, 1) := by decide +kernel
theorem dX12_wholeBehind_73 : decode cX12_wholeBehind 73 = .ok (.invokevirtual 479, 3) := by decide +kernel
theorem dX12_wholeBehind_76 : decode cX12_wholeBehind 76 = .ok (.aload_n 0, 1) := by decide +kernel
theorem dX12_wholeBehind_77 : decode cX12_wholeBehind 77 = .ok (.getfield 35, 3) := by decide +kernel
theorem dX12_wholeBehind_80 : decode cX12_wholeBehind 80 = .ok (.sipush 180, 3) := by decide +kernel
theorem dX12_wholeBehind_83 : decode cX12_wholeBehind 83 = .ok (.iload 5, 2) := by decide +kernel
theorem dX12_wholeBehind_85 : decode cX12_wholeBehind 85 = .ok (.iadd, 1) := by decide +kernel
theorem dX12_wholeBehind_86 : decode cX12_wholeBehind 86 = .ok (.iaload, 1) := by decide +kernel
theorem dX12_wholeBehind_87 : decode cX12_wholeBehind 87 = .ok (.if_icmp .lt 6, 3) := by decide +kernel
theorem dX12_wholeBehind_90 : decode cX12_wholeBehind 90 = .ok (.goto 21, 3) := by decide +kernel
theorem dX12_wholeBehind_93 : decode cX12_wholeBehind 93 = .ok (.iload_n 3, 1) := by decide +kernel
theorem dX12_wholeBehind_94 : decode cX12_wholeBehind 94 = .ok (.iconst 1, 1) := by decide +kernel
theorem dX12_wholeBehind_95 : decode cX12_wholeBehind 95 = .ok (.iload 5, 2) := by decide +kernel
theorem dX12_wholeBehind_97 : decode cX12_wholeBehind 97 = .ok (.ishl, 1) := by decide +kernel
theorem dX12_wholeBehind_98 : decode cX12_wholeBehind 98 = .ok (.iconst (-1), 1) := by decide +kernel
theorem dX12_wholeBehind_99 : decode cX12_wholeBehind 99 = .ok (.ixor, 1) := by decide +kernel
theorem dX12_wholeBehind_100 : decode cX12_wholeBehind 100 = .ok (.iand, 1) := by decide +kernel
theorem dX12_wholeBehind_101 : decode cX12_wholeBehind 101 = .ok (.istore_n 3, 1) := by decide +kernel
theorem dX12_wholeBehind_102 : decode cX12_wholeBehind 102 = .ok (.aload_n 0, 1) := by decide +kernel
theorem dX12_wholeBehind_103 : decode cX12_wholeBehind 103 = .ok (.getfield 83, 3) := by decide +kernel
theorem dX12_wholeBehind_106 : decode cX12_wholeBehind 106 = .ok (.iload 5, 2) := by decide +kernel
theorem dX12_wholeBehind_108 : decode cX12_wholeBehind 108 = .ok (.iload 4, 2) := by decide +kernel
theorem dX12_wholeBehind_110 : decode cX12_wholeBehind 110 = .ok (.iastore, 1) := by decide +kernel
theorem dX12_wholeBehind_111 : decode cX12_wholeBehind 111 = .ok (.iinc 5 1, 3) := by decide +kernel
theorem dX12_wholeBehind_114 : decode cX12_wholeBehind 114 = .ok (.goto (-62), 3) := by decide +kernel
theorem dX12_wholeBehind_117 : decode cX12_wholeBehind 117 = .ok (.iinc 4 1, 3) := by decide +kernel
theorem dX12_wholeBehind_120 : decode cX12_wholeBehind 120 = .ok (.goto (-77), 3) := by decide +kernel
theorem dX12_wholeBehind_123 : decode cX12_wholeBehind 123 = .ok (.iload_n 3, 1) := by decide +kernel
theorem dX12_wholeBehind_124 : decode cX12_wholeBehind 124 = .ok (.ireturn, 1) := by decide +kernel
theorem dX12_road_0 : decode cX12_road 0 = .ok (.aload_n 0, 1) := by decide +kernel
theorem dX12_road_1 : decode cX12_road 1 = .ok (.iconst 0, 1) := by decide +kernel
theorem dX12_road_2 : decode cX12_road 2 = .ok (.putfield 89, 3) := by decide +kernel
theorem dX12_road_5 : decode cX12_road 5 = .ok (.aload_n 0, 1) := by decide +kernel
theorem dX12_road_6 : decode cX12_road 6 = .ok (.iconst 0, 1) := by decide +kernel
theorem dX12_road_7 : decode cX12_road 7 = .ok (.putfield 92, 3) := by decide +kernel
theorem dX12_road_10 : decode cX12_road 10 = .ok (.iload_n 1, 1) := by decide +kernel
theorem dX12_road_11 : decode cX12_road 11 = .ok (.i2l, 1) := by decide +kernel
theorem dX12_road_12 : decode cX12_road 12 = .ok (.lconst 0, 1) := by decide +kernel
theorem dX12_road_13 : decode cX12_road 13 = .ok (.ldc2_w 333, 3) := by decide +kernel
theorem dX12_road_16 : decode cX12_road 16 = .ok (.invokestatic 124, 3) := by decide +kernel
theorem dX12_road_19 : decode cX12_road 19 = .ok (.ifCond .eq 15, 3) := by decide +kernel
theorem dX12_road_22 : decode cX12_road 22 = .ok (.iload_n 2, 1) := by decide +kernel
theorem dX12_road_23 : decode cX12_road 23 = .ok (.i2l, 1) := by decide +kernel
theorem dX12_road_24 : decode cX12_road 24 = .ok (.lconst 1, 1) := by decide +kernel
theorem dX12_road_25 : decode cX12_road 25 = .ok (.ldc2_w 482, 3) := by decide +kernel
theorem dX12_road_28 : decode cX12_road 28 = .ok (.invokestatic 124, 3) := by decide +kernel
theorem dX12_road_31 : decode cX12_road 31 = .ok (.ifCond .ne 9, 3) := by decide +kernel
theorem dX12_road_34 : decode cX12_road 34 = .ok (.aload_n 0, 1) := by decide +kernel
theorem dX12_road_35 : decode cX12_road 35 = .ok (.iconst 5, 1) := by decide +kernel
theorem dX12_road_36 : decode cX12_road 36 = .ok (.invokevirtual 321, 3) := by decide +kernel
theorem dX12_road_39 : decode cX12_road 39 = .ok (.ireturn, 1) := by decide +kernel
theorem dX12_road_40 : decode cX12_road 40 = .ok (.aload_n 0, 1) := by decide +kernel
theorem dX12_road_41 : decode cX12_road 41 = .ok (.iload_n 1, 1) := by decide +kernel
theorem dX12_road_42 : decode cX12_road 42 = .ok (.iload_n 2, 1) := by decide +kernel
theorem dX12_road_43 : decode cX12_road 43 = .ok (.invokevirtual 484, 3) := by decide +kernel
theorem dX12_road_46 : decode cX12_road 46 = .ok (.istore_n 3, 1) := by decide +kernel
theorem dX12_road_47 : decode cX12_road 47 = .ok (.aload_n 0, 1) := by decide +kernel
theorem dX12_road_48 : decode cX12_road 48 = .ok (.iconst 1, 1) := by decide +kernel
theorem dX12_road_49 : decode cX12_road 49 = .ok (.putfield 302, 3) := by decide +kernel
theorem dX12_road_52 : decode cX12_road 52 = .ok (.iconst 0, 1) := by decide +kernel
theorem dX12_road_53 : decode cX12_road 53 = .ok (.istore 4, 2) := by decide +kernel
theorem dX12_road_55 : decode cX12_road 55 = .ok (.iload 4, 2) := by decide +kernel
theorem dX12_road_57 : decode cX12_road 57 = .ok (.bipush 8, 2) := by decide +kernel
theorem dX12_road_59 : decode cX12_road 59 = .ok (.if_icmp .ge 23, 3) := by decide +kernel
theorem dX12_road_62 : decode cX12_road 62 = .ok (.aload_n 0, 1) := by decide +kernel
theorem dX12_road_63 : decode cX12_road 63 = .ok (.getfield 86, 3) := by decide +kernel
theorem dX12_road_66 : decode cX12_road 66 = .ok (.iload 4, 2) := by decide +kernel
theorem dX12_road_68 : decode cX12_road 68 = .ok (.aload_n 0, 1) := by decide +kernel
theorem dX12_road_69 : decode cX12_road 69 = .ok (.getfield 83, 3) := by decide +kernel
theorem dX12_road_72 : decode cX12_road 72 = .ok (.iload 4, 2) := by decide +kernel
theorem dX12_road_74 : decode cX12_road 74 = .ok (.iaload, 1) := by decide +kernel
theorem dX12_road_75 : decode cX12_road 75 = .ok (.iastore, 1) := by decide +kernel
theorem dX12_road_76 : decode cX12_road 76 = .ok (.iinc 4 1, 3) := by decide +kernel
theorem dX12_road_79 : decode cX12_road 79 = .ok (.goto (-24), 3) := by decide +kernel
theorem dX12_road_82 : decode cX12_road 82 = .ok (.iload_n 3, 1) := by decide +kernel
theorem dX12_road_83 : decode cX12_road 83 = .ok (.ireturn, 1) := by decide +kernel
theorem dX12_brokeOn_0 : decode cX12_brokeOn 0 = .ok (.aload_n 0, 1) := by decide +kernel
theorem dX12_brokeOn_1 : decode cX12_brokeOn 1 = .ok (.iconst 0, 1) := by decide +kernel
theorem dX12_brokeOn_2 : decode cX12_brokeOn 2 = .ok (.putfield 89, 3) := by decide +kernel
theorem dX12_brokeOn_5 : decode cX12_brokeOn 5 = .ok (.aload_n 0, 1) := by decide +kernel
theorem dX12_brokeOn_6 : decode cX12_brokeOn 6 = .ok (.iconst 0, 1) := by decide +kernel
theorem dX12_brokeOn_7 : decode cX12_brokeOn 7 = .ok (.putfield 92, 3) := by decide +kernel
theorem dX12_brokeOn_10 : decode cX12_brokeOn 10 = .ok (.aload_n 0, 1) := by decide +kernel
theorem dX12_brokeOn_11 : decode cX12_brokeOn 11 = .ok (.iload_n 1, 1) := by decide +kernel
theorem dX12_brokeOn_12 : decode cX12_brokeOn 12 = .ok (.invokevirtual 330, 3) := by decide +kernel
theorem dX12_brokeOn_15 : decode cX12_brokeOn 15 = .ok (.ifCond .ne 9, 3) := by decide +kernel
theorem dX12_brokeOn_18 : decode cX12_brokeOn 18 = .ok (.aload_n 0, 1) := by decide +kernel
theorem dX12_brokeOn_19 : decode cX12_brokeOn 19 = .ok (.iconst 2, 1) := by decide +kernel
theorem dX12_brokeOn_20 : decode cX12_brokeOn 20 = .ok (.invokevirtual 321, 3) := by decide +kernel
theorem dX12_brokeOn_23 : decode cX12_brokeOn 23 = .ok (.ireturn, 1) := by decide +kernel
theorem dX12_brokeOn_24 : decode cX12_brokeOn 24 = .ok (.aload_n 0, 1) := by decide +kernel
theorem dX12_brokeOn_25 : decode cX12_brokeOn 25 = .ok (.getfield 302, 3) := by decide +kernel
theorem dX12_brokeOn_28 : decode cX12_brokeOn 28 = .ok (.ifCond .eq 12, 3) := by decide +kernel
theorem dX12_brokeOn_31 : decode cX12_brokeOn 31 = .ok (.aload_n 0, 1) := by decide +kernel
theorem dX12_brokeOn_32 : decode cX12_brokeOn 32 = .ok (.getfield 86, 3) := by decide +kernel
theorem dX12_brokeOn_35 : decode cX12_brokeOn 35 = .ok (.iload_n 1, 1) := by decide +kernel
theorem dX12_brokeOn_36 : decode cX12_brokeOn 36 = .ok (.iaload, 1) := by decide +kernel
theorem dX12_brokeOn_37 : decode cX12_brokeOn 37 = .ok (.ifCond .ne 12, 3) := by decide +kernel
theorem dX12_brokeOn_40 : decode cX12_brokeOn 40 = .ok (.aload_n 0, 1) := by decide +kernel
theorem dX12_brokeOn_41 : decode cX12_brokeOn 41 = .ok (.bipush 8, 2) := by decide +kernel
theorem dX12_brokeOn_43 : decode cX12_brokeOn 43 = .ok (.invokevirtual 321, 3) := by decide +kernel
theorem dX12_brokeOn_46 : decode cX12_brokeOn 46 = .ok (.goto 9, 3) := by decide +kernel
theorem dX12_brokeOn_49 : decode cX12_brokeOn 49 = .ok (.aload_n 0, 1) := by decide +kernel
theorem dX12_brokeOn_50 : decode cX12_brokeOn 50 = .ok (.getfield 86, 3) := by decide +kernel
theorem dX12_brokeOn_53 : decode cX12_brokeOn 53 = .ok (.iload_n 1, 1) := by decide +kernel
theorem dX12_brokeOn_54 : decode cX12_brokeOn 54 = .ok (.iaload, 1) := by decide +kernel
theorem dX12_brokeOn_55 : decode cX12_brokeOn 55 = .ok (.ireturn, 1) := by decide +kernel
theorem dX12_odds_0 : decode cX12_odds 0 = .ok (.aload_n 0, 1) := by decide +kernel
theorem dX12_odds_1 : decode cX12_odds 1 = .ok (.iconst 0, 1) := by decide +kernel
theorem dX12_odds_2 : decode cX12_odds 2 = .ok (.putfield 89, 3) := by decide +kernel
theorem dX12_odds_5 : decode cX12_odds 5 = .ok (.aload_n 0, 1) := by decide +kernel
theorem dX12_odds_6 : decode cX12_odds 6 = .ok (.iconst 0, 1) := by decide +kernel
theorem dX12_odds_7 : decode cX12_odds 7 = .ok (.putfield 92, 3) := by decide +kernel
theorem dX12_odds_10 : decode cX12_odds 10 = .ok (.aload_n 0, 1) := by decide +kernel
theorem dX12_odds_11 : decode cX12_odds 11 = .ok (.iload_n 1, 1) := by decide +kernel
theorem dX12_odds_12 : decode cX12_odds 12 = .ok (.invokevirtual 324, 3) := by decide +kernel
theorem dX12_odds_15 : decode cX12_odds 15 = .ok (.ifCond .ne 9, 3) := by decide +kernel
theorem dX12_odds_18 : decode cX12_odds 18 = .ok (.aload_n 0, 1) := by decide +kernel
theorem dX12_odds_19 : decode cX12_odds 19 = .ok (.iconst 2, 1) := by decide +kernel
theorem dX12_odds_20 : decode cX12_odds 20 = .ok (.invokevirtual 104, 3) := by decide +kernel
theorem dX12_odds_23 : decode cX12_odds 23 = .ok (.ireturn, 1) := by decide +kernel
theorem dX12_odds_24 : decode cX12_odds 24 = .ok (.iload_n 2, 1) := by decide +kernel
theorem dX12_odds_25 : decode cX12_odds 25 = .ok (.i2l, 1) := by decide +kernel
theorem dX12_odds_26 : decode cX12_odds 26 = .ok (.lconst 1, 1) := by decide +kernel
theorem dX12_odds_27 : decode cX12_odds 27 = .ok (.ldc2_w 482, 3) := by decide +kernel
theorem dX12_odds_30 : decode cX12_odds 30 = .ok (.invokestatic 124, 3) := by decide +kernel
theorem dX12_odds_33 : decode cX12_odds 33 = .ok (.ifCond .eq 32, 3) := by decide +kernel
theorem dX12_odds_36 : decode cX12_odds 36 = .ok (.iload 4, 2) := by decide +kernel
theorem dX12_odds_38 : decode cX12_odds 38 = .ok (.i2l, 1) := by decide +kernel
theorem dX12_odds_39 : decode cX12_odds 39 = .ok (.lconst 1, 1) := by decide +kernel
theorem dX12_odds_40 : decode cX12_odds 40 = .ok (.ldc2_w 487, 3) := by decide +kernel
theorem dX12_odds_43 : decode cX12_odds 43 = .ok (.invokestatic 124, 3) := by decide +kernel
theorem dX12_odds_46 : decode cX12_odds 46 = .ok (.ifCond .eq 19, 3) := by decide +kernel
theorem dX12_odds_49 : decode cX12_odds 49 = .ok (.iload_n 3, 1) := by decide +kernel
theorem dX12_odds_50 : decode cX12_odds 50 = .ok (.i2l, 1) := by decide +kernel
theorem dX12_odds_51 : decode cX12_odds 51 = .ok (.lconst 0, 1) := by decide +kernel
theorem dX12_odds_52 : decode cX12_odds 52 = .ok (.sipush 10000, 3) := by decide +kernel
theorem dX12_odds_55 : decode cX12_odds 55 = .ok (.iload 4, 2) := by decide +kernel
theorem dX12_odds_57 : decode cX12_odds 57 = .ok (.isub, 1) := by decide +kernel
theorem dX12_odds_58 : decode cX12_odds 58 = .ok (.i2l, 1) := by decide +kernel
theorem dX12_odds_59 : decode cX12_odds 59 = .ok (.invokestatic 124, 3) := by decide +kernel
theorem dX12_odds_62 : decode cX12_odds 62 = .ok (.ifCond .ne 9, 3) := by decide +kernel
theorem dX12_odds_65 : decode cX12_odds 65 = .ok (.aload_n 0, 1) := by decide +kernel
theorem dX12_odds_66 : decode cX12_odds 66 = .ok (.iconst 5, 1) := by decide +kernel
theorem dX12_odds_67 : decode cX12_odds 67 = .ok (.invokevirtual 104, 3) := by decide +kernel
theorem dX12_odds_70 : decode cX12_odds 70 = .ok (.ireturn, 1) := by decide +kernel
theorem dX12_odds_71 : decode cX12_odds 71 = .ok (.iconst 0, 1) := by decide +kernel
theorem dX12_odds_72 : decode cX12_odds 72 = .ok (.istore 5, 2) := by decide +kernel
theorem dX12_odds_74 : decode cX12_odds 74 = .ok (.iconst 0, 1) := by decide +kernel
theorem dX12_odds_75 : decode cX12_odds 75 = .ok (.istore 6, 2) := by decide +kernel
theorem dX12_odds_77 : decode cX12_odds 77 = .ok (.iload 6, 2) := by decide +kernel
theorem dX12_odds_79 : decode cX12_odds 79 = .ok (.iload 4, 2) := by decide +kernel
theorem dX12_odds_81 : decode cX12_odds 81 = .ok (.if_icmp .ge 90, 3) := by decide +kernel
theorem dX12_odds_84 : decode cX12_odds 84 = .ok (.aload_n 0, 1) := by decide +kernel
theorem dX12_odds_85 : decode cX12_odds 85 = .ok (.iload_n 3, 1) := by decide +kernel
theorem dX12_odds_86 : decode cX12_odds 86 = .ok (.iload 6, 2) := by decide +kernel
theorem dX12_odds_88 : decode cX12_odds 88 = .ok (.iadd, 1) := by decide +kernel
theorem dX12_odds_89 : decode cX12_odds 89 = .ok (.iload_n 2, 1) := by decide +kernel
theorem dX12_odds_90 : decode cX12_odds 90 = .ok (.invokevirtual 484, 3) := by decide +kernel
theorem dX12_odds_93 : decode cX12_odds 93 = .ok (.istore 7, 2) := by decide +kernel
theorem dX12_odds_95 : decode cX12_odds 95 = .ok (.iconst 0, 1) := by decide +kernel
theorem dX12_odds_96 : decode cX12_odds 96 = .ok (.istore 8, 2) := by decide +kernel
theorem dX12_odds_98 : decode cX12_odds 98 = .ok (.iconst 0, 1) := by decide +kernel
theorem dX12_odds_99 : decode cX12_odds 99 = .ok (.istore 9, 2) := by decide +kernel
theorem dX12_odds_101 : decode cX12_odds 101 = .ok (.iload 9, 2) := by decide +kernel
theorem dX12_odds_103 : decode cX12_odds 103 = .ok (.aload_n 0, 1) := by decide +kernel
theorem dX12_odds_104 : decode cX12_odds 104 = .ok (.getfield 35, 3) := by decide +kernel
theorem dX12_odds_107 : decode cX12_odds 107 = .ok (.iconst 2, 1) := by decide +kernel
theorem dX12_odds_108 : decode cX12_odds 108 = .ok (.iaload, 1) := by decide +kernel
theorem dX12_odds_109 : decode cX12_odds 109 = .ok (.if_icmp .ge 41, 3) := by decide +kernel
theorem dX12_odds_112 : decode cX12_odds 112 = .ok (.iload 8, 2) := by decide +kernel
theorem dX12_odds_114 : decode cX12_odds 114 = .ok (.ifCond .ne 23, 3) := by decide +kernel
theorem dX12_odds_117 : decode cX12_odds 117 = .ok (.iload 7, 2) := by decide +kernel
theorem dX12_odds_119 : decode cX12_odds 119 = .ok (.iload 9, 2) := by decide +kernel
theorem dX12_odds_121 : decode cX12_odds 121 = .ok (.invokestatic 402, 3) := by decide +kernel
theorem dX12_odds_124 : decode cX12_odds 124 = .ok (.ifCond .eq 17, 3) := by decide +kernel
theorem dX12_odds_127 : decode cX12_odds 127 = .ok (.aload_n 0, 1) := by decide +kernel
theorem dX12_odds_128 : decode cX12_odds 128 = .ok (.iload 9, 2) := by decide +kernel
theorem dX12_odds_130 : decode cX12_odds 130 = .ok (.iload_n 1, 1) := by decide +kernel
theorem dX12_odds_131 : decode cX12_odds 131 = .ok (.invokevirtual 405, 3) := by decide +kernel
theorem dX12_odds_134 : decode cX12_odds 134 = .ok (.ifCond .le 7, 3) := by decide +kernel
theorem dX12_odds_137 : decode cX12_odds 137 = .ok (.iconst 1, 1) := by decide +kernel
theorem dX12_odds_138 : decode cX12_odds 138 = .ok (.goto 4, 3) := by decide +kernel
theorem dX12_odds_141 : decode cX12_odds 141 = .ok (.iconst 0, 1) := by decide +kernel
theorem dX12_odds_142 : decode cX12_odds 142 = .ok (.istore 8, 2) := by decide +kernel
theorem dX12_odds_144 : decode cX12_odds 144 = .ok (.iinc 9 1, 3) := by decide +kernel
theorem dX12_odds_147 : decode cX12_odds 147 = .ok (.goto (-46), 3) := by decide +kernel
theorem dX12_odds_150 : decode cX12_odds 150 = .ok (.iload 5, 2) := by decide +kernel
theorem dX12_odds_152 : decode cX12_odds 152 = .ok (.iload 8, 2) := by decide +kernel
theorem dX12_odds_154 : decode cX12_odds 154 = .ok (.ifCond .eq 7, 3) := by decide +kernel
theorem dX12_odds_157 : decode cX12_odds 157 = .ok (.iconst 1, 1) := by decide +kernel
theorem dX12_odds_158 : decode cX12_odds 158 = .ok (.goto 4, 3) := by decide +kernel
theorem dX12_odds_161 : decode cX12_odds 161 = .ok (.iconst 0, 1) := by decide +kernel
theorem dX12_odds_162 : decode cX12_odds 162 = .ok (.iadd, 1) := by decide +kernel
theorem dX12_odds_163 : decode cX12_odds 163 = .ok (.istore 5, 2) := by decide +kernel
theorem dX12_odds_165 : decode cX12_odds 165 = .ok (.iinc 6 1, 3) := by decide +kernel
theorem dX12_odds_168 : decode cX12_odds 168 = .ok (.goto (-91), 3) := by decide +kernel
theorem dX12_odds_171 : decode cX12_odds 171 = .ok (.aload_n 0, 1) := by decide +kernel
theorem dX12_odds_172 : decode cX12_odds 172 = .ok (.iload 5, 2) := by decide +kernel
theorem dX12_odds_174 : decode cX12_odds 174 = .ok (.i2l, 1) := by decide +kernel
theorem dX12_odds_175 : decode cX12_odds 175 = .ok (.iload 4, 2) := by decide +kernel
theorem dX12_odds_177 : decode cX12_odds 177 = .ok (.i2l, 1) := by decide +kernel
theorem dX12_odds_178 : decode cX12_odds 178 = .ok (.invokevirtual 489, 3) := by decide +kernel
theorem dX12_odds_181 : decode cX12_odds 181 = .ok (.ireturn, 1) := by decide +kernel
theorem dX12_power_0 : decode cX12_power 0 = .ok (.lconst 1, 1) := by decide +kernel
theorem dX12_power_1 : decode cX12_power 1 = .ok (.lstore_n 3, 1) := by decide +kernel
theorem dX12_power_2 : decode cX12_power 2 = .ok (.iconst 0, 1) := by decide +kernel
theorem dX12_power_3 : decode cX12_power 3 = .ok (.istore 5, 2) := by decide +kernel
theorem dX12_power_5 : decode cX12_power 5 = .ok (.iload 5, 2) := by decide +kernel
theorem dX12_power_7 : decode cX12_power 7 = .ok (.iload_n 2, 1) := by decide +kernel
theorem dX12_power_8 : decode cX12_power 8 = .ok (.if_icmp .ge 13, 3) := by decide +kernel
theorem dX12_power_11 : decode cX12_power 11 = .ok (.lload_n 3, 1) := by decide +kernel
theorem dX12_power_12 : decode cX12_power 12 = .ok (.lload_n 0, 1) := by decide +kernel
theorem dX12_power_13 : decode cX12_power 13 = .ok (.lmul, 1) := by decide +kernel
theorem dX12_power_14 : decode cX12_power 14 = .ok (.lstore_n 3, 1) := by decide +kernel
theorem dX12_power_15 : decode cX12_power 15 = .ok (.iinc 5 1, 3) := by decide +kernel
theorem dX12_power_18 : decode cX12_power 18 = .ok (.goto (-13), 3) := by decide +kernel
theorem dX12_power_21 : decode cX12_power 21 = .ok (.lload_n 3, 1) := by decide +kernel
theorem dX12_power_22 : decode cX12_power 22 = .ok (.lreturn, 1) := by decide +kernel
theorem dX12_safe_0 : decode cX12_safe 0 = .ok (.aload_n 0, 1) := by decide +kernel
theorem dX12_safe_1 : decode cX12_safe 1 = .ok (.iconst 0, 1) := by decide +kernel
theorem dX12_safe_2 : decode cX12_safe 2 = .ok (.putfield 89, 3) := by decide +kernel
theorem dX12_safe_5 : decode cX12_safe 5 = .ok (.aload_n 0, 1) := by decide +kernel
theorem dX12_safe_6 : decode cX12_safe 6 = .ok (.iconst 0, 1) := by decide +kernel
theorem dX12_safe_7 : decode cX12_safe 7 = .ok (.putfield 92, 3) := by decide +kernel
theorem dX12_safe_10 : decode cX12_safe 10 = .ok (.aload_n 0, 1) := by decide +kernel
theorem dX12_safe_11 : decode cX12_safe 11 = .ok (.iload_n 1, 1) := by decide +kernel
theorem dX12_safe_12 : decode cX12_safe 12 = .ok (.invokevirtual 330, 3) := by decide +kernel
theorem dX12_safe_15 : decode cX12_safe 15 = .ok (.ifCond .ne 9, 3) := by decide +kernel
theorem dX12_safe_18 : decode cX12_safe 18 = .ok (.aload_n 0, 1) := by decide +kernel
theorem dX12_safe_19 : decode cX12_safe 19 = .ok (.iconst 2, 1) := by decide +kernel
theorem dX12_safe_20 : decode cX12_safe 20 = .ok (.invokevirtual 104, 3) := by decide +kernel
theorem dX12_safe_23 : decode cX12_safe 23 = .ok (.ireturn, 1) := by decide +kernel
theorem dX12_safe_24 : decode cX12_safe 24 = .ok (.iload_n 2, 1) := by decide +kernel
theorem dX12_safe_25 : decode cX12_safe 25 = .ok (.i2l, 1) := by decide +kernel
theorem dX12_safe_26 : decode cX12_safe 26 = .ok (.lconst 1, 1) := by decide +kernel
theorem dX12_safe_27 : decode cX12_safe 27 = .ok (.ldc2_w 493, 3) := by decide +kernel
theorem dX12_safe_30 : decode cX12_safe 30 = .ok (.invokestatic 124, 3) := by decide +kernel
theorem dX12_safe_33 : decode cX12_safe 33 = .ok (.ifCond .eq 13, 3) := by decide +kernel
theorem dX12_safe_36 : decode cX12_safe 36 = .ok (.iload_n 3, 1) := by decide +kernel
theorem dX12_safe_37 : decode cX12_safe 37 = .ok (.i2l, 1) := by decide +kernel
theorem dX12_safe_38 : decode cX12_safe 38 = .ok (.lconst 0, 1) := by decide +kernel
theorem dX12_safe_39 : decode cX12_safe 39 = .ok (.lconst 1, 1) := by decide +kernel
theorem dX12_safe_40 : decode cX12_safe 40 = .ok (.invokestatic 124, 3) := by decide +kernel
theorem dX12_safe_43 : decode cX12_safe 43 = .ok (.ifCond .ne 9, 3) := by decide +kernel
theorem dX12_safe_46 : decode cX12_safe 46 = .ok (.aload_n 0, 1) := by decide +kernel
theorem dX12_safe_47 : decode cX12_safe 47 = .ok (.iconst 5, 1) := by decide +kernel
theorem dX12_safe_48 : decode cX12_safe 48 = .ok (.invokevirtual 104, 3) := by decide +kernel
theorem dX12_safe_51 : decode cX12_safe 51 = .ok (.ireturn, 1) := by decide +kernel
theorem dX12_safe_52 : decode cX12_safe 52 = .ok (.ldc2_w 495, 3) := by decide +kernel
theorem dX12_safe_55 : decode cX12_safe 55 = .ok (.aload_n 0, 1) := by decide +kernel
theorem dX12_safe_56 : decode cX12_safe 56 = .ok (.getfield 35, 3) := by decide +kernel
theorem dX12_safe_59 : decode cX12_safe 59 = .ok (.sipush 180, 3) := by decide +kernel
theorem dX12_safe_62 : decode cX12_safe 62 = .ok (.iload_n 1, 1) := by decide +kernel
theorem dX12_safe_63 : decode cX12_safe 63 = .ok (.iadd, 1) := by decide +kernel
theorem dX12_safe_64 : decode cX12_safe 64 = .ok (.iaload, 1) := by decide +kernel
theorem dX12_safe_65 : decode cX12_safe 65 = .ok (.i2l, 1) := by decide +kernel
theorem dX12_safe_66 : decode cX12_safe 66 = .ok (.lsub, 1) := by decide +kernel
theorem dX12_safe_67 : decode cX12_safe 67 = .ok (.iload_n 2, 1) := by decide +kernel
theorem dX12_safe_68 : decode cX12_safe 68 = .ok (.invokestatic 497, 3) := by decide +kernel
theorem dX12_safe_71 : decode cX12_safe 71 = .ok (.lstore 4, 2) := by decide +kernel
theorem dX12_safe_73 : decode cX12_safe 73 = .ok (.ldc2_w 495, 3) := by decide +kernel
theorem dX12_safe_76 : decode cX12_safe 76 = .ok (.iload_n 2, 1) := by decide +kernel
theorem dX12_safe_77 : decode cX12_safe 77 = .ok (.invokestatic 497, 3) := by decide +kernel
theorem dX12_safe_80 : decode cX12_safe 80 = .ok (.lstore 6, 2) := by decide +kernel
theorem dX12_safe_82 : decode cX12_safe 82 = .ok (.iload_n 3, 1) := by decide +kernel
theorem dX12_safe_83 : decode cX12_safe 83 = .ok (.ifCond .ne 14, 3) := by decide +kernel
theorem dX12_safe_86 : decode cX12_safe 86 = .ok (.aload_n 0, 1) := by decide +kernel
theorem dX12_safe_87 : decode cX12_safe 87 = .ok (.lload 4, 2) := by decide +kernel
theorem dX12_safe_89 : decode cX12_safe 89 = .ok (.lload 6, 2) := by decide +kernel
theorem dX12_safe_91 : decode cX12_safe 91 = .ok (.invokevirtual 489, 3) := by decide +kernel
theorem dX12_safe_94 : decode cX12_safe 94 = .ok (.goto 29, 3) := by decide +kernel
theorem dX12_safe_97 : decode cX12_safe 97 = .ok (.aload_n 0, 1) := by decide +kernel
theorem dX12_safe_98 : decode cX12_safe 98 = .ok (.lload 6, 2) := by decide +kernel
theorem dX12_safe_100 : decode cX12_safe 100 = .ok (.lload 6, 2) := by decide +kernel
theorem dX12_safe_102 : decode cX12_safe 102 = .ok (.lmul, 1) := by decide +kernel
theorem dX12_safe_103 : decode cX12_safe 103 = .ok (.lload 6, 2) := by decide +kernel
theorem dX12_safe_105 : decode cX12_safe 105 = .ok (.lload 4, 2) := by decide +kernel
theorem dX12_safe_107 : decode cX12_safe 107 = .ok (.lsub, 1) := by decide +kernel
theorem dX12_safe_108 : decode cX12_safe 108 = .ok (.lload 6, 2) := by decide +kernel
theorem dX12_safe_110 : decode cX12_safe 110 = .ok (.lload 4, 2) := by decide +kernel
theorem dX12_safe_112 : decode cX12_safe 112 = .ok (.lsub, 1) := by decide +kernel
theorem dX12_safe_113 : decode cX12_safe 113 = .ok (.lmul, 1) := by decide +kernel
theorem dX12_safe_114 : decode cX12_safe 114 = .ok (.lsub, 1) := by decide +kernel
theorem dX12_safe_115 : decode cX12_safe 115 = .ok (.lload 6, 2) := by decide +kernel
theorem dX12_safe_117 : decode cX12_safe 117 = .ok (.lload 6, 2) := by decide +kernel
theorem dX12_safe_119 : decode cX12_safe 119 = .ok (.lmul, 1) := by decide +kernel
theorem dX12_safe_120 : decode cX12_safe 120 = .ok (.invokevirtual 489, 3) := by decide +kernel
theorem dX12_safe_123 : decode cX12_safe 123 = .ok (.ireturn, 1) := by decide +kernel
theorem dX12_reads_0 : decode cX12_reads 0 = .ok (.aload_n 0, 1) := by decide +kernel
theorem dX12_reads_1 : decode cX12_reads 1 = .ok (.iload_n 1, 1) := by decide +kernel
theorem dX12_reads_2 : decode cX12_reads 2 = .ok (.invokevirtual 351, 3) := by decide +kernel
theorem dX12_reads_5 : decode cX12_reads 5 = .ok (.ifCond .eq 19, 3) := by decide +kernel
theorem dX12_reads_8 : decode cX12_reads 8 = .ok (.aload_n 0, 1) := by decide +kernel
theorem dX12_reads_9 : decode cX12_reads 9 = .ok (.iload_n 2, 1) := by decide +kernel
theorem dX12_reads_10 : decode cX12_reads 10 = .ok (.invokevirtual 351, 3) := by decide +kernel
theorem dX12_reads_13 : decode cX12_reads 13 = .ok (.ifCond .eq 11, 3) := by decide +kernel
theorem dX12_reads_16 : decode cX12_reads 16 = .ok (.aload_n 0, 1) := by decide +kernel
theorem dX12_reads_17 : decode cX12_reads 17 = .ok (.iload_n 3, 1) := by decide +kernel
theorem dX12_reads_18 : decode cX12_reads 18 = .ok (.invokevirtual 351, 3) := by decide +kernel
theorem dX12_reads_21 : decode cX12_reads 21 = .ok (.ifCond .ne 5, 3) := by decide +kernel
theorem dX12_reads_24 : decode cX12_reads 24 = .ok (.iconst 1, 1) := by decide +kernel
theorem dX12_reads_25 : decode cX12_reads 25 = .ok (.ireturn, 1) := by decide +kernel
theorem dX12_reads_26 : decode cX12_reads 26 = .ok (.aload_n 0, 1) := by decide +kernel
theorem dX12_reads_27 : decode cX12_reads 27 = .ok (.getfield 17, 3) := by decide +kernel
theorem dX12_reads_30 : decode cX12_reads 30 = .ok (.iload_n 1, 1) := by decide +kernel
theorem dX12_reads_31 : decode cX12_reads 31 = .ok (.iaload, 1) := by decide +kernel
theorem dX12_reads_32 : decode cX12_reads 32 = .ok (.ifCond .lt 21, 3) := by decide +kernel
theorem dX12_reads_35 : decode cX12_reads 35 = .ok (.aload_n 0, 1) := by decide +kernel
theorem dX12_reads_36 : decode cX12_reads 36 = .ok (.getfield 17, 3) := by decide +kernel
theorem dX12_reads_39 : decode cX12_reads 39 = .ok (.iload_n 2, 1) := by decide +kernel
theorem dX12_reads_40 : decode cX12_reads 40 = .ok (.iaload, 1) := by decide +kernel
theorem dX12_reads_41 : decode cX12_reads 41 = .ok (.ifCond .lt 12, 3) := by decide +kernel
theorem dX12_reads_44 : decode cX12_reads 44 = .ok (.aload_n 0, 1) := by decide +kernel
theorem dX12_reads_45 : decode cX12_reads 45 = .ok (.getfield 17, 3) := by decide +kernel
theorem dX12_reads_48 : decode cX12_reads 48 = .ok (.iload_n 3, 1) := by decide +kernel
theorem dX12_reads_49 : decode cX12_reads 49 = .ok (.iaload, 1) := by decide +kernel
theorem dX12_reads_50 : decode cX12_reads 50 = .ok (.ifCond .ge 5, 3) := by decide +kernel
theorem dX12_reads_53 : decode cX12_reads 53 = .ok (.iconst 3, 1) := by decide +kernel
theorem dX12_reads_54 : decode cX12_reads 54 = .ok (.ireturn, 1) := by decide +kernel
theorem dX12_reads_55 : decode cX12_reads 55 = .ok (.aload_n 0, 1) := by decide +kernel
theorem dX12_reads_56 : decode cX12_reads 56 = .ok (.getfield 17, 3) := by decide +kernel
theorem dX12_reads_59 : decode cX12_reads 59 = .ok (.iload_n 1, 1) := by decide +kernel
theorem dX12_reads_60 : decode cX12_reads 60 = .ok (.iaload, 1) := by decide +kernel
theorem dX12_reads_61 : decode cX12_reads 61 = .ok (.iload 4, 2) := by decide +kernel
theorem dX12_reads_63 : decode cX12_reads 63 = .ok (.if_icmp .lt 25, 3) := by decide +kernel
theorem dX12_reads_66 : decode cX12_reads 66 = .ok (.aload_n 0, 1) := by decide +kernel
theorem dX12_reads_67 : decode cX12_reads 67 = .ok (.getfield 17, 3) := by decide +kernel
theorem dX12_reads_70 : decode cX12_reads 70 = .ok (.iload_n 2, 1) := by decide +kernel
theorem dX12_reads_71 : decode cX12_reads 71 = .ok (.iaload, 1) := by decide +kernel
theorem dX12_reads_72 : decode cX12_reads 72 = .ok (.iload 4, 2) := by decide +kernel
theorem dX12_reads_74 : decode cX12_reads 74 = .ok (.if_icmp .lt 14, 3) := by decide +kernel
theorem dX12_reads_77 : decode cX12_reads 77 = .ok (.aload_n 0, 1) := by decide +kernel
theorem dX12_reads_78 : decode cX12_reads 78 = .ok (.getfield 17, 3) := by decide +kernel
theorem dX12_reads_81 : decode cX12_reads 81 = .ok (.iload_n 3, 1) := by decide +kernel
theorem dX12_reads_82 : decode cX12_reads 82 = .ok (.iaload, 1) := by decide +kernel
theorem dX12_reads_83 : decode cX12_reads 83 = .ok (.iload 4, 2) := by decide +kernel
theorem dX12_reads_85 : decode cX12_reads 85 = .ok (.if_icmp .ge 5, 3) := by decide +kernel
theorem dX12_reads_88 : decode cX12_reads 88 = .ok (.iconst 4, 1) := by decide +kernel
theorem dX12_reads_89 : decode cX12_reads 89 = .ok (.ireturn, 1) := by decide +kernel
theorem dX12_reads_90 : decode cX12_reads 90 = .ok (.iload 4, 2) := by decide +kernel
theorem dX12_reads_92 : decode cX12_reads 92 = .ok (.i2l, 1) := by decide +kernel
theorem dX12_reads_93 : decode cX12_reads 93 = .ok (.lconst 1, 1) := by decide +kernel
theorem dX12_reads_94 : decode cX12_reads 94 = .ok (.ldc2_w 495, 3) := by decide +kernel
theorem dX12_reads_97 : decode cX12_reads 97 = .ok (.invokestatic 124, 3) := by decide +kernel
theorem dX12_reads_100 : decode cX12_reads 100 = .ok (.ifCond .eq 25, 3) := by decide +kernel
theorem dX12_reads_103 : decode cX12_reads 103 = .ok (.aload_n 0, 1) := by decide +kernel
theorem dX12_reads_104 : decode cX12_reads 104 = .ok (.iload_n 1, 1) := by decide +kernel
theorem dX12_reads_105 : decode cX12_reads 105 = .ok (.iload 4, 2) := by decide +kernel
theorem dX12_reads_107 : decode cX12_reads 107 = .ok (.iconst 1, 1) := by decide +kernel
theorem dX12_reads_108 : decode cX12_reads 108 = .ok (.invokevirtual 393, 3) := by decide +kernel
theorem dX12_reads_111 : decode cX12_reads 111 = .ok (.ifCond .gt 14, 3) := by decide +kernel
theorem dX12_reads_114 : decode cX12_reads 114 = .ok (.aload_n 0, 1) := by decide +kernel
theorem dX12_reads_115 : decode cX12_reads 115 = .ok (.iload_n 2, 1) := by decide +kernel
theorem dX12_reads_116 : decode cX12_reads 116 = .ok (.iload 4, 2) := by decide +kernel
theorem dX12_reads_118 : decode cX12_reads 118 = .ok (.iconst 1, 1) := by decide +kernel
theorem dX12_reads_119 : decode cX12_reads 119 = .ok (.invokevirtual 393, 3) := by decide +kernel
theorem dX12_reads_122 : decode cX12_reads 122 = .ok (.ifCond .le 5, 3) := by decide +kernel
theorem dX12_reads_125 : decode cX12_reads 125 = .ok (.iconst 5, 1) := by decide +kernel
theorem dX12_reads_126 : decode cX12_reads 126 = .ok (.ireturn, 1) := by decide +kernel
theorem dX12_reads_127 : decode cX12_reads 127 = .ok (.iconst 0, 1) := by decide +kernel
theorem dX12_reads_128 : decode cX12_reads 128 = .ok (.istore 5, 2) := by decide +kernel
theorem dX12_reads_130 : decode cX12_reads 130 = .ok (.iload 5, 2) := by decide +kernel
theorem dX12_reads_132 : decode cX12_reads 132 = .ok (.iload 4, 2) := by decide +kernel
theorem dX12_reads_134 : decode cX12_reads 134 = .ok (.if_icmp .ge 39, 3) := by decide +kernel
theorem dX12_reads_137 : decode cX12_reads 137 = .ok (.aload_n 0, 1) := by decide +kernel
theorem dX12_reads_138 : decode cX12_reads 138 = .ok (.getfield 44, 3) := by decide +kernel
theorem dX12_reads_141 : decode cX12_reads 141 = .ok (.iload 5, 2) := by decide +kernel
theorem dX12_reads_143 : decode cX12_reads 143 = .ok (.aload_n 0, 1) := by decide +kernel
theorem dX12_reads_144 : decode cX12_reads 144 = .ok (.iload_n 1, 1) := by decide +kernel
theorem dX12_reads_145 : decode cX12_reads 145 = .ok (.iload 5, 2) := by decide +kernel
theorem dX12_reads_147 : decode cX12_reads 147 = .ok (.invokevirtual 387, 3) := by decide +kernel
theorem dX12_reads_150 : decode cX12_reads 150 = .ok (.l2i, 1) := by decide +kernel
theorem dX12_reads_151 : decode cX12_reads 151 = .ok (.iastore, 1) := by decide +kernel
theorem dX12_reads_152 : decode cX12_reads 152 = .ok (.aload_n 0, 1) := by decide +kernel
theorem dX12_reads_153 : decode cX12_reads 153 = .ok (.getfield 47, 3) := by decide +kernel
theorem dX12_reads_156 : decode cX12_reads 156 = .ok (.iload 5, 2) := by decide +kernel
theorem dX12_reads_158 : decode cX12_reads 158 = .ok (.aload_n 0, 1) := by decide +kernel
theorem dX12_reads_159 : decode cX12_reads 159 = .ok (.iload_n 2, 1) := by decide +kernel
theorem dX12_reads_160 : decode cX12_reads 160 = .ok (.iload 5, 2) := by decide +kernel
theorem dX12_reads_162 : decode cX12_reads 162 = .ok (.invokevirtual 387, 3) := by decide +kernel
theorem dX12_reads_165 : decode cX12_reads 165 = .ok (.l2i, 1) := by decide +kernel
theorem dX12_reads_166 : decode cX12_reads 166 = .ok (.iastore, 1) := by decide +kernel
theorem dX12_reads_167 : decode cX12_reads 167 = .ok (.iinc 5 1, 3) := by decide +kernel
theorem dX12_reads_170 : decode cX12_reads 170 = .ok (.goto (-40), 3) := by decide +kernel
theorem dX12_reads_173 : decode cX12_reads 173 = .ok (.iconst 0, 1) := by decide +kernel
theorem dX12_reads_174 : decode cX12_reads 174 = .ok (.ireturn, 1) := by decide +kernel
theorem dX12_third_0 : decode cX12_third 0 = .ok (.aload_n 0, 1) := by decide +kernel
theorem dX12_third_1 : decode cX12_third 1 = .ok (.iconst 0, 1) := by decide +kernel
theorem dX12_third_2 : decode cX12_third 2 = .ok (.putfield 89, 3) := by decide +kernel
theorem dX12_third_5 : decode cX12_third 5 = .ok (.aload_n 0, 1) := by decide +kernel
theorem dX12_third_6 : decode cX12_third 6 = .ok (.aload_n 0, 1) := by decide +kernel
theorem dX12_third_7 : decode cX12_third 7 = .ok (.iload_n 1, 1) := by decide +kernel
theorem dX12_third_8 : decode cX12_third 8 = .ok (.iload_n 2, 1) := by decide +kernel
theorem dX12_third_9 : decode cX12_third 9 = .ok (.iload_n 3, 1) := by decide +kernel
theorem dX12_third_10 : decode cX12_third 10 = .ok (.iload 4, 2) := by decide +kernel
theorem dX12_third_12 : decode cX12_third 12 = .ok (.invokevirtual 501, 3) := by decide +kernel
theorem dX12_third_15 : decode cX12_third 15 = .ok (.putfield 92, 3) := by decide +kernel
theorem dX12_third_18 : decode cX12_third 18 = .ok (.iconst 0, 1) := by decide +kernel
theorem dX12_third_19 : decode cX12_third 19 = .ok (.istore 5, 2) := by decide +kernel
theorem dX12_third_21 : decode cX12_third 21 = .ok (.iload 5, 2) := by decide +kernel
theorem dX12_third_23 : decode cX12_third 23 = .ok (.iload 4, 2) := by decide +kernel
theorem dX12_third_25 : decode cX12_third 25 = .ok (.if_icmp .ge 45, 3) := by decide +kernel
theorem dX12_third_28 : decode cX12_third 28 = .ok (.aload_n 0, 1) := by decide +kernel
theorem dX12_third_29 : decode cX12_third 29 = .ok (.getfield 92, 3) := by decide +kernel
theorem dX12_third_32 : decode cX12_third 32 = .ok (.ifCond .ne 38, 3) := by decide +kernel
theorem dX12_third_35 : decode cX12_third 35 = .ok (.aload_n 0, 1) := by decide +kernel
theorem dX12_third_36 : decode cX12_third 36 = .ok (.iload_n 3, 1) := by decide +kernel
theorem dX12_third_37 : decode cX12_third 37 = .ok (.iload 5, 2) := by decide +kernel
theorem dX12_third_39 : decode cX12_third 39 = .ok (.aload_n 0, 1) := by decide +kernel
theorem dX12_third_40 : decode cX12_third 40 = .ok (.getfield 44, 3) := by decide +kernel
theorem dX12_third_43 : decode cX12_third 43 = .ok (.iload 5, 2) := by decide +kernel
theorem dX12_third_45 : decode cX12_third 45 = .ok (.iaload, 1) := by decide +kernel
theorem dX12_third_46 : decode cX12_third 46 = .ok (.aload_n 0, 1) := by decide +kernel
theorem dX12_third_47 : decode cX12_third 47 = .ok (.getfield 47, 3) := by decide +kernel
theorem dX12_third_50 : decode cX12_third 50 = .ok (.iload 5, 2) := by decide +kernel
theorem dX12_third_52 : decode cX12_third 52 = .ok (.iaload, 1) := by decide +kernel
theorem dX12_third_53 : decode cX12_third 53 = .ok (.iadd, 1) := by decide +kernel
theorem dX12_third_54 : decode cX12_third 54 = .ok (.iconst 2, 1) := by decide +kernel
theorem dX12_third_55 : decode cX12_third 55 = .ok (.isub, 1) := by decide +kernel
theorem dX12_third_56 : decode cX12_third 56 = .ok (.bipush 26, 2) := by decide +kernel
theorem dX12_third_58 : decode cX12_third 58 = .ok (.irem, 1) := by decide +kernel
theorem dX12_third_59 : decode cX12_third 59 = .ok (.iconst 1, 1) := by decide +kernel
theorem dX12_third_60 : decode cX12_third 60 = .ok (.iadd, 1) := by decide +kernel
theorem dX12_third_61 : decode cX12_third 61 = .ok (.invokevirtual 357, 3) := by decide +kernel
theorem dX12_third_64 : decode cX12_third 64 = .ok (.iinc 5 1, 3) := by decide +kernel
theorem dX12_third_67 : decode cX12_third 67 = .ok (.goto (-46), 3) := by decide +kernel
theorem dX12_third_70 : decode cX12_third 70 = .ok (.aload_n 0, 1) := by decide +kernel
theorem dX12_third_71 : decode cX12_third 71 = .ok (.getfield 92, 3) := by decide +kernel
theorem dX12_third_74 : decode cX12_third 74 = .ok (.ifCond .ne 7, 3) := by decide +kernel
theorem dX12_third_77 : decode cX12_third 77 = .ok (.iconst 1, 1) := by decide +kernel
theorem dX12_third_78 : decode cX12_third 78 = .ok (.goto 4, 3) := by decide +kernel
theorem dX12_third_81 : decode cX12_third 81 = .ok (.iconst 0, 1) := by decide +kernel
theorem dX12_third_82 : decode cX12_third 82 = .ok (.ireturn, 1) := by decide +kernel
theorem dX12_second_0 : decode cX12_second 0 = .ok (.aload_n 0, 1) := by decide +kernel
theorem dX12_second_1 : decode cX12_second 1 = .ok (.iconst 0, 1) := by decide +kernel
theorem dX12_second_2 : decode cX12_second 2 = .ok (.putfield 89, 3) := by decide +kernel
theorem dX12_second_5 : decode cX12_second 5 = .ok (.aload_n 0, 1) := by decide +kernel
theorem dX12_second_6 : decode cX12_second 6 = .ok (.aload_n 0, 1) := by decide +kernel
theorem dX12_second_7 : decode cX12_second 7 = .ok (.iload_n 1, 1) := by decide +kernel
theorem dX12_second_8 : decode cX12_second 8 = .ok (.iload_n 2, 1) := by decide +kernel
theorem dX12_second_9 : decode cX12_second 9 = .ok (.iload_n 3, 1) := by decide +kernel
theorem dX12_second_10 : decode cX12_second 10 = .ok (.iload 4, 2) := by decide +kernel
theorem dX12_second_12 : decode cX12_second 12 = .ok (.invokevirtual 501, 3) := by decide +kernel
theorem dX12_second_15 : decode cX12_second 15 = .ok (.putfield 92, 3) := by decide +kernel
theorem dX12_second_18 : decode cX12_second 18 = .ok (.iconst 0, 1) := by decide +kernel
theorem dX12_second_19 : decode cX12_second 19 = .ok (.istore 5, 2) := by decide +kernel
theorem dX12_second_21 : decode cX12_second 21 = .ok (.iload 5, 2) := by decide +kernel
theorem dX12_second_23 : decode cX12_second 23 = .ok (.iload 4, 2) := by decide +kernel
theorem dX12_second_25 : decode cX12_second 25 = .ok (.if_icmp .ge 46, 3) := by decide +kernel
theorem dX12_second_28 : decode cX12_second 28 = .ok (.aload_n 0, 1) := by decide +kernel
theorem dX12_second_29 : decode cX12_second 29 = .ok (.getfield 92, 3) := by decide +kernel
theorem dX12_second_32 : decode cX12_second 32 = .ok (.ifCond .ne 39, 3) := by decide +kernel
theorem dX12_second_35 : decode cX12_second 35 = .ok (.aload_n 0, 1) := by decide +kernel
theorem dX12_second_36 : decode cX12_second 36 = .ok (.iload_n 3, 1) := by decide +kernel
theorem dX12_second_37 : decode cX12_second 37 = .ok (.iload 5, 2) := by decide +kernel
theorem dX12_second_39 : decode cX12_second 39 = .ok (.aload_n 0, 1) := by decide +kernel
theorem dX12_second_40 : decode cX12_second 40 = .ok (.getfield 47, 3) := by decide +kernel
theorem dX12_second_43 : decode cX12_second 43 = .ok (.iload 5, 2) := by decide +kernel
theorem dX12_second_45 : decode cX12_second 45 = .ok (.iaload, 1) := by decide +kernel
theorem dX12_second_46 : decode cX12_second 46 = .ok (.aload_n 0, 1) := by decide +kernel
theorem dX12_second_47 : decode cX12_second 47 = .ok (.getfield 44, 3) := by decide +kernel
theorem dX12_second_50 : decode cX12_second 50 = .ok (.iload 5, 2) := by decide +kernel
theorem dX12_second_52 : decode cX12_second 52 = .ok (.iaload, 1) := by decide +kernel
theorem dX12_second_53 : decode cX12_second 53 = .ok (.isub, 1) := by decide +kernel
theorem dX12_second_54 : decode cX12_second 54 = .ok (.bipush 26, 2) := by decide +kernel
theorem dX12_second_56 : decode cX12_second 56 = .ok (.iadd, 1) := by decide +kernel
theorem dX12_second_57 : decode cX12_second 57 = .ok (.bipush 26, 2) := by decide +kernel
theorem dX12_second_59 : decode cX12_second 59 = .ok (.irem, 1) := by decide +kernel
theorem dX12_second_60 : decode cX12_second 60 = .ok (.iconst 1, 1) := by decide +kernel
theorem dX12_second_61 : decode cX12_second 61 = .ok (.iadd, 1) := by decide +kernel
theorem dX12_second_62 : decode cX12_second 62 = .ok (.invokevirtual 357, 3) := by decide +kernel
theorem dX12_second_65 : decode cX12_second 65 = .ok (.iinc 5 1, 3) := by decide +kernel
theorem dX12_second_68 : decode cX12_second 68 = .ok (.goto (-47), 3) := by decide +kernel
theorem dX12_second_71 : decode cX12_second 71 = .ok (.aload_n 0, 1) := by decide +kernel
theorem dX12_second_72 : decode cX12_second 72 = .ok (.getfield 92, 3) := by decide +kernel
theorem dX12_second_75 : decode cX12_second 75 = .ok (.ifCond .ne 7, 3) := by decide +kernel
theorem dX12_second_78 : decode cX12_second 78 = .ok (.iconst 1, 1) := by decide +kernel
theorem dX12_second_79 : decode cX12_second 79 = .ok (.goto 4, 3) := by decide +kernel
theorem dX12_second_82 : decode cX12_second 82 = .ok (.iconst 0, 1) := by decide +kernel
theorem dX12_second_83 : decode cX12_second 83 = .ok (.ireturn, 1) := by decide +kernel
theorem dX12_anyTwo_0 : decode cX12_anyTwo 0 = .ok (.aload_n 0, 1) := by decide +kernel
theorem dX12_anyTwo_1 : decode cX12_anyTwo 1 = .ok (.iconst 0, 1) := by decide +kernel
theorem dX12_anyTwo_2 : decode cX12_anyTwo 2 = .ok (.putfield 89, 3) := by decide +kernel
theorem dX12_anyTwo_5 : decode cX12_anyTwo 5 = .ok (.aload_n 0, 1) := by decide +kernel
theorem dX12_anyTwo_6 : decode cX12_anyTwo 6 = .ok (.iconst 0, 1) := by decide +kernel
theorem dX12_anyTwo_7 : decode cX12_anyTwo 7 = .ok (.putfield 92, 3) := by decide +kernel
theorem dX12_anyTwo_10 : decode cX12_anyTwo 10 = .ok (.aload_n 0, 1) := by decide +kernel
theorem dX12_anyTwo_11 : decode cX12_anyTwo 11 = .ok (.iload_n 1, 1) := by decide +kernel
theorem dX12_anyTwo_12 : decode cX12_anyTwo 12 = .ok (.invokevirtual 330, 3) := by decide +kernel
theorem dX12_anyTwo_15 : decode cX12_anyTwo 15 = .ok (.ifCond .eq 19, 3) := by decide +kernel
theorem dX12_anyTwo_18 : decode cX12_anyTwo 18 = .ok (.aload_n 0, 1) := by decide +kernel
theorem dX12_anyTwo_19 : decode cX12_anyTwo 19 = .ok (.iload_n 2, 1) := by decide +kernel
theorem dX12_anyTwo_20 : decode cX12_anyTwo 20 = .ok (.invokevirtual 330, 3) := by decide +kernel
theorem dX12_anyTwo_23 : decode cX12_anyTwo 23 = .ok (.ifCond .eq 11, 3) := by decide +kernel
theorem dX12_anyTwo_26 : decode cX12_anyTwo 26 = .ok (.aload_n 0, 1) := by decide +kernel
theorem dX12_anyTwo_27 : decode cX12_anyTwo 27 = .ok (.iload_n 3, 1) := by decide +kernel
theorem dX12_anyTwo_28 : decode cX12_anyTwo 28 = .ok (.invokevirtual 330, 3) := by decide +kernel
theorem dX12_anyTwo_31 : decode cX12_anyTwo 31 = .ok (.ifCond .ne 9, 3) := by decide +kernel
theorem dX12_anyTwo_34 : decode cX12_anyTwo 34 = .ok (.aload_n 0, 1) := by decide +kernel
theorem dX12_anyTwo_35 : decode cX12_anyTwo 35 = .ok (.iconst 2, 1) := by decide +kernel
theorem dX12_anyTwo_36 : decode cX12_anyTwo 36 = .ok (.invokevirtual 321, 3) := by decide +kernel
theorem dX12_anyTwo_39 : decode cX12_anyTwo 39 = .ok (.ireturn, 1) := by decide +kernel
theorem dX12_anyTwo_40 : decode cX12_anyTwo 40 = .ok (.aload_n 0, 1) := by decide +kernel
theorem dX12_anyTwo_41 : decode cX12_anyTwo 41 = .ok (.iload_n 1, 1) := by decide +kernel
theorem dX12_anyTwo_42 : decode cX12_anyTwo 42 = .ok (.invokevirtual 342, 3) := by decide +kernel
theorem dX12_anyTwo_45 : decode cX12_anyTwo 45 = .ok (.istore 4, 2) := by decide +kernel
theorem dX12_anyTwo_47 : decode cX12_anyTwo 47 = .ok (.iload 4, 2) := by decide +kernel
theorem dX12_anyTwo_49 : decode cX12_anyTwo 49 = .ok (.ifCond .eq 23, 3) := by decide +kernel
theorem dX12_anyTwo_52 : decode cX12_anyTwo 52 = .ok (.aload_n 0, 1) := by decide +kernel
theorem dX12_anyTwo_53 : decode cX12_anyTwo 53 = .ok (.iload_n 2, 1) := by decide +kernel
theorem dX12_anyTwo_54 : decode cX12_anyTwo 54 = .ok (.invokevirtual 342, 3) := by decide +kernel
theorem dX12_anyTwo_57 : decode cX12_anyTwo 57 = .ok (.iload 4, 2) := by decide +kernel
theorem dX12_anyTwo_59 : decode cX12_anyTwo 59 = .ok (.if_icmp .ne 13, 3) := by decide +kernel
theorem dX12_anyTwo_62 : decode cX12_anyTwo 62 = .ok (.aload_n 0, 1) := by decide +kernel
theorem dX12_anyTwo_63 : decode cX12_anyTwo 63 = .ok (.iload_n 3, 1) := by decide +kernel
theorem dX12_anyTwo_64 : decode cX12_anyTwo 64 = .ok (.invokevirtual 342, 3) := by decide +kernel
theorem dX12_anyTwo_67 : decode cX12_anyTwo 67 = .ok (.iload 4, 2) := by decide +kernel
theorem dX12_anyTwo_69 : decode cX12_anyTwo 69 = .ok (.if_icmp .eq 5, 3) := by decide +kernel
theorem dX12_anyTwo_72 : decode cX12_anyTwo 72 = .ok (.iconst 0, 1) := by decide +kernel
theorem dX12_anyTwo_73 : decode cX12_anyTwo 73 = .ok (.ireturn, 1) := by decide +kernel
theorem dX12_anyTwo_74 : decode cX12_anyTwo 74 = .ok (.iconst 0, 1) := by decide +kernel
theorem dX12_anyTwo_75 : decode cX12_anyTwo 75 = .ok (.istore 5, 2) := by decide +kernel
theorem dX12_anyTwo_77 : decode cX12_anyTwo 77 = .ok (.iload 5, 2) := by decide +kernel
theorem dX12_anyTwo_79 : decode cX12_anyTwo 79 = .ok (.iload 4, 2) := by decide +kernel
theorem dX12_anyTwo_81 : decode cX12_anyTwo 81 = .ok (.if_icmp .ge 43, 3) := by decide +kernel
theorem dX12_anyTwo_84 : decode cX12_anyTwo 84 = .ok (.aload_n 0, 1) := by decide +kernel
theorem dX12_anyTwo_85 : decode cX12_anyTwo 85 = .ok (.iload_n 1, 1) := by decide +kernel
theorem dX12_anyTwo_86 : decode cX12_anyTwo 86 = .ok (.iload 5, 2) := by decide +kernel
theorem dX12_anyTwo_88 : decode cX12_anyTwo 88 = .ok (.invokevirtual 348, 3) := by decide +kernel
theorem dX12_anyTwo_91 : decode cX12_anyTwo 91 = .ok (.aload_n 0, 1) := by decide +kernel
theorem dX12_anyTwo_92 : decode cX12_anyTwo 92 = .ok (.iload_n 2, 1) := by decide +kernel
theorem dX12_anyTwo_93 : decode cX12_anyTwo 93 = .ok (.iload 5, 2) := by decide +kernel
theorem dX12_anyTwo_95 : decode cX12_anyTwo 95 = .ok (.invokevirtual 348, 3) := by decide +kernel
theorem dX12_anyTwo_98 : decode cX12_anyTwo 98 = .ok (.iadd, 1) := by decide +kernel
theorem dX12_anyTwo_99 : decode cX12_anyTwo 99 = .ok (.iconst 2, 1) := by decide +kernel
theorem dX12_anyTwo_100 : decode cX12_anyTwo 100 = .ok (.isub, 1) := by decide +kernel
theorem dX12_anyTwo_101 : decode cX12_anyTwo 101 = .ok (.bipush 26, 2) := by decide +kernel
theorem dX12_anyTwo_103 : decode cX12_anyTwo 103 = .ok (.irem, 1) := by decide +kernel
theorem dX12_anyTwo_104 : decode cX12_anyTwo 104 = .ok (.iconst 1, 1) := by decide +kernel
theorem dX12_anyTwo_105 : decode cX12_anyTwo 105 = .ok (.iadd, 1) := by decide +kernel
theorem dX12_anyTwo_106 : decode cX12_anyTwo 106 = .ok (.aload_n 0, 1) := by decide +kernel
theorem dX12_anyTwo_107 : decode cX12_anyTwo 107 = .ok (.iload_n 3, 1) := by decide +kernel
theorem dX12_anyTwo_108 : decode cX12_anyTwo 108 = .ok (.iload 5, 2) := by decide +kernel
theorem dX12_anyTwo_110 : decode cX12_anyTwo 110 = .ok (.invokevirtual 348, 3) := by decide +kernel
theorem dX12_anyTwo_113 : decode cX12_anyTwo 113 = .ok (.if_icmp .eq 5, 3) := by decide +kernel
theorem dX12_anyTwo_116 : decode cX12_anyTwo 116 = .ok (.iconst 0, 1) := by decide +kernel
theorem dX12_anyTwo_117 : decode cX12_anyTwo 117 = .ok (.ireturn, 1) := by decide +kernel
theorem dX12_anyTwo_118 : decode cX12_anyTwo 118 = .ok (.iinc 5 1, 3) := by decide +kernel
theorem dX12_anyTwo_121 : decode cX12_anyTwo 121 = .ok (.goto (-44), 3) := by decide +kernel
theorem dX12_anyTwo_124 : decode cX12_anyTwo 124 = .ok (.iconst 1, 1) := by decide +kernel
theorem dX12_anyTwo_125 : decode cX12_anyTwo 125 = .ok (.ireturn, 1) := by decide +kernel
theorem dX12_copy_0 : decode cX12_copy 0 = .ok (.iconst 0, 1) := by decide +kernel
theorem dX12_copy_1 : decode cX12_copy 1 = .ok (.istore_n 3, 1) := by decide +kernel
theorem dX12_copy_2 : decode cX12_copy 2 = .ok (.iload_n 3, 1) := by decide +kernel
theorem dX12_copy_3 : decode cX12_copy 3 = .ok (.sipush 370, 3) := by decide +kernel
theorem dX12_copy_6 : decode cX12_copy 6 = .ok (.if_icmp .ge 33, 3) := by decide +kernel
theorem dX12_copy_9 : decode cX12_copy 9 = .ok (.aload_n 0, 1) := by decide +kernel
theorem dX12_copy_10 : decode cX12_copy 10 = .ok (.getfield 35, 3) := by decide +kernel
theorem dX12_copy_13 : decode cX12_copy 13 = .ok (.sipush 370, 3) := by decide +kernel
theorem dX12_copy_16 : decode cX12_copy 16 = .ok (.iload_n 2, 1) := by decide +kernel
theorem dX12_copy_17 : decode cX12_copy 17 = .ok (.imul, 1) := by decide +kernel
theorem dX12_copy_18 : decode cX12_copy 18 = .ok (.iload_n 3, 1) := by decide +kernel
theorem dX12_copy_19 : decode cX12_copy 19 = .ok (.iadd, 1) := by decide +kernel
theorem dX12_copy_20 : decode cX12_copy 20 = .ok (.aload_n 0, 1) := by decide +kernel
theorem dX12_copy_21 : decode cX12_copy 21 = .ok (.getfield 35, 3) := by decide +kernel
theorem dX12_copy_24 : decode cX12_copy 24 = .ok (.sipush 370, 3) := by decide +kernel
theorem dX12_copy_27 : decode cX12_copy 27 = .ok (.iload_n 1, 1) := by decide +kernel
theorem dX12_copy_28 : decode cX12_copy 28 = .ok (.imul, 1) := by decide +kernel
theorem dX12_copy_29 : decode cX12_copy 29 = .ok (.iload_n 3, 1) := by decide +kernel
theorem dX12_copy_30 : decode cX12_copy 30 = .ok (.iadd, 1) := by decide +kernel
theorem dX12_copy_31 : decode cX12_copy 31 = .ok (.iaload, 1) := by decide +kernel
theorem dX12_copy_32 : decode cX12_copy 32 = .ok (.iastore, 1) := by decide +kernel
theorem dX12_copy_33 : decode cX12_copy 33 = .ok (.iinc 3 1, 3) := by decide +kernel
theorem dX12_copy_36 : decode cX12_copy 36 = .ok (.goto (-34), 3) := by decide +kernel
theorem dX12_copy_39 : decode cX12_copy 39 = .ok (.return_, 1) := by decide +kernel
theorem dX12_mark_0 : decode cX12_mark 0 = .ok (.aload_n 0, 1) := by decide +kernel
theorem dX12_mark_1 : decode cX12_mark 1 = .ok (.iconst 0, 1) := by decide +kernel
theorem dX12_mark_2 : decode cX12_mark 2 = .ok (.putfield 89, 3) := by decide +kernel
theorem dX12_mark_5 : decode cX12_mark 5 = .ok (.aload_n 0, 1) := by decide +kernel
theorem dX12_mark_6 : decode cX12_mark 6 = .ok (.iconst 0, 1) := by decide +kernel
theorem dX12_mark_7 : decode cX12_mark 7 = .ok (.putfield 92, 3) := by decide +kernel
theorem dX12_mark_10 : decode cX12_mark 10 = .ok (.aload_n 0, 1) := by decide +kernel
theorem dX12_mark_11 : decode cX12_mark 11 = .ok (.getfield 505, 3) := by decide +kernel
theorem dX12_mark_14 : decode cX12_mark 14 = .ok (.iconst 3, 1) := by decide +kernel
theorem dX12_mark_15 : decode cX12_mark 15 = .ok (.if_icmp .ne 10, 3) := by decide +kernel
theorem dX12_mark_18 : decode cX12_mark 18 = .ok (.aload_n 0, 1) := by decide +kernel
theorem dX12_mark_19 : decode cX12_mark 19 = .ok (.bipush 7, 2) := by decide +kernel
theorem dX12_mark_21 : decode cX12_mark 21 = .ok (.invokevirtual 321, 3) := by decide +kernel
theorem dX12_mark_24 : decode cX12_mark 24 = .ok (.ireturn, 1) := by decide +kernel
theorem dX12_mark_25 : decode cX12_mark 25 = .ok (.aload_n 0, 1) := by decide +kernel
theorem dX12_mark_26 : decode cX12_mark 26 = .ok (.dup, 1) := by decide +kernel
theorem dX12_mark_27 : decode cX12_mark 27 = .ok (.getfield 505, 3) := by decide +kernel
theorem dX12_mark_30 : decode cX12_mark 30 = .ok (.iconst 1, 1) := by decide +kernel
theorem dX12_mark_31 : decode cX12_mark 31 = .ok (.iadd, 1) := by decide +kernel
theorem dX12_mark_32 : decode cX12_mark 32 = .ok (.putfield 505, 3) := by decide +kernel
theorem dX12_mark_35 : decode cX12_mark 35 = .ok (.aload_n 0, 1) := by decide +kernel
theorem dX12_mark_36 : decode cX12_mark 36 = .ok (.iconst 0, 1) := by decide +kernel
theorem dX12_mark_37 : decode cX12_mark 37 = .ok (.aload_n 0, 1) := by decide +kernel
theorem dX12_mark_38 : decode cX12_mark 38 = .ok (.getfield 505, 3) := by decide +kernel
theorem dX12_mark_41 : decode cX12_mark 41 = .ok (.invokevirtual 508, 3) := by decide +kernel
theorem dX12_mark_44 : decode cX12_mark 44 = .ok (.aload_n 0, 1) := by decide +kernel
theorem dX12_mark_45 : decode cX12_mark 45 = .ok (.getfield 505, 3) := by decide +kernel
theorem dX12_mark_48 : decode cX12_mark 48 = .ok (.ireturn, 1) := by decide +kernel
theorem dX12_back_0 : decode cX12_back 0 = .ok (.aload_n 0, 1) := by decide +kernel
theorem dX12_back_1 : decode cX12_back 1 = .ok (.iconst 0, 1) := by decide +kernel
theorem dX12_back_2 : decode cX12_back 2 = .ok (.putfield 89, 3) := by decide +kernel
theorem dX12_back_5 : decode cX12_back 5 = .ok (.aload_n 0, 1) := by decide +kernel
theorem dX12_back_6 : decode cX12_back 6 = .ok (.iconst 0, 1) := by decide +kernel
theorem dX12_back_7 : decode cX12_back 7 = .ok (.putfield 92, 3) := by decide +kernel
theorem dX12_back_10 : decode cX12_back 10 = .ok (.aload_n 0, 1) := by decide +kernel
theorem dX12_back_11 : decode cX12_back 11 = .ok (.getfield 505, 3) := by decide +kernel
theorem dX12_back_14 : decode cX12_back 14 = .ok (.ifCond .ne 10, 3) := by decide +kernel
theorem dX12_back_17 : decode cX12_back 17 = .ok (.aload_n 0, 1) := by decide +kernel
theorem dX12_back_18 : decode cX12_back 18 = .ok (.bipush 8, 2) := by decide +kernel
theorem dX12_back_20 : decode cX12_back 20 = .ok (.invokevirtual 321, 3) := by decide +kernel
theorem dX12_back_23 : decode cX12_back 23 = .ok (.ireturn, 1) := by decide +kernel
theorem dX12_back_24 : decode cX12_back 24 = .ok (.aload_n 0, 1) := by decide +kernel
theorem dX12_back_25 : decode cX12_back 25 = .ok (.aload_n 0, 1) := by decide +kernel
theorem dX12_back_26 : decode cX12_back 26 = .ok (.getfield 505, 3) := by decide +kernel
theorem dX12_back_29 : decode cX12_back 29 = .ok (.iconst 0, 1) := by decide +kernel
theorem dX12_back_30 : decode cX12_back 30 = .ok (.invokevirtual 508, 3) := by decide +kernel
theorem dX12_back_33 : decode cX12_back 33 = .ok (.aload_n 0, 1) := by decide +kernel
theorem dX12_back_34 : decode cX12_back 34 = .ok (.dup, 1) := by decide +kernel
theorem dX12_back_35 : decode cX12_back 35 = .ok (.getfield 505, 3) := by decide +kernel
theorem dX12_back_38 : decode cX12_back 38 = .ok (.iconst 1, 1) := by decide +kernel
theorem dX12_back_39 : decode cX12_back 39 = .ok (.isub, 1) := by decide +kernel
theorem dX12_back_40 : decode cX12_back 40 = .ok (.putfield 505, 3) := by decide +kernel
theorem dX12_back_43 : decode cX12_back 43 = .ok (.aload_n 0, 1) := by decide +kernel
theorem dX12_back_44 : decode cX12_back 44 = .ok (.getfield 505, 3) := by decide +kernel
theorem dX12_back_47 : decode cX12_back 47 = .ok (.ireturn, 1) := by decide +kernel
theorem dJ6_bitCount_0f7a4_0 : decode cJ6_bitCount_0f7a4 0 = .ok (.iload_n 0, 1) := by decide +kernel
theorem dJ6_bitCount_0f7a4_1 : decode cJ6_bitCount_0f7a4 1 = .ok (.iload_n 0, 1) := by decide +kernel
theorem dJ6_bitCount_0f7a4_2 : decode cJ6_bitCount_0f7a4 2 = .ok (.iconst 1, 1) := by decide +kernel
theorem dJ6_bitCount_0f7a4_3 : decode cJ6_bitCount_0f7a4 3 = .ok (.iushr, 1) := by decide +kernel
theorem dJ6_bitCount_0f7a4_4 : decode cJ6_bitCount_0f7a4 4 = .ok (.ldc_w 265, 3) := by decide +kernel
theorem dJ6_bitCount_0f7a4_7 : decode cJ6_bitCount_0f7a4 7 = .ok (.iand, 1) := by decide +kernel
theorem dJ6_bitCount_0f7a4_8 : decode cJ6_bitCount_0f7a4 8 = .ok (.isub, 1) := by decide +kernel
theorem dJ6_bitCount_0f7a4_9 : decode cJ6_bitCount_0f7a4 9 = .ok (.istore_n 0, 1) := by decide +kernel
theorem dJ6_bitCount_0f7a4_10 : decode cJ6_bitCount_0f7a4 10 = .ok (.iload_n 0, 1) := by decide +kernel
theorem dJ6_bitCount_0f7a4_11 : decode cJ6_bitCount_0f7a4 11 = .ok (.ldc_w 266, 3) := by decide +kernel
theorem dJ6_bitCount_0f7a4_14 : decode cJ6_bitCount_0f7a4 14 = .ok (.iand, 1) := by decide +kernel
theorem dJ6_bitCount_0f7a4_15 : decode cJ6_bitCount_0f7a4 15 = .ok (.iload_n 0, 1) := by decide +kernel
theorem dJ6_bitCount_0f7a4_16 : decode cJ6_bitCount_0f7a4 16 = .ok (.iconst 2, 1) := by decide +kernel
theorem dJ6_bitCount_0f7a4_17 : decode cJ6_bitCount_0f7a4 17 = .ok (.iushr, 1) := by decide +kernel
theorem dJ6_bitCount_0f7a4_18 : decode cJ6_bitCount_0f7a4 18 = .ok (.ldc_w 266, 3) := by decide +kernel
theorem dJ6_bitCount_0f7a4_21 : decode cJ6_bitCount_0f7a4 21 = .ok (.iand, 1) := by decide +kernel
theorem dJ6_bitCount_0f7a4_22 : decode cJ6_bitCount_0f7a4 22 = .ok (.iadd, 1) := by decide +kernel
theorem dJ6_bitCount_0f7a4_23 : decode cJ6_bitCount_0f7a4 23 = .ok (.istore_n 0, 1) := by decide +kernel
theorem dJ6_bitCount_0f7a4_24 : decode cJ6_bitCount_0f7a4 24 = .ok (.iload_n 0, 1) := by decide +kernel
theorem dJ6_bitCount_0f7a4_25 : decode cJ6_bitCount_0f7a4 25 = .ok (.iload_n 0, 1) := by decide +kernel
theorem dJ6_bitCount_0f7a4_26 : decode cJ6_bitCount_0f7a4 26 = .ok (.iconst 4, 1) := by decide +kernel
theorem dJ6_bitCount_0f7a4_27 : decode cJ6_bitCount_0f7a4 27 = .ok (.iushr, 1) := by decide +kernel
theorem dJ6_bitCount_0f7a4_28 : decode cJ6_bitCount_0f7a4 28 = .ok (.iadd, 1) := by decide +kernel
theorem dJ6_bitCount_0f7a4_29 : decode cJ6_bitCount_0f7a4 29 = .ok (.ldc_w 267, 3) := by decide +kernel
theorem dJ6_bitCount_0f7a4_32 : decode cJ6_bitCount_0f7a4 32 = .ok (.iand, 1) := by decide +kernel
theorem dJ6_bitCount_0f7a4_33 : decode cJ6_bitCount_0f7a4 33 = .ok (.istore_n 0, 1) := by decide +kernel
theorem dJ6_bitCount_0f7a4_34 : decode cJ6_bitCount_0f7a4 34 = .ok (.iload_n 0, 1) := by decide +kernel
theorem dJ6_bitCount_0f7a4_35 : decode cJ6_bitCount_0f7a4 35 = .ok (.iload_n 0, 1) := by decide +kernel
theorem dJ6_bitCount_0f7a4_36 : decode cJ6_bitCount_0f7a4 36 = .ok (.bipush 8, 2) := by decide +kernel
theorem dJ6_bitCount_0f7a4_38 : decode cJ6_bitCount_0f7a4 38 = .ok (.iushr, 1) := by decide +kernel
theorem dJ6_bitCount_0f7a4_39 : decode cJ6_bitCount_0f7a4 39 = .ok (.iadd, 1) := by decide +kernel
theorem dJ6_bitCount_0f7a4_40 : decode cJ6_bitCount_0f7a4 40 = .ok (.istore_n 0, 1) := by decide +kernel
theorem dJ6_bitCount_0f7a4_41 : decode cJ6_bitCount_0f7a4 41 = .ok (.iload_n 0, 1) := by decide +kernel
theorem dJ6_bitCount_0f7a4_42 : decode cJ6_bitCount_0f7a4 42 = .ok (.iload_n 0, 1) := by decide +kernel
theorem dJ6_bitCount_0f7a4_43 : decode cJ6_bitCount_0f7a4 43 = .ok (.bipush 16, 2) := by decide +kernel
theorem dJ6_bitCount_0f7a4_45 : decode cJ6_bitCount_0f7a4 45 = .ok (.iushr, 1) := by decide +kernel
theorem dJ6_bitCount_0f7a4_46 : decode cJ6_bitCount_0f7a4 46 = .ok (.iadd, 1) := by decide +kernel
theorem dJ6_bitCount_0f7a4_47 : decode cJ6_bitCount_0f7a4 47 = .ok (.istore_n 0, 1) := by decide +kernel
theorem dJ6_bitCount_0f7a4_48 : decode cJ6_bitCount_0f7a4 48 = .ok (.iload_n 0, 1) := by decide +kernel
theorem dJ6_bitCount_0f7a4_49 : decode cJ6_bitCount_0f7a4 49 = .ok (.bipush 63, 2) := by decide +kernel
theorem dJ6_bitCount_0f7a4_51 : decode cJ6_bitCount_0f7a4 51 = .ok (.iand, 1) := by decide +kernel
theorem dJ6_bitCount_0f7a4_52 : decode cJ6_bitCount_0f7a4 52 = .ok (.ireturn, 1) := by decide +kernel
