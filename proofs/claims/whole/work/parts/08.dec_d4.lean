theorem dX6_half_24 : decode cX6_half 24 = .ok (.iconst (-1), 1) := by decide +kernel
theorem dX6_half_25 : decode cX6_half 25 = .ok (.ireturn, 1) := by decide +kernel
theorem dX6_half_26 : decode cX6_half 26 = .ok (.aload_n 0, 1) := by decide +kernel
theorem dX6_half_27 : decode cX6_half 27 = .ok (.invokevirtual 185, 3) := by decide +kernel
theorem dX6_half_30 : decode cX6_half 30 = .ok (.invokestatic 164, 3) := by decide +kernel
theorem dX6_half_33 : decode cX6_half 33 = .ok (.istore_n 3, 1) := by decide +kernel
theorem dX6_half_34 : decode cX6_half 34 = .ok (.aload_n 0, 1) := by decide +kernel
theorem dX6_half_35 : decode cX6_half 35 = .ok (.invokevirtual 203, 3) := by decide +kernel
theorem dX6_half_38 : decode cX6_half 38 = .ok (.istore 4, 2) := by decide +kernel
theorem dX6_half_40 : decode cX6_half 40 = .ok (.iload_n 3, 1) := by decide +kernel
theorem dX6_half_41 : decode cX6_half 41 = .ok (.ifCond .le 39, 3) := by decide +kernel
theorem dX6_half_44 : decode cX6_half 44 = .ok (.iload 4, 2) := by decide +kernel
theorem dX6_half_46 : decode cX6_half 46 = .ok (.ifCond .eq 30, 3) := by decide +kernel
theorem dX6_half_49 : decode cX6_half 49 = .ok (.aload_n 0, 1) := by decide +kernel
theorem dX6_half_50 : decode cX6_half 50 = .ok (.iload_n 1, 1) := by decide +kernel
theorem dX6_half_51 : decode cX6_half 51 = .ok (.iload_n 2, 1) := by decide +kernel
theorem dX6_half_52 : decode cX6_half 52 = .ok (.iconst 1, 1) := by decide +kernel
theorem dX6_half_53 : decode cX6_half 53 = .ok (.invokevirtual 213, 3) := by decide +kernel
theorem dX6_half_56 : decode cX6_half 56 = .ok (.iload 4, 2) := by decide +kernel
theorem dX6_half_58 : decode cX6_half 58 = .ok (.imul, 1) := by decide +kernel
theorem dX6_half_59 : decode cX6_half 59 = .ok (.aload_n 0, 1) := by decide +kernel
theorem dX6_half_60 : decode cX6_half 60 = .ok (.iload_n 1, 1) := by decide +kernel
theorem dX6_half_61 : decode cX6_half 61 = .ok (.iload_n 2, 1) := by decide +kernel
theorem dX6_half_62 : decode cX6_half 62 = .ok (.iadd, 1) := by decide +kernel
theorem dX6_half_63 : decode cX6_half 63 = .ok (.bipush 24, 2) := by decide +kernel
theorem dX6_half_65 : decode cX6_half 65 = .ok (.irem, 1) := by decide +kernel
theorem dX6_half_66 : decode cX6_half 66 = .ok (.iload_n 2, 1) := by decide +kernel
theorem dX6_half_67 : decode cX6_half 67 = .ok (.iconst 1, 1) := by decide +kernel
theorem dX6_half_68 : decode cX6_half 68 = .ok (.invokevirtual 213, 3) := by decide +kernel
theorem dX6_half_71 : decode cX6_half 71 = .ok (.iload_n 3, 1) := by decide +kernel
theorem dX6_half_72 : decode cX6_half 72 = .ok (.imul, 1) := by decide +kernel
theorem dX6_half_73 : decode cX6_half 73 = .ok (.if_icmp .ge 7, 3) := by decide +kernel
theorem dX6_half_76 : decode cX6_half 76 = .ok (.iconst 1, 1) := by decide +kernel
theorem dX6_half_77 : decode cX6_half 77 = .ok (.goto 4, 3) := by decide +kernel
theorem dX6_half_80 : decode cX6_half 80 = .ok (.iconst 0, 1) := by decide +kernel
theorem dX6_half_81 : decode cX6_half 81 = .ok (.istore 5, 2) := by decide +kernel
theorem dX6_half_83 : decode cX6_half 83 = .ok (.iload 5, 2) := by decide +kernel
theorem dX6_half_85 : decode cX6_half 85 = .ok (.ifCond .eq 7, 3) := by decide +kernel
theorem dX6_half_88 : decode cX6_half 88 = .ok (.iconst 1, 1) := by decide +kernel
theorem dX6_half_89 : decode cX6_half 89 = .ok (.goto 4, 3) := by decide +kernel
theorem dX6_half_92 : decode cX6_half 92 = .ok (.iconst 0, 1) := by decide +kernel
theorem dX6_half_93 : decode cX6_half 93 = .ok (.ireturn, 1) := by decide +kernel
theorem dX6_isClean_0 : decode cX6_isClean 0 = .ok (.iload_n 1, 1) := by decide +kernel
theorem dX6_isClean_1 : decode cX6_isClean 1 = .ok (.i2l, 1) := by decide +kernel
theorem dX6_isClean_2 : decode cX6_isClean 2 = .ok (.lconst 0, 1) := by decide +kernel
theorem dX6_isClean_3 : decode cX6_isClean 3 = .ok (.ldc2_w 217, 3) := by decide +kernel
theorem dX6_isClean_6 : decode cX6_isClean 6 = .ok (.invokestatic 70, 3) := by decide +kernel
theorem dX6_isClean_9 : decode cX6_isClean 9 = .ok (.ifCond .eq 51, 3) := by decide +kernel
theorem dX6_isClean_12 : decode cX6_isClean 12 = .ok (.iload_n 2, 1) := by decide +kernel
theorem dX6_isClean_13 : decode cX6_isClean 13 = .ok (.i2l, 1) := by decide +kernel
theorem dX6_isClean_14 : decode cX6_isClean 14 = .ok (.lconst 0, 1) := by decide +kernel
theorem dX6_isClean_15 : decode cX6_isClean 15 = .ok (.ldc2_w 217, 3) := by decide +kernel
theorem dX6_isClean_18 : decode cX6_isClean 18 = .ok (.invokestatic 70, 3) := by decide +kernel
theorem dX6_isClean_21 : decode cX6_isClean 21 = .ok (.ifCond .eq 39, 3) := by decide +kernel
theorem dX6_isClean_24 : decode cX6_isClean 24 = .ok (.iload_n 3, 1) := by decide +kernel
theorem dX6_isClean_25 : decode cX6_isClean 25 = .ok (.i2l, 1) := by decide +kernel
theorem dX6_isClean_26 : decode cX6_isClean 26 = .ok (.lconst 0, 1) := by decide +kernel
theorem dX6_isClean_27 : decode cX6_isClean 27 = .ok (.ldc2_w 217, 3) := by decide +kernel
theorem dX6_isClean_30 : decode cX6_isClean 30 = .ok (.invokestatic 70, 3) := by decide +kernel
theorem dX6_isClean_33 : decode cX6_isClean 33 = .ok (.ifCond .eq 27, 3) := by decide +kernel
theorem dX6_isClean_36 : decode cX6_isClean 36 = .ok (.iload 4, 2) := by decide +kernel
theorem dX6_isClean_38 : decode cX6_isClean 38 = .ok (.i2l, 1) := by decide +kernel
theorem dX6_isClean_39 : decode cX6_isClean 39 = .ok (.lconst 0, 1) := by decide +kernel
theorem dX6_isClean_40 : decode cX6_isClean 40 = .ok (.ldc2_w 217, 3) := by decide +kernel
theorem dX6_isClean_43 : decode cX6_isClean 43 = .ok (.invokestatic 70, 3) := by decide +kernel
theorem dX6_isClean_46 : decode cX6_isClean 46 = .ok (.ifCond .eq 14, 3) := by decide +kernel
theorem dX6_isClean_49 : decode cX6_isClean 49 = .ok (.iload 5, 2) := by decide +kernel
theorem dX6_isClean_51 : decode cX6_isClean 51 = .ok (.i2l, 1) := by decide +kernel
theorem dX6_isClean_52 : decode cX6_isClean 52 = .ok (.lconst 0, 1) := by decide +kernel
theorem dX6_isClean_53 : decode cX6_isClean 53 = .ok (.lconst 1, 1) := by decide +kernel
theorem dX6_isClean_54 : decode cX6_isClean 54 = .ok (.invokestatic 70, 3) := by decide +kernel
theorem dX6_isClean_57 : decode cX6_isClean 57 = .ok (.ifCond .ne 5, 3) := by decide +kernel
theorem dX6_isClean_60 : decode cX6_isClean 60 = .ok (.iconst (-1), 1) := by decide +kernel
theorem dX6_isClean_61 : decode cX6_isClean 61 = .ok (.ireturn, 1) := by decide +kernel
theorem dX6_isClean_62 : decode cX6_isClean 62 = .ok (.bipush 10, 2) := by decide +kernel
theorem dX6_isClean_64 : decode cX6_isClean 64 = .ok (.iload_n 1, 1) := by decide +kernel
theorem dX6_isClean_65 : decode cX6_isClean 65 = .ok (.imul, 1) := by decide +kernel
theorem dX6_isClean_66 : decode cX6_isClean 66 = .ok (.iload_n 2, 1) := by decide +kernel
theorem dX6_isClean_67 : decode cX6_isClean 67 = .ok (.imul, 1) := by decide +kernel
theorem dX6_isClean_68 : decode cX6_isClean 68 = .ok (.istore 6, 2) := by decide +kernel
theorem dX6_isClean_70 : decode cX6_isClean 70 = .ok (.iload 6, 2) := by decide +kernel
theorem dX6_isClean_72 : decode cX6_isClean 72 = .ok (.bipush 10, 2) := by decide +kernel
theorem dX6_isClean_74 : decode cX6_isClean 74 = .ok (.iload_n 1, 1) := by decide +kernel
theorem dX6_isClean_75 : decode cX6_isClean 75 = .ok (.isub, 1) := by decide +kernel
theorem dX6_isClean_76 : decode cX6_isClean 76 = .ok (.iload_n 3, 1) := by decide +kernel
theorem dX6_isClean_77 : decode cX6_isClean 77 = .ok (.imul, 1) := by decide +kernel
theorem dX6_isClean_78 : decode cX6_isClean 78 = .ok (.iload 4, 2) := by decide +kernel
theorem dX6_isClean_80 : decode cX6_isClean 80 = .ok (.imul, 1) := by decide +kernel
theorem dX6_isClean_81 : decode cX6_isClean 81 = .ok (.iadd, 1) := by decide +kernel
theorem dX6_isClean_82 : decode cX6_isClean 82 = .ok (.istore 7, 2) := by decide +kernel
theorem dX6_isClean_84 : decode cX6_isClean 84 = .ok (.iload 7, 2) := by decide +kernel
theorem dX6_isClean_86 : decode cX6_isClean 86 = .ok (.ifCond .ne 6, 3) := by decide +kernel
theorem dX6_isClean_89 : decode cX6_isClean 89 = .ok (.bipush (-4), 2) := by decide +kernel
theorem dX6_isClean_91 : decode cX6_isClean 91 = .ok (.ireturn, 1) := by decide +kernel
theorem dX6_isClean_92 : decode cX6_isClean 92 = .ok (.iload 6, 2) := by decide +kernel
theorem dX6_isClean_94 : decode cX6_isClean 94 = .ok (.istore 8, 2) := by decide +kernel
theorem dX6_isClean_96 : decode cX6_isClean 96 = .ok (.iload 7, 2) := by decide +kernel
theorem dX6_isClean_98 : decode cX6_isClean 98 = .ok (.istore 9, 2) := by decide +kernel
theorem dX6_isClean_100 : decode cX6_isClean 100 = .ok (.iload 9, 2) := by decide +kernel
theorem dX6_isClean_102 : decode cX6_isClean 102 = .ok (.ifCond .eq 21, 3) := by decide +kernel
theorem dX6_isClean_105 : decode cX6_isClean 105 = .ok (.iload 8, 2) := by decide +kernel
theorem dX6_isClean_107 : decode cX6_isClean 107 = .ok (.iload 9, 2) := by decide +kernel
theorem dX6_isClean_109 : decode cX6_isClean 109 = .ok (.irem, 1) := by decide +kernel
theorem dX6_isClean_110 : decode cX6_isClean 110 = .ok (.istore 10, 2) := by decide +kernel
theorem dX6_isClean_112 : decode cX6_isClean 112 = .ok (.iload 9, 2) := by decide +kernel
theorem dX6_isClean_114 : decode cX6_isClean 114 = .ok (.istore 8, 2) := by decide +kernel
theorem dX6_isClean_116 : decode cX6_isClean 116 = .ok (.iload 10, 2) := by decide +kernel
theorem dX6_isClean_118 : decode cX6_isClean 118 = .ok (.istore 9, 2) := by decide +kernel
theorem dX6_isClean_120 : decode cX6_isClean 120 = .ok (.goto (-20), 3) := by decide +kernel
theorem dX6_isClean_123 : decode cX6_isClean 123 = .ok (.iload 5, 2) := by decide +kernel
theorem dX6_isClean_125 : decode cX6_isClean 125 = .ok (.ifCond .ne 11, 3) := by decide +kernel
theorem dX6_isClean_128 : decode cX6_isClean 128 = .ok (.iload 6, 2) := by decide +kernel
theorem dX6_isClean_130 : decode cX6_isClean 130 = .ok (.iload 8, 2) := by decide +kernel
theorem dX6_isClean_132 : decode cX6_isClean 132 = .ok (.idiv, 1) := by decide +kernel
theorem dX6_isClean_133 : decode cX6_isClean 133 = .ok (.goto 8, 3) := by decide +kernel
theorem dX6_isClean_136 : decode cX6_isClean 136 = .ok (.iload 7, 2) := by decide +kernel
theorem dX6_isClean_138 : decode cX6_isClean 138 = .ok (.iload 8, 2) := by decide +kernel
theorem dX6_isClean_140 : decode cX6_isClean 140 = .ok (.idiv, 1) := by decide +kernel
theorem dX6_isClean_141 : decode cX6_isClean 141 = .ok (.ireturn, 1) := by decide +kernel
theorem dX6_day_0 : decode cX6_day 0 = .ok (.iload_n 1, 1) := by decide +kernel
theorem dX6_day_1 : decode cX6_day 1 = .ok (.i2l, 1) := by decide +kernel
theorem dX6_day_2 : decode cX6_day 2 = .ok (.lconst 0, 1) := by decide +kernel
theorem dX6_day_3 : decode cX6_day 3 = .ok (.ldc2_w 219, 3) := by decide +kernel
theorem dX6_day_6 : decode cX6_day 6 = .ok (.invokestatic 70, 3) := by decide +kernel
theorem dX6_day_9 : decode cX6_day 9 = .ok (.ifCond .eq 25, 3) := by decide +kernel
theorem dX6_day_12 : decode cX6_day 12 = .ok (.iload_n 2, 1) := by decide +kernel
theorem dX6_day_13 : decode cX6_day 13 = .ok (.i2l, 1) := by decide +kernel
theorem dX6_day_14 : decode cX6_day 14 = .ok (.lconst 1, 1) := by decide +kernel
theorem dX6_day_15 : decode cX6_day 15 = .ok (.ldc2_w 221, 3) := by decide +kernel
theorem dX6_day_18 : decode cX6_day 18 = .ok (.invokestatic 70, 3) := by decide +kernel
theorem dX6_day_21 : decode cX6_day 21 = .ok (.ifCond .eq 13, 3) := by decide +kernel
theorem dX6_day_24 : decode cX6_day 24 = .ok (.iload_n 3, 1) := by decide +kernel
theorem dX6_day_25 : decode cX6_day 25 = .ok (.i2l, 1) := by decide +kernel
theorem dX6_day_26 : decode cX6_day 26 = .ok (.lconst 0, 1) := by decide +kernel
theorem dX6_day_27 : decode cX6_day 27 = .ok (.lconst 1, 1) := by decide +kernel
theorem dX6_day_28 : decode cX6_day 28 = .ok (.invokestatic 70, 3) := by decide +kernel
theorem dX6_day_31 : decode cX6_day 31 = .ok (.ifCond .ne 5, 3) := by decide +kernel
theorem dX6_day_34 : decode cX6_day 34 = .ok (.iconst (-1), 1) := by decide +kernel
theorem dX6_day_35 : decode cX6_day 35 = .ok (.ireturn, 1) := by decide +kernel
theorem dX6_day_36 : decode cX6_day 36 = .ok (.aload_n 0, 1) := by decide +kernel
theorem dX6_day_37 : decode cX6_day 37 = .ok (.invokevirtual 188, 3) := by decide +kernel
theorem dX6_day_40 : decode cX6_day 40 = .ok (.iconst 0, 1) := by decide +kernel
theorem dX6_day_41 : decode cX6_day 41 = .ok (.istore 4, 2) := by decide +kernel
theorem dX6_day_43 : decode cX6_day 43 = .ok (.iload 4, 2) := by decide +kernel
theorem dX6_day_45 : decode cX6_day 45 = .ok (.iload_n 2, 1) := by decide +kernel
theorem dX6_day_46 : decode cX6_day 46 = .ok (.if_icmp .ge 117, 3) := by decide +kernel
theorem dX6_day_49 : decode cX6_day 49 = .ok (.ldc2_w 223, 3) := by decide +kernel
theorem dX6_day_52 : decode cX6_day 52 = .ok (.iload_n 1, 1) := by decide +kernel
theorem dX6_day_53 : decode cX6_day 53 = .ok (.i2l, 1) := by decide +kernel
theorem dX6_day_54 : decode cX6_day 54 = .ok (.lmul, 1) := by decide +kernel
theorem dX6_day_55 : decode cX6_day 55 = .ok (.ldc2_w 225, 3) := by decide +kernel
theorem dX6_day_58 : decode cX6_day 58 = .ok (.iload 4, 2) := by decide +kernel
theorem dX6_day_60 : decode cX6_day 60 = .ok (.i2l, 1) := by decide +kernel
theorem dX6_day_61 : decode cX6_day 61 = .ok (.lmul, 1) := by decide +kernel
theorem dX6_day_62 : decode cX6_day 62 = .ok (.ladd, 1) := by decide +kernel
theorem dX6_day_63 : decode cX6_day 63 = .ok (.lconst 1, 1) := by decide +kernel
theorem dX6_day_64 : decode cX6_day 64 = .ok (.ladd, 1) := by decide +kernel
theorem dX6_day_65 : decode cX6_day 65 = .ok (.lstore 5, 2) := by decide +kernel
theorem dX6_day_67 : decode cX6_day 67 = .ok (.lload 5, 2) := by decide +kernel
theorem dX6_day_69 : decode cX6_day 69 = .ok (.lload 5, 2) := by decide +kernel
theorem dX6_day_71 : decode cX6_day 71 = .ok (.lmul, 1) := by decide +kernel
theorem dX6_day_72 : decode cX6_day 72 = .ok (.ldc2_w 227, 3) := by decide +kernel
theorem dX6_day_75 : decode cX6_day 75 = .ok (.lrem, 1) := by decide +kernel
theorem dX6_day_76 : decode cX6_day 76 = .ok (.l2i, 1) := by decide +kernel
theorem dX6_day_77 : decode cX6_day 77 = .ok (.iconst 2, 1) := by decide +kernel
theorem dX6_day_78 : decode cX6_day 78 = .ok (.idiv, 1) := by decide +kernel
theorem dX6_day_79 : decode cX6_day 79 = .ok (.istore 7, 2) := by decide +kernel
theorem dX6_day_81 : decode cX6_day 81 = .ok (.iload 7, 2) := by decide +kernel
theorem dX6_day_83 : decode cX6_day 83 = .ok (.aload_n 0, 1) := by decide +kernel
theorem dX6_day_84 : decode cX6_day 84 = .ok (.getfield 13, 3) := by decide +kernel
theorem dX6_day_87 : decode cX6_day 87 = .ok (.iconst 3, 1) := by decide +kernel
theorem dX6_day_88 : decode cX6_day 88 = .ok (.iaload, 1) := by decide +kernel
theorem dX6_day_89 : decode cX6_day 89 = .ok (.irem, 1) := by decide +kernel
theorem dX6_day_90 : decode cX6_day 90 = .ok (.istore 8, 2) := by decide +kernel
theorem dX6_day_92 : decode cX6_day 92 = .ok (.iload 7, 2) := by decide +kernel
theorem dX6_day_94 : decode cX6_day 94 = .ok (.bipush 8, 2) := by decide +kernel
theorem dX6_day_96 : decode cX6_day 96 = .ok (.idiv, 1) := by decide +kernel
theorem dX6_day_97 : decode cX6_day 97 = .ok (.aload_n 0, 1) := by decide +kernel
theorem dX6_day_98 : decode cX6_day 98 = .ok (.getfield 13, 3) := by decide +kernel
theorem dX6_day_101 : decode cX6_day 101 = .ok (.iconst 0, 1) := by decide +kernel
theorem dX6_day_102 : decode cX6_day 102 = .ok (.iaload, 1) := by decide +kernel
theorem dX6_day_103 : decode cX6_day 103 = .ok (.irem, 1) := by decide +kernel
theorem dX6_day_104 : decode cX6_day 104 = .ok (.istore 9, 2) := by decide +kernel
theorem dX6_day_106 : decode cX6_day 106 = .ok (.aload_n 0, 1) := by decide +kernel
theorem dX6_day_107 : decode cX6_day 107 = .ok (.getfield 19, 3) := by decide +kernel
theorem dX6_day_110 : decode cX6_day 110 = .ok (.iconst 1, 1) := by decide +kernel
theorem dX6_day_111 : decode cX6_day 111 = .ok (.iaload, 1) := by decide +kernel
theorem dX6_day_112 : decode cX6_day 112 = .ok (.iload 8, 2) := by decide +kernel
theorem dX6_day_114 : decode cX6_day 114 = .ok (.invokestatic 167, 3) := by decide +kernel
theorem dX6_day_117 : decode cX6_day 117 = .ok (.ifCond .ne 40, 3) := by decide +kernel
theorem dX6_day_120 : decode cX6_day 120 = .ok (.aload_n 0, 1) := by decide +kernel
theorem dX6_day_121 : decode cX6_day 121 = .ok (.getfield 37, 3) := by decide +kernel
theorem dX6_day_124 : decode cX6_day 124 = .ok (.iload 8, 2) := by decide +kernel
theorem dX6_day_126 : decode cX6_day 126 = .ok (.iaload, 1) := by decide +kernel
theorem dX6_day_127 : decode cX6_day 127 = .ok (.ifCond .ge 30, 3) := by decide +kernel
theorem dX6_day_130 : decode cX6_day 130 = .ok (.aload_n 0, 1) := by decide +kernel
theorem dX6_day_131 : decode cX6_day 131 = .ok (.iload 8, 2) := by decide +kernel
theorem dX6_day_133 : decode cX6_day 133 = .ok (.iload 9, 2) := by decide +kernel
theorem dX6_day_135 : decode cX6_day 135 = .ok (.invokevirtual 170, 3) := by decide +kernel
theorem dX6_day_138 : decode cX6_day 138 = .ok (.ifCond .eq 19, 3) := by decide +kernel
theorem dX6_day_141 : decode cX6_day 141 = .ok (.aload_n 0, 1) := by decide +kernel
theorem dX6_day_142 : decode cX6_day 142 = .ok (.iload 8, 2) := by decide +kernel
theorem dX6_day_144 : decode cX6_day 144 = .ok (.iload 9, 2) := by decide +kernel
theorem dX6_day_146 : decode cX6_day 146 = .ok (.iload 7, 2) := by decide +kernel
theorem dX6_day_148 : decode cX6_day 148 = .ok (.sipush 128, 3) := by decide +kernel
theorem dX6_day_151 : decode cX6_day 151 = .ok (.idiv, 1) := by decide +kernel
theorem dX6_day_152 : decode cX6_day 152 = .ok (.iconst 2, 1) := by decide +kernel
theorem dX6_day_153 : decode cX6_day 153 = .ok (.irem, 1) := by decide +kernel
theorem dX6_day_154 : decode cX6_day 154 = .ok (.invokevirtual 127, 3) := by decide +kernel
theorem dX6_day_157 : decode cX6_day 157 = .ok (.iinc 4 1, 3) := by decide +kernel
theorem dX6_day_160 : decode cX6_day 160 = .ok (.goto (-117), 3) := by decide +kernel
theorem dX6_day_163 : decode cX6_day 163 = .ok (.iload_n 3, 1) := by decide +kernel
theorem dX6_day_164 : decode cX6_day 164 = .ok (.ifCond .ne 10, 3) := by decide +kernel
theorem dX6_day_167 : decode cX6_day 167 = .ok (.aload_n 0, 1) := by decide +kernel
theorem dX6_day_168 : decode cX6_day 168 = .ok (.invokevirtual 161, 3) := by decide +kernel
theorem dX6_day_171 : decode cX6_day 171 = .ok (.goto 13, 3) := by decide +kernel
theorem dX6_day_174 : decode cX6_day 174 = .ok (.aload_n 0, 1) := by decide +kernel
theorem dX6_day_175 : decode cX6_day 175 = .ok (.aload_n 0, 1) := by decide +kernel
theorem dX6_day_176 : decode cX6_day 176 = .ok (.getfield 19, 3) := by decide +kernel
theorem dX6_day_179 : decode cX6_day 179 = .ok (.iconst 0, 1) := by decide +kernel
theorem dX6_day_180 : decode cX6_day 180 = .ok (.iaload, 1) := by decide +kernel
theorem dX6_day_181 : decode cX6_day 181 = .ok (.invokevirtual 182, 3) := by decide +kernel
theorem dX6_day_184 : decode cX6_day 184 = .ok (.ireturn, 1) := by decide +kernel
theorem dX6_keep_0 : decode cX6_keep 0 = .ok (.aload_n 0, 1) := by decide +kernel
theorem dX6_keep_1 : decode cX6_keep 1 = .ok (.getfield 120, 3) := by decide +kernel
theorem dX6_keep_4 : decode cX6_keep 4 = .ok (.iconst 2, 1) := by decide +kernel
theorem dX6_keep_5 : decode cX6_keep 5 = .ok (.if_icmp .ne 6, 3) := by decide +kernel
theorem dX6_keep_8 : decode cX6_keep 8 = .ok (.bipush (-3), 2) := by decide +kernel
theorem dX6_keep_10 : decode cX6_keep 10 = .ok (.ireturn, 1) := by decide +kernel
theorem dX6_keep_11 : decode cX6_keep 11 = .ok (.iconst 0, 1) := by decide +kernel
theorem dX6_keep_12 : decode cX6_keep 12 = .ok (.istore_n 1, 1) := by decide +kernel
theorem dX6_keep_13 : decode cX6_keep 13 = .ok (.iload_n 1, 1) := by decide +kernel
theorem dX6_keep_14 : decode cX6_keep 14 = .ok (.bipush 16, 2) := by decide +kernel
theorem dX6_keep_16 : decode cX6_keep 16 = .ok (.if_icmp .ge 29, 3) := by decide +kernel
theorem dX6_keep_19 : decode cX6_keep 19 = .ok (.aload_n 0, 1) := by decide +kernel
theorem dX6_keep_20 : decode cX6_keep 20 = .ok (.getfield 28, 3) := by decide +kernel
theorem dX6_keep_23 : decode cX6_keep 23 = .ok (.bipush 16, 2) := by decide +kernel
theorem dX6_keep_25 : decode cX6_keep 25 = .ok (.aload_n 0, 1) := by decide +kernel
theorem dX6_keep_26 : decode cX6_keep 26 = .ok (.getfield 120, 3) := by decide +kernel
theorem dX6_keep_29 : decode cX6_keep 29 = .ok (.imul, 1) := by decide +kernel
theorem dX6_keep_30 : decode cX6_keep 30 = .ok (.iload_n 1, 1) := by decide +kernel
theorem dX6_keep_31 : decode cX6_keep 31 = .ok (.iadd, 1) := by decide +kernel
theorem dX6_keep_32 : decode cX6_keep 32 = .ok (.aload_n 0, 1) := by decide +kernel
theorem dX6_keep_33 : decode cX6_keep 33 = .ok (.getfield 19, 3) := by decide +kernel
theorem dX6_keep_36 : decode cX6_keep 36 = .ok (.iload_n 1, 1) := by decide +kernel
theorem dX6_keep_37 : decode cX6_keep 37 = .ok (.iaload, 1) := by decide +kernel
theorem dX6_keep_38 : decode cX6_keep 38 = .ok (.iastore, 1) := by decide +kernel
theorem dX6_keep_39 : decode cX6_keep 39 = .ok (.iinc 1 1, 3) := by decide +kernel
theorem dX6_keep_42 : decode cX6_keep 42 = .ok (.goto (-29), 3) := by decide +kernel
theorem dX6_keep_45 : decode cX6_keep 45 = .ok (.aload_n 0, 1) := by decide +kernel
theorem dX6_keep_46 : decode cX6_keep 46 = .ok (.dup, 1) := by decide +kernel
theorem dX6_keep_47 : decode cX6_keep 47 = .ok (.getfield 120, 3) := by decide +kernel
theorem dX6_keep_50 : decode cX6_keep 50 = .ok (.iconst 1, 1) := by decide +kernel
theorem dX6_keep_51 : decode cX6_keep 51 = .ok (.iadd, 1) := by decide +kernel
theorem dX6_keep_52 : decode cX6_keep 52 = .ok (.putfield 120, 3) := by decide +kernel
theorem dX6_keep_55 : decode cX6_keep 55 = .ok (.aload_n 0, 1) := by decide +kernel
theorem dX6_keep_56 : decode cX6_keep 56 = .ok (.getfield 120, 3) := by decide +kernel
theorem dX6_keep_59 : decode cX6_keep 59 = .ok (.ireturn, 1) := by decide +kernel
theorem dX6_back_0 : decode cX6_back 0 = .ok (.aload_n 0, 1) := by decide +kernel
theorem dX6_back_1 : decode cX6_back 1 = .ok (.getfield 120, 3) := by decide +kernel
theorem dX6_back_4 : decode cX6_back 4 = .ok (.ifCond .ne 6, 3) := by decide +kernel
theorem dX6_back_7 : decode cX6_back 7 = .ok (.bipush (-2), 2) := by decide +kernel
theorem dX6_back_9 : decode cX6_back 9 = .ok (.ireturn, 1) := by decide +kernel
theorem dX6_back_10 : decode cX6_back 10 = .ok (.aload_n 0, 1) := by decide +kernel
theorem dX6_back_11 : decode cX6_back 11 = .ok (.dup, 1) := by decide +kernel
theorem dX6_back_12 : decode cX6_back 12 = .ok (.getfield 120, 3) := by decide +kernel
theorem dX6_back_15 : decode cX6_back 15 = .ok (.iconst 1, 1) := by decide +kernel
theorem dX6_back_16 : decode cX6_back 16 = .ok (.isub, 1) := by decide +kernel
theorem dX6_back_17 : decode cX6_back 17 = .ok (.putfield 120, 3) := by decide +kernel
theorem dX6_back_20 : decode cX6_back 20 = .ok (.iconst 0, 1) := by decide +kernel
theorem dX6_back_21 : decode cX6_back 21 = .ok (.istore_n 1, 1) := by decide +kernel
theorem dX6_back_22 : decode cX6_back 22 = .ok (.iload_n 1, 1) := by decide +kernel
theorem dX6_back_23 : decode cX6_back 23 = .ok (.bipush 16, 2) := by decide +kernel
theorem dX6_back_25 : decode cX6_back 25 = .ok (.if_icmp .ge 29, 3) := by decide +kernel
theorem dX6_back_28 : decode cX6_back 28 = .ok (.aload_n 0, 1) := by decide +kernel
theorem dX6_back_29 : decode cX6_back 29 = .ok (.getfield 19, 3) := by decide +kernel
theorem dX6_back_32 : decode cX6_back 32 = .ok (.iload_n 1, 1) := by decide +kernel
theorem dX6_back_33 : decode cX6_back 33 = .ok (.aload_n 0, 1) := by decide +kernel
theorem dX6_back_34 : decode cX6_back 34 = .ok (.getfield 28, 3) := by decide +kernel
theorem dX6_back_37 : decode cX6_back 37 = .ok (.bipush 16, 2) := by decide +kernel
theorem dX6_back_39 : decode cX6_back 39 = .ok (.aload_n 0, 1) := by decide +kernel
theorem dX6_back_40 : decode cX6_back 40 = .ok (.getfield 120, 3) := by decide +kernel
theorem dX6_back_43 : decode cX6_back 43 = .ok (.imul, 1) := by decide +kernel
theorem dX6_back_44 : decode cX6_back 44 = .ok (.iload_n 1, 1) := by decide +kernel
theorem dX6_back_45 : decode cX6_back 45 = .ok (.iadd, 1) := by decide +kernel
theorem dX6_back_46 : decode cX6_back 46 = .ok (.iaload, 1) := by decide +kernel
theorem dX6_back_47 : decode cX6_back 47 = .ok (.iastore, 1) := by decide +kernel
theorem dX6_back_48 : decode cX6_back 48 = .ok (.iinc 1 1, 3) := by decide +kernel
theorem dX6_back_51 : decode cX6_back 51 = .ok (.goto (-29), 3) := by decide +kernel
theorem dX6_back_54 : decode cX6_back 54 = .ok (.aload_n 0, 1) := by decide +kernel
theorem dX6_back_55 : decode cX6_back 55 = .ok (.iconst 0, 1) := by decide +kernel
theorem dX6_back_56 : decode cX6_back 56 = .ok (.putfield 117, 3) := by decide +kernel
theorem dX6_back_59 : decode cX6_back 59 = .ok (.aload_n 0, 1) := by decide +kernel
theorem dX6_back_60 : decode cX6_back 60 = .ok (.getfield 120, 3) := by decide +kernel
theorem dX6_back_63 : decode cX6_back 63 = .ok (.ireturn, 1) := by decide +kernel
theorem dX6_count_0 : decode cX6_count 0 = .ok (.iload_n 1, 1) := by decide +kernel
theorem dX6_count_1 : decode cX6_count 1 = .ok (.tableswitch 129 0 10 #[59, 66, 73, 80, 87, 94, 99, 109, 114, 119, 124], 59) := by decide +kernel
theorem dX6_count_60 : decode cX6_count 60 = .ok (.aload_n 0, 1) := by decide +kernel
theorem dX6_count_61 : decode cX6_count 61 = .ok (.getfield 13, 3) := by decide +kernel
theorem dX6_count_64 : decode cX6_count 64 = .ok (.iconst 3, 1) := by decide +kernel
theorem dX6_count_65 : decode cX6_count 65 = .ok (.iaload, 1) := by decide +kernel
theorem dX6_count_66 : decode cX6_count 66 = .ok (.ireturn, 1) := by decide +kernel
theorem dX6_count_67 : decode cX6_count 67 = .ok (.aload_n 0, 1) := by decide +kernel
theorem dX6_count_68 : decode cX6_count 68 = .ok (.getfield 13, 3) := by decide +kernel
theorem dX6_count_71 : decode cX6_count 71 = .ok (.iconst 0, 1) := by decide +kernel
theorem dX6_count_72 : decode cX6_count 72 = .ok (.iaload, 1) := by decide +kernel
theorem dX6_count_73 : decode cX6_count 73 = .ok (.ireturn, 1) := by decide +kernel
theorem dX6_count_74 : decode cX6_count 74 = .ok (.aload_n 0, 1) := by decide +kernel
theorem dX6_count_75 : decode cX6_count 75 = .ok (.getfield 13, 3) := by decide +kernel
theorem dX6_count_78 : decode cX6_count 78 = .ok (.iconst 1, 1) := by decide +kernel
theorem dX6_count_79 : decode cX6_count 79 = .ok (.iaload, 1) := by decide +kernel
theorem dX6_count_80 : decode cX6_count 80 = .ok (.ireturn, 1) := by decide +kernel
theorem dX6_count_81 : decode cX6_count 81 = .ok (.aload_n 0, 1) := by decide +kernel
theorem dX6_count_82 : decode cX6_count 82 = .ok (.getfield 13, 3) := by decide +kernel
theorem dX6_count_85 : decode cX6_count 85 = .ok (.iconst 2, 1) := by decide +kernel
theorem dX6_count_86 : decode cX6_count 86 = .ok (.iaload, 1) := by decide +kernel
theorem dX6_count_87 : decode cX6_count 87 = .ok (.ireturn, 1) := by decide +kernel
theorem dX6_count_88 : decode cX6_count 88 = .ok (.aload_n 0, 1) := by decide +kernel
theorem dX6_count_89 : decode cX6_count 89 = .ok (.getfield 19, 3) := by decide +kernel
theorem dX6_count_92 : decode cX6_count 92 = .ok (.iconst 0, 1) := by decide +kernel
theorem dX6_count_93 : decode cX6_count 93 = .ok (.iaload, 1) := by decide +kernel
theorem dX6_count_94 : decode cX6_count 94 = .ok (.ireturn, 1) := by decide +kernel
theorem dX6_count_95 : decode cX6_count 95 = .ok (.aload_n 0, 1) := by decide +kernel
theorem dX6_count_96 : decode cX6_count 96 = .ok (.invokevirtual 176, 3) := by decide +kernel
theorem dX6_count_99 : decode cX6_count 99 = .ok (.ireturn, 1) := by decide +kernel
theorem dX6_count_100 : decode cX6_count 100 = .ok (.aload_n 0, 1) := by decide +kernel
theorem dX6_count_101 : decode cX6_count 101 = .ok (.getfield 19, 3) := by decide +kernel
theorem dX6_count_104 : decode cX6_count 104 = .ok (.iconst 1, 1) := by decide +kernel
theorem dX6_count_105 : decode cX6_count 105 = .ok (.iaload, 1) := by decide +kernel
theorem dX6_count_106 : decode cX6_count 106 = .ok (.invokestatic 164, 3) := by decide +kernel
theorem dX6_count_109 : decode cX6_count 109 = .ok (.ireturn, 1) := by decide +kernel
theorem dX6_count_110 : decode cX6_count 110 = .ok (.aload_n 0, 1) := by decide +kernel
theorem dX6_count_111 : decode cX6_count 111 = .ok (.invokevirtual 206, 3) := by decide +kernel
theorem dX6_count_114 : decode cX6_count 114 = .ok (.ireturn, 1) := by decide +kernel
theorem dX6_count_115 : decode cX6_count 115 = .ok (.aload_n 0, 1) := by decide +kernel
theorem dX6_count_116 : decode cX6_count 116 = .ok (.getfield 117, 3) := by decide +kernel
theorem dX6_count_119 : decode cX6_count 119 = .ok (.ireturn, 1) := by decide +kernel
theorem dX6_count_120 : decode cX6_count 120 = .ok (.aload_n 0, 1) := by decide +kernel
theorem dX6_count_121 : decode cX6_count 121 = .ok (.getfield 120, 3) := by decide +kernel
theorem dX6_count_124 : decode cX6_count 124 = .ok (.ireturn, 1) := by decide +kernel
theorem dX6_count_125 : decode cX6_count 125 = .ok (.aload_n 0, 1) := by decide +kernel
theorem dX6_count_126 : decode cX6_count 126 = .ok (.getfield 74, 3) := by decide +kernel
theorem dX6_count_129 : decode cX6_count 129 = .ok (.ireturn, 1) := by decide +kernel
theorem dX6_count_130 : decode cX6_count 130 = .ok (.iconst (-1), 1) := by decide +kernel
theorem dX6_count_131 : decode cX6_count 131 = .ok (.ireturn, 1) := by decide +kernel
