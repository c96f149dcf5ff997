theorem dX6_place_60 : decode cX6_place 60 = .ok (.if_icmp .ge 79, 3) := by decide +kernel
theorem dX6_place_63 : decode cX6_place 63 = .ok (.aload_n 0, 1) := by decide +kernel
theorem dX6_place_64 : decode cX6_place 64 = .ok (.iload_n 1, 1) := by decide +kernel
theorem dX6_place_65 : decode cX6_place 65 = .ok (.iload 5, 2) := by decide +kernel
theorem dX6_place_67 : decode cX6_place 67 = .ok (.iconst 2, 1) := by decide +kernel
theorem dX6_place_68 : decode cX6_place 68 = .ok (.idiv, 1) := by decide +kernel
theorem dX6_place_69 : decode cX6_place 69 = .ok (.invokevirtual 170, 3) := by decide +kernel
theorem dX6_place_72 : decode cX6_place 72 = .ok (.ifCond .eq 61, 3) := by decide +kernel
theorem dX6_place_75 : decode cX6_place 75 = .ok (.aload_n 0, 1) := by decide +kernel
theorem dX6_place_76 : decode cX6_place 76 = .ok (.iload_n 1, 1) := by decide +kernel
theorem dX6_place_77 : decode cX6_place 77 = .ok (.iload 5, 2) := by decide +kernel
theorem dX6_place_79 : decode cX6_place 79 = .ok (.iconst 2, 1) := by decide +kernel
theorem dX6_place_80 : decode cX6_place 80 = .ok (.idiv, 1) := by decide +kernel
theorem dX6_place_81 : decode cX6_place 81 = .ok (.iload 5, 2) := by decide +kernel
theorem dX6_place_83 : decode cX6_place 83 = .ok (.iconst 2, 1) := by decide +kernel
theorem dX6_place_84 : decode cX6_place 84 = .ok (.irem, 1) := by decide +kernel
theorem dX6_place_85 : decode cX6_place 85 = .ok (.invokevirtual 127, 3) := by decide +kernel
theorem dX6_place_88 : decode cX6_place 88 = .ok (.aload_n 0, 1) := by decide +kernel
theorem dX6_place_89 : decode cX6_place 89 = .ok (.aload_n 0, 1) := by decide +kernel
theorem dX6_place_90 : decode cX6_place 90 = .ok (.getfield 19, 3) := by decide +kernel
theorem dX6_place_93 : decode cX6_place 93 = .ok (.iconst 0, 1) := by decide +kernel
theorem dX6_place_94 : decode cX6_place 94 = .ok (.iaload, 1) := by decide +kernel
theorem dX6_place_95 : decode cX6_place 95 = .ok (.invokevirtual 182, 3) := by decide +kernel
theorem dX6_place_98 : decode cX6_place 98 = .ok (.invokestatic 164, 3) := by decide +kernel
theorem dX6_place_101 : decode cX6_place 101 = .ok (.istore 6, 2) := by decide +kernel
theorem dX6_place_103 : decode cX6_place 103 = .ok (.iload 6, 2) := by decide +kernel
theorem dX6_place_105 : decode cX6_place 105 = .ok (.iload 4, 2) := by decide +kernel
theorem dX6_place_107 : decode cX6_place 107 = .ok (.if_icmp .le 8, 3) := by decide +kernel
theorem dX6_place_110 : decode cX6_place 110 = .ok (.iload 5, 2) := by decide +kernel
theorem dX6_place_112 : decode cX6_place 112 = .ok (.goto 4, 3) := by decide +kernel
theorem dX6_place_115 : decode cX6_place 115 = .ok (.iload_n 3, 1) := by decide +kernel
theorem dX6_place_116 : decode cX6_place 116 = .ok (.istore_n 3, 1) := by decide +kernel
theorem dX6_place_117 : decode cX6_place 117 = .ok (.iload 6, 2) := by decide +kernel
theorem dX6_place_119 : decode cX6_place 119 = .ok (.iload 4, 2) := by decide +kernel
theorem dX6_place_121 : decode cX6_place 121 = .ok (.if_icmp .le 8, 3) := by decide +kernel
theorem dX6_place_124 : decode cX6_place 124 = .ok (.iload 6, 2) := by decide +kernel
theorem dX6_place_126 : decode cX6_place 126 = .ok (.goto 5, 3) := by decide +kernel
theorem dX6_place_129 : decode cX6_place 129 = .ok (.iload 4, 2) := by decide +kernel
theorem dX6_place_131 : decode cX6_place 131 = .ok (.istore 4, 2) := by decide +kernel
theorem dX6_place_133 : decode cX6_place 133 = .ok (.iinc 5 1, 3) := by decide +kernel
theorem dX6_place_136 : decode cX6_place 136 = .ok (.goto (-86), 3) := by decide +kernel
theorem dX6_place_139 : decode cX6_place 139 = .ok (.iload_n 2, 1) := by decide +kernel
theorem dX6_place_140 : decode cX6_place 140 = .ok (.ifCond .ne 7, 3) := by decide +kernel
theorem dX6_place_143 : decode cX6_place 143 = .ok (.iload_n 3, 1) := by decide +kernel
theorem dX6_place_144 : decode cX6_place 144 = .ok (.goto 5, 3) := by decide +kernel
theorem dX6_place_147 : decode cX6_place 147 = .ok (.iload 4, 2) := by decide +kernel
theorem dX6_place_149 : decode cX6_place 149 = .ok (.ireturn, 1) := by decide +kernel
theorem dX6_byHand_0 : decode cX6_byHand 0 = .ok (.iload_n 1, 1) := by decide +kernel
theorem dX6_byHand_1 : decode cX6_byHand 1 = .ok (.i2l, 1) := by decide +kernel
theorem dX6_byHand_2 : decode cX6_byHand 2 = .ok (.lconst 0, 1) := by decide +kernel
theorem dX6_byHand_3 : decode cX6_byHand 3 = .ok (.lconst 1, 1) := by decide +kernel
theorem dX6_byHand_4 : decode cX6_byHand 4 = .ok (.invokestatic 70, 3) := by decide +kernel
theorem dX6_byHand_7 : decode cX6_byHand 7 = .ok (.ifCond .ne 5, 3) := by decide +kernel
theorem dX6_byHand_10 : decode cX6_byHand 10 = .ok (.iconst (-1), 1) := by decide +kernel
theorem dX6_byHand_11 : decode cX6_byHand 11 = .ok (.ireturn, 1) := by decide +kernel
theorem dX6_byHand_12 : decode cX6_byHand 12 = .ok (.aload_n 0, 1) := by decide +kernel
theorem dX6_byHand_13 : decode cX6_byHand 13 = .ok (.invokevirtual 185, 3) := by decide +kernel
theorem dX6_byHand_16 : decode cX6_byHand 16 = .ok (.istore_n 2, 1) := by decide +kernel
theorem dX6_byHand_17 : decode cX6_byHand 17 = .ok (.bipush (-4), 2) := by decide +kernel
theorem dX6_byHand_19 : decode cX6_byHand 19 = .ok (.istore_n 3, 1) := by decide +kernel
theorem dX6_byHand_20 : decode cX6_byHand 20 = .ok (.bipush (-4), 2) := by decide +kernel
theorem dX6_byHand_22 : decode cX6_byHand 22 = .ok (.istore 4, 2) := by decide +kernel
theorem dX6_byHand_24 : decode cX6_byHand 24 = .ok (.iconst 0, 1) := by decide +kernel
theorem dX6_byHand_25 : decode cX6_byHand 25 = .ok (.istore 5, 2) := by decide +kernel
theorem dX6_byHand_27 : decode cX6_byHand 27 = .ok (.iload 5, 2) := by decide +kernel
theorem dX6_byHand_29 : decode cX6_byHand 29 = .ok (.aload_n 0, 1) := by decide +kernel
theorem dX6_byHand_30 : decode cX6_byHand 30 = .ok (.getfield 13, 3) := by decide +kernel
theorem dX6_byHand_33 : decode cX6_byHand 33 = .ok (.iconst 3, 1) := by decide +kernel
theorem dX6_byHand_34 : decode cX6_byHand 34 = .ok (.iaload, 1) := by decide +kernel
theorem dX6_byHand_35 : decode cX6_byHand 35 = .ok (.if_icmp .ge 89, 3) := by decide +kernel
theorem dX6_byHand_38 : decode cX6_byHand 38 = .ok (.aload_n 0, 1) := by decide +kernel
theorem dX6_byHand_39 : decode cX6_byHand 39 = .ok (.getfield 19, 3) := by decide +kernel
theorem dX6_byHand_42 : decode cX6_byHand 42 = .ok (.iconst 2, 1) := by decide +kernel
theorem dX6_byHand_43 : decode cX6_byHand 43 = .ok (.iload 5, 2) := by decide +kernel
theorem dX6_byHand_45 : decode cX6_byHand 45 = .ok (.iadd, 1) := by decide +kernel
theorem dX6_byHand_46 : decode cX6_byHand 46 = .ok (.iaload, 1) := by decide +kernel
theorem dX6_byHand_47 : decode cX6_byHand 47 = .ok (.ifCond .lt 71, 3) := by decide +kernel
theorem dX6_byHand_50 : decode cX6_byHand 50 = .ok (.iload_n 2, 1) := by decide +kernel
theorem dX6_byHand_51 : decode cX6_byHand 51 = .ok (.iload 5, 2) := by decide +kernel
theorem dX6_byHand_53 : decode cX6_byHand 53 = .ok (.invokestatic 167, 3) := by decide +kernel
theorem dX6_byHand_56 : decode cX6_byHand 56 = .ok (.ifCond .ne 62, 3) := by decide +kernel
theorem dX6_byHand_59 : decode cX6_byHand 59 = .ok (.aload_n 0, 1) := by decide +kernel
theorem dX6_byHand_60 : decode cX6_byHand 60 = .ok (.invokevirtual 158, 3) := by decide +kernel
theorem dX6_byHand_63 : decode cX6_byHand 63 = .ok (.aload_n 0, 1) := by decide +kernel
theorem dX6_byHand_64 : decode cX6_byHand 64 = .ok (.iload 5, 2) := by decide +kernel
theorem dX6_byHand_66 : decode cX6_byHand 66 = .ok (.bipush (-4), 2) := by decide +kernel
theorem dX6_byHand_68 : decode cX6_byHand 68 = .ok (.bipush (-4), 2) := by decide +kernel
theorem dX6_byHand_70 : decode cX6_byHand 70 = .ok (.invokevirtual 127, 3) := by decide +kernel
theorem dX6_byHand_73 : decode cX6_byHand 73 = .ok (.aload_n 0, 1) := by decide +kernel
theorem dX6_byHand_74 : decode cX6_byHand 74 = .ok (.aload_n 0, 1) := by decide +kernel
theorem dX6_byHand_75 : decode cX6_byHand 75 = .ok (.getfield 19, 3) := by decide +kernel
theorem dX6_byHand_78 : decode cX6_byHand 78 = .ok (.iconst 0, 1) := by decide +kernel
theorem dX6_byHand_79 : decode cX6_byHand 79 = .ok (.iaload, 1) := by decide +kernel
theorem dX6_byHand_80 : decode cX6_byHand 80 = .ok (.invokevirtual 182, 3) := by decide +kernel
theorem dX6_byHand_83 : decode cX6_byHand 83 = .ok (.invokestatic 164, 3) := by decide +kernel
theorem dX6_byHand_86 : decode cX6_byHand 86 = .ok (.istore 6, 2) := by decide +kernel
theorem dX6_byHand_88 : decode cX6_byHand 88 = .ok (.iload 6, 2) := by decide +kernel
theorem dX6_byHand_90 : decode cX6_byHand 90 = .ok (.iload 4, 2) := by decide +kernel
theorem dX6_byHand_92 : decode cX6_byHand 92 = .ok (.if_icmp .le 8, 3) := by decide +kernel
theorem dX6_byHand_95 : decode cX6_byHand 95 = .ok (.iload 5, 2) := by decide +kernel
theorem dX6_byHand_97 : decode cX6_byHand 97 = .ok (.goto 4, 3) := by decide +kernel
theorem dX6_byHand_100 : decode cX6_byHand 100 = .ok (.iload_n 3, 1) := by decide +kernel
theorem dX6_byHand_101 : decode cX6_byHand 101 = .ok (.istore_n 3, 1) := by decide +kernel
theorem dX6_byHand_102 : decode cX6_byHand 102 = .ok (.iload 6, 2) := by decide +kernel
theorem dX6_byHand_104 : decode cX6_byHand 104 = .ok (.iload 4, 2) := by decide +kernel
theorem dX6_byHand_106 : decode cX6_byHand 106 = .ok (.if_icmp .le 8, 3) := by decide +kernel
theorem dX6_byHand_109 : decode cX6_byHand 109 = .ok (.iload 6, 2) := by decide +kernel
theorem dX6_byHand_111 : decode cX6_byHand 111 = .ok (.goto 5, 3) := by decide +kernel
theorem dX6_byHand_114 : decode cX6_byHand 114 = .ok (.iload 4, 2) := by decide +kernel
theorem dX6_byHand_116 : decode cX6_byHand 116 = .ok (.istore 4, 2) := by decide +kernel
theorem dX6_byHand_118 : decode cX6_byHand 118 = .ok (.iinc 5 1, 3) := by decide +kernel
theorem dX6_byHand_121 : decode cX6_byHand 121 = .ok (.goto (-94), 3) := by decide +kernel
theorem dX6_byHand_124 : decode cX6_byHand 124 = .ok (.iload_n 1, 1) := by decide +kernel
theorem dX6_byHand_125 : decode cX6_byHand 125 = .ok (.ifCond .ne 7, 3) := by decide +kernel
theorem dX6_byHand_128 : decode cX6_byHand 128 = .ok (.iload_n 3, 1) := by decide +kernel
theorem dX6_byHand_129 : decode cX6_byHand 129 = .ok (.goto 5, 3) := by decide +kernel
theorem dX6_byHand_132 : decode cX6_byHand 132 = .ok (.iload 4, 2) := by decide +kernel
theorem dX6_byHand_134 : decode cX6_byHand 134 = .ok (.ireturn, 1) := by decide +kernel
theorem dX6_cleanByRow_0 : decode cX6_cleanByRow 0 = .ok (.aload_n 0, 1) := by decide +kernel
theorem dX6_cleanByRow_1 : decode cX6_cleanByRow 1 = .ok (.invokevirtual 188, 3) := by decide +kernel
theorem dX6_cleanByRow_4 : decode cX6_cleanByRow 4 = .ok (.iconst 0, 1) := by decide +kernel
theorem dX6_cleanByRow_5 : decode cX6_cleanByRow 5 = .ok (.istore_n 1, 1) := by decide +kernel
theorem dX6_cleanByRow_6 : decode cX6_cleanByRow 6 = .ok (.iconst 0, 1) := by decide +kernel
theorem dX6_cleanByRow_7 : decode cX6_cleanByRow 7 = .ok (.istore_n 2, 1) := by decide +kernel
theorem dX6_cleanByRow_8 : decode cX6_cleanByRow 8 = .ok (.iload_n 2, 1) := by decide +kernel
theorem dX6_cleanByRow_9 : decode cX6_cleanByRow 9 = .ok (.aload_n 0, 1) := by decide +kernel
theorem dX6_cleanByRow_10 : decode cX6_cleanByRow 10 = .ok (.getfield 191, 3) := by decide +kernel
theorem dX6_cleanByRow_13 : decode cX6_cleanByRow 13 = .ok (.if_icmp .ge 75, 3) := by decide +kernel
theorem dX6_cleanByRow_16 : decode cX6_cleanByRow 16 = .ok (.aload_n 0, 1) := by decide +kernel
theorem dX6_cleanByRow_17 : decode cX6_cleanByRow 17 = .ok (.getfield 46, 3) := by decide +kernel
theorem dX6_cleanByRow_20 : decode cX6_cleanByRow 20 = .ok (.iload_n 2, 1) := by decide +kernel
theorem dX6_cleanByRow_21 : decode cX6_cleanByRow 21 = .ok (.iaload, 1) := by decide +kernel
theorem dX6_cleanByRow_22 : decode cX6_cleanByRow 22 = .ok (.istore_n 3, 1) := by decide +kernel
theorem dX6_cleanByRow_23 : decode cX6_cleanByRow 23 = .ok (.iload_n 1, 1) := by decide +kernel
theorem dX6_cleanByRow_24 : decode cX6_cleanByRow 24 = .ok (.aload_n 0, 1) := by decide +kernel
theorem dX6_cleanByRow_25 : decode cX6_cleanByRow 25 = .ok (.getfield 13, 3) := by decide +kernel
theorem dX6_cleanByRow_28 : decode cX6_cleanByRow 28 = .ok (.bipush 11, 2) := by decide +kernel
theorem dX6_cleanByRow_30 : decode cX6_cleanByRow 30 = .ok (.iload_n 3, 1) := by decide +kernel
theorem dX6_cleanByRow_31 : decode cX6_cleanByRow 31 = .ok (.iadd, 1) := by decide +kernel
theorem dX6_cleanByRow_32 : decode cX6_cleanByRow 32 = .ok (.iaload, 1) := by decide +kernel
theorem dX6_cleanByRow_33 : decode cX6_cleanByRow 33 = .ok (.iadd, 1) := by decide +kernel
theorem dX6_cleanByRow_34 : decode cX6_cleanByRow 34 = .ok (.aload_n 0, 1) := by decide +kernel
theorem dX6_cleanByRow_35 : decode cX6_cleanByRow 35 = .ok (.getfield 13, 3) := by decide +kernel
theorem dX6_cleanByRow_38 : decode cX6_cleanByRow 38 = .ok (.iconst 0, 1) := by decide +kernel
theorem dX6_cleanByRow_39 : decode cX6_cleanByRow 39 = .ok (.iaload, 1) := by decide +kernel
theorem dX6_cleanByRow_40 : decode cX6_cleanByRow 40 = .ok (.if_icmp .gt 42, 3) := by decide +kernel
theorem dX6_cleanByRow_43 : decode cX6_cleanByRow 43 = .ok (.aload_n 0, 1) := by decide +kernel
theorem dX6_cleanByRow_44 : decode cX6_cleanByRow 44 = .ok (.iload_n 3, 1) := by decide +kernel
theorem dX6_cleanByRow_45 : decode cX6_cleanByRow 45 = .ok (.iload_n 1, 1) := by decide +kernel
theorem dX6_cleanByRow_46 : decode cX6_cleanByRow 46 = .ok (.iconst 0, 1) := by decide +kernel
theorem dX6_cleanByRow_47 : decode cX6_cleanByRow 47 = .ok (.invokevirtual 127, 3) := by decide +kernel
theorem dX6_cleanByRow_50 : decode cX6_cleanByRow 50 = .ok (.aload_n 0, 1) := by decide +kernel
theorem dX6_cleanByRow_51 : decode cX6_cleanByRow 51 = .ok (.iload_n 3, 1) := by decide +kernel
theorem dX6_cleanByRow_52 : decode cX6_cleanByRow 52 = .ok (.iload_n 1, 1) := by decide +kernel
theorem dX6_cleanByRow_53 : decode cX6_cleanByRow 53 = .ok (.aload_n 0, 1) := by decide +kernel
theorem dX6_cleanByRow_54 : decode cX6_cleanByRow 54 = .ok (.getfield 43, 3) := by decide +kernel
theorem dX6_cleanByRow_57 : decode cX6_cleanByRow 57 = .ok (.iload_n 3, 1) := by decide +kernel
theorem dX6_cleanByRow_58 : decode cX6_cleanByRow 58 = .ok (.iaload, 1) := by decide +kernel
theorem dX6_cleanByRow_59 : decode cX6_cleanByRow 59 = .ok (.ifCond .ge 7, 3) := by decide +kernel
theorem dX6_cleanByRow_62 : decode cX6_cleanByRow 62 = .ok (.iconst 1, 1) := by decide +kernel
theorem dX6_cleanByRow_63 : decode cX6_cleanByRow 63 = .ok (.goto 4, 3) := by decide +kernel
theorem dX6_cleanByRow_66 : decode cX6_cleanByRow 66 = .ok (.iconst 0, 1) := by decide +kernel
theorem dX6_cleanByRow_67 : decode cX6_cleanByRow 67 = .ok (.invokevirtual 127, 3) := by decide +kernel
theorem dX6_cleanByRow_70 : decode cX6_cleanByRow 70 = .ok (.iload_n 1, 1) := by decide +kernel
theorem dX6_cleanByRow_71 : decode cX6_cleanByRow 71 = .ok (.aload_n 0, 1) := by decide +kernel
theorem dX6_cleanByRow_72 : decode cX6_cleanByRow 72 = .ok (.getfield 13, 3) := by decide +kernel
theorem dX6_cleanByRow_75 : decode cX6_cleanByRow 75 = .ok (.bipush 11, 2) := by decide +kernel
theorem dX6_cleanByRow_77 : decode cX6_cleanByRow 77 = .ok (.iload_n 3, 1) := by decide +kernel
theorem dX6_cleanByRow_78 : decode cX6_cleanByRow 78 = .ok (.iadd, 1) := by decide +kernel
theorem dX6_cleanByRow_79 : decode cX6_cleanByRow 79 = .ok (.iaload, 1) := by decide +kernel
theorem dX6_cleanByRow_80 : decode cX6_cleanByRow 80 = .ok (.iadd, 1) := by decide +kernel
theorem dX6_cleanByRow_81 : decode cX6_cleanByRow 81 = .ok (.istore_n 1, 1) := by decide +kernel
theorem dX6_cleanByRow_82 : decode cX6_cleanByRow 82 = .ok (.iinc 2 1, 3) := by decide +kernel
theorem dX6_cleanByRow_85 : decode cX6_cleanByRow 85 = .ok (.goto (-77), 3) := by decide +kernel
theorem dX6_cleanByRow_88 : decode cX6_cleanByRow 88 = .ok (.aload_n 0, 1) := by decide +kernel
theorem dX6_cleanByRow_89 : decode cX6_cleanByRow 89 = .ok (.aload_n 0, 1) := by decide +kernel
theorem dX6_cleanByRow_90 : decode cX6_cleanByRow 90 = .ok (.getfield 19, 3) := by decide +kernel
theorem dX6_cleanByRow_93 : decode cX6_cleanByRow 93 = .ok (.iconst 0, 1) := by decide +kernel
theorem dX6_cleanByRow_94 : decode cX6_cleanByRow 94 = .ok (.iaload, 1) := by decide +kernel
theorem dX6_cleanByRow_95 : decode cX6_cleanByRow 95 = .ok (.invokevirtual 182, 3) := by decide +kernel
theorem dX6_cleanByRow_98 : decode cX6_cleanByRow 98 = .ok (.invokestatic 164, 3) := by decide +kernel
theorem dX6_cleanByRow_101 : decode cX6_cleanByRow 101 = .ok (.ireturn, 1) := by decide +kernel
theorem dX6_takeAll_0 : decode cX6_takeAll 0 = .ok (.aload_n 0, 1) := by decide +kernel
theorem dX6_takeAll_1 : decode cX6_takeAll 1 = .ok (.iconst 0, 1) := by decide +kernel
theorem dX6_takeAll_2 : decode cX6_takeAll 2 = .ok (.putfield 191, 3) := by decide +kernel
theorem dX6_takeAll_5 : decode cX6_takeAll 5 = .ok (.iconst 0, 1) := by decide +kernel
theorem dX6_takeAll_6 : decode cX6_takeAll 6 = .ok (.istore_n 1, 1) := by decide +kernel
theorem dX6_takeAll_7 : decode cX6_takeAll 7 = .ok (.iload_n 1, 1) := by decide +kernel
theorem dX6_takeAll_8 : decode cX6_takeAll 8 = .ok (.aload_n 0, 1) := by decide +kernel
theorem dX6_takeAll_9 : decode cX6_takeAll 9 = .ok (.getfield 13, 3) := by decide +kernel
theorem dX6_takeAll_12 : decode cX6_takeAll 12 = .ok (.iconst 3, 1) := by decide +kernel
theorem dX6_takeAll_13 : decode cX6_takeAll 13 = .ok (.iaload, 1) := by decide +kernel
theorem dX6_takeAll_14 : decode cX6_takeAll 14 = .ok (.if_icmp .ge 42, 3) := by decide +kernel
theorem dX6_takeAll_17 : decode cX6_takeAll 17 = .ok (.aload_n 0, 1) := by decide +kernel
theorem dX6_takeAll_18 : decode cX6_takeAll 18 = .ok (.getfield 19, 3) := by decide +kernel
theorem dX6_takeAll_21 : decode cX6_takeAll 21 = .ok (.iconst 1, 1) := by decide +kernel
theorem dX6_takeAll_22 : decode cX6_takeAll 22 = .ok (.iaload, 1) := by decide +kernel
theorem dX6_takeAll_23 : decode cX6_takeAll 23 = .ok (.iload_n 1, 1) := by decide +kernel
theorem dX6_takeAll_24 : decode cX6_takeAll 24 = .ok (.invokestatic 167, 3) := by decide +kernel
theorem dX6_takeAll_27 : decode cX6_takeAll 27 = .ok (.ifCond .ne 23, 3) := by decide +kernel
theorem dX6_takeAll_30 : decode cX6_takeAll 30 = .ok (.aload_n 0, 1) := by decide +kernel
theorem dX6_takeAll_31 : decode cX6_takeAll 31 = .ok (.getfield 46, 3) := by decide +kernel
theorem dX6_takeAll_34 : decode cX6_takeAll 34 = .ok (.aload_n 0, 1) := by decide +kernel
theorem dX6_takeAll_35 : decode cX6_takeAll 35 = .ok (.getfield 191, 3) := by decide +kernel
theorem dX6_takeAll_38 : decode cX6_takeAll 38 = .ok (.iload_n 1, 1) := by decide +kernel
theorem dX6_takeAll_39 : decode cX6_takeAll 39 = .ok (.iastore, 1) := by decide +kernel
theorem dX6_takeAll_40 : decode cX6_takeAll 40 = .ok (.aload_n 0, 1) := by decide +kernel
theorem dX6_takeAll_41 : decode cX6_takeAll 41 = .ok (.dup, 1) := by decide +kernel
theorem dX6_takeAll_42 : decode cX6_takeAll 42 = .ok (.getfield 191, 3) := by decide +kernel
theorem dX6_takeAll_45 : decode cX6_takeAll 45 = .ok (.iconst 1, 1) := by decide +kernel
theorem dX6_takeAll_46 : decode cX6_takeAll 46 = .ok (.iadd, 1) := by decide +kernel
theorem dX6_takeAll_47 : decode cX6_takeAll 47 = .ok (.putfield 191, 3) := by decide +kernel
theorem dX6_takeAll_50 : decode cX6_takeAll 50 = .ok (.iinc 1 1, 3) := by decide +kernel
theorem dX6_takeAll_53 : decode cX6_takeAll 53 = .ok (.goto (-46), 3) := by decide +kernel
theorem dX6_takeAll_56 : decode cX6_takeAll 56 = .ok (.return_, 1) := by decide +kernel
theorem dX6_nextRow_0 : decode cX6_nextRow 0 = .ok (.aload_n 0, 1) := by decide +kernel
theorem dX6_nextRow_1 : decode cX6_nextRow 1 = .ok (.getfield 191, 3) := by decide +kernel
theorem dX6_nextRow_4 : decode cX6_nextRow 4 = .ok (.iconst 2, 1) := by decide +kernel
theorem dX6_nextRow_5 : decode cX6_nextRow 5 = .ok (.isub, 1) := by decide +kernel
theorem dX6_nextRow_6 : decode cX6_nextRow 6 = .ok (.istore_n 1, 1) := by decide +kernel
theorem dX6_nextRow_7 : decode cX6_nextRow 7 = .ok (.iload_n 1, 1) := by decide +kernel
theorem dX6_nextRow_8 : decode cX6_nextRow 8 = .ok (.ifCond .lt 26, 3) := by decide +kernel
theorem dX6_nextRow_11 : decode cX6_nextRow 11 = .ok (.aload_n 0, 1) := by decide +kernel
theorem dX6_nextRow_12 : decode cX6_nextRow 12 = .ok (.getfield 46, 3) := by decide +kernel
theorem dX6_nextRow_15 : decode cX6_nextRow 15 = .ok (.iload_n 1, 1) := by decide +kernel
theorem dX6_nextRow_16 : decode cX6_nextRow 16 = .ok (.iaload, 1) := by decide +kernel
theorem dX6_nextRow_17 : decode cX6_nextRow 17 = .ok (.aload_n 0, 1) := by decide +kernel
theorem dX6_nextRow_18 : decode cX6_nextRow 18 = .ok (.getfield 46, 3) := by decide +kernel
theorem dX6_nextRow_21 : decode cX6_nextRow 21 = .ok (.iload_n 1, 1) := by decide +kernel
theorem dX6_nextRow_22 : decode cX6_nextRow 22 = .ok (.iconst 1, 1) := by decide +kernel
theorem dX6_nextRow_23 : decode cX6_nextRow 23 = .ok (.iadd, 1) := by decide +kernel
theorem dX6_nextRow_24 : decode cX6_nextRow 24 = .ok (.iaload, 1) := by decide +kernel
theorem dX6_nextRow_25 : decode cX6_nextRow 25 = .ok (.if_icmp .le 9, 3) := by decide +kernel
theorem dX6_nextRow_28 : decode cX6_nextRow 28 = .ok (.iinc 1 (-1), 3) := by decide +kernel
theorem dX6_nextRow_31 : decode cX6_nextRow 31 = .ok (.goto (-24), 3) := by decide +kernel
theorem dX6_nextRow_34 : decode cX6_nextRow 34 = .ok (.iload_n 1, 1) := by decide +kernel
theorem dX6_nextRow_35 : decode cX6_nextRow 35 = .ok (.ifCond .ge 5, 3) := by decide +kernel
theorem dX6_nextRow_38 : decode cX6_nextRow 38 = .ok (.iconst 0, 1) := by decide +kernel
theorem dX6_nextRow_39 : decode cX6_nextRow 39 = .ok (.ireturn, 1) := by decide +kernel
theorem dX6_nextRow_40 : decode cX6_nextRow 40 = .ok (.aload_n 0, 1) := by decide +kernel
theorem dX6_nextRow_41 : decode cX6_nextRow 41 = .ok (.getfield 191, 3) := by decide +kernel
theorem dX6_nextRow_44 : decode cX6_nextRow 44 = .ok (.iconst 1, 1) := by decide +kernel
theorem dX6_nextRow_45 : decode cX6_nextRow 45 = .ok (.isub, 1) := by decide +kernel
theorem dX6_nextRow_46 : decode cX6_nextRow 46 = .ok (.istore_n 2, 1) := by decide +kernel
theorem dX6_nextRow_47 : decode cX6_nextRow 47 = .ok (.aload_n 0, 1) := by decide +kernel
theorem dX6_nextRow_48 : decode cX6_nextRow 48 = .ok (.getfield 46, 3) := by decide +kernel
theorem dX6_nextRow_51 : decode cX6_nextRow 51 = .ok (.iload_n 2, 1) := by decide +kernel
theorem dX6_nextRow_52 : decode cX6_nextRow 52 = .ok (.iaload, 1) := by decide +kernel
theorem dX6_nextRow_53 : decode cX6_nextRow 53 = .ok (.aload_n 0, 1) := by decide +kernel
theorem dX6_nextRow_54 : decode cX6_nextRow 54 = .ok (.getfield 46, 3) := by decide +kernel
theorem dX6_nextRow_57 : decode cX6_nextRow 57 = .ok (.iload_n 1, 1) := by decide +kernel
theorem dX6_nextRow_58 : decode cX6_nextRow 58 = .ok (.iaload, 1) := by decide +kernel
theorem dX6_nextRow_59 : decode cX6_nextRow 59 = .ok (.if_icmp .ge 9, 3) := by decide +kernel
theorem dX6_nextRow_62 : decode cX6_nextRow 62 = .ok (.iinc 2 (-1), 3) := by decide +kernel
theorem dX6_nextRow_65 : decode cX6_nextRow 65 = .ok (.goto (-18), 3) := by decide +kernel
theorem dX6_nextRow_68 : decode cX6_nextRow 68 = .ok (.aload_n 0, 1) := by decide +kernel
theorem dX6_nextRow_69 : decode cX6_nextRow 69 = .ok (.getfield 46, 3) := by decide +kernel
theorem dX6_nextRow_72 : decode cX6_nextRow 72 = .ok (.iload_n 1, 1) := by decide +kernel
theorem dX6_nextRow_73 : decode cX6_nextRow 73 = .ok (.iaload, 1) := by decide +kernel
theorem dX6_nextRow_74 : decode cX6_nextRow 74 = .ok (.istore_n 3, 1) := by decide +kernel
theorem dX6_nextRow_75 : decode cX6_nextRow 75 = .ok (.aload_n 0, 1) := by decide +kernel
theorem dX6_nextRow_76 : decode cX6_nextRow 76 = .ok (.getfield 46, 3) := by decide +kernel
theorem dX6_nextRow_79 : decode cX6_nextRow 79 = .ok (.iload_n 1, 1) := by decide +kernel
theorem dX6_nextRow_80 : decode cX6_nextRow 80 = .ok (.aload_n 0, 1) := by decide +kernel
theorem dX6_nextRow_81 : decode cX6_nextRow 81 = .ok (.getfield 46, 3) := by decide +kernel
theorem dX6_nextRow_84 : decode cX6_nextRow 84 = .ok (.iload_n 2, 1) := by decide +kernel
theorem dX6_nextRow_85 : decode cX6_nextRow 85 = .ok (.iaload, 1) := by decide +kernel
theorem dX6_nextRow_86 : decode cX6_nextRow 86 = .ok (.iastore, 1) := by decide +kernel
theorem dX6_nextRow_87 : decode cX6_nextRow 87 = .ok (.aload_n 0, 1) := by decide +kernel
theorem dX6_nextRow_88 : decode cX6_nextRow 88 = .ok (.getfield 46, 3) := by decide +kernel
theorem dX6_nextRow_91 : decode cX6_nextRow 91 = .ok (.iload_n 2, 1) := by decide +kernel
theorem dX6_nextRow_92 : decode cX6_nextRow 92 = .ok (.iload_n 3, 1) := by decide +kernel
theorem dX6_nextRow_93 : decode cX6_nextRow 93 = .ok (.iastore, 1) := by decide +kernel
theorem dX6_nextRow_94 : decode cX6_nextRow 94 = .ok (.iload_n 1, 1) := by decide +kernel
theorem dX6_nextRow_95 : decode cX6_nextRow 95 = .ok (.iconst 1, 1) := by decide +kernel
theorem dX6_nextRow_96 : decode cX6_nextRow 96 = .ok (.iadd, 1) := by decide +kernel
theorem dX6_nextRow_97 : decode cX6_nextRow 97 = .ok (.istore 4, 2) := by decide +kernel
theorem dX6_nextRow_99 : decode cX6_nextRow 99 = .ok (.iload 4, 2) := by decide +kernel
theorem dX6_nextRow_101 : decode cX6_nextRow 101 = .ok (.aload_n 0, 1) := by decide +kernel
theorem dX6_nextRow_102 : decode cX6_nextRow 102 = .ok (.getfield 191, 3) := by decide +kernel
theorem dX6_nextRow_105 : decode cX6_nextRow 105 = .ok (.iload_n 1, 1) := by decide +kernel
theorem dX6_nextRow_106 : decode cX6_nextRow 106 = .ok (.iadd, 1) := by decide +kernel
theorem dX6_nextRow_107 : decode cX6_nextRow 107 = .ok (.iload 4, 2) := by decide +kernel
theorem dX6_nextRow_109 : decode cX6_nextRow 109 = .ok (.isub, 1) := by decide +kernel
theorem dX6_nextRow_110 : decode cX6_nextRow 110 = .ok (.if_icmp .ge 55, 3) := by decide +kernel
theorem dX6_nextRow_113 : decode cX6_nextRow 113 = .ok (.aload_n 0, 1) := by decide +kernel
theorem dX6_nextRow_114 : decode cX6_nextRow 114 = .ok (.getfield 46, 3) := by decide +kernel
theorem dX6_nextRow_117 : decode cX6_nextRow 117 = .ok (.iload 4, 2) := by decide +kernel
theorem dX6_nextRow_119 : decode cX6_nextRow 119 = .ok (.iaload, 1) := by decide +kernel
theorem dX6_nextRow_120 : decode cX6_nextRow 120 = .ok (.istore 5, 2) := by decide +kernel
theorem dX6_nextRow_122 : decode cX6_nextRow 122 = .ok (.aload_n 0, 1) := by decide +kernel
theorem dX6_nextRow_123 : decode cX6_nextRow 123 = .ok (.getfield 46, 3) := by decide +kernel
theorem dX6_nextRow_126 : decode cX6_nextRow 126 = .ok (.iload 4, 2) := by decide +kernel
theorem dX6_nextRow_128 : decode cX6_nextRow 128 = .ok (.aload_n 0, 1) := by decide +kernel
theorem dX6_nextRow_129 : decode cX6_nextRow 129 = .ok (.getfield 46, 3) := by decide +kernel
theorem dX6_nextRow_132 : decode cX6_nextRow 132 = .ok (.aload_n 0, 1) := by decide +kernel
theorem dX6_nextRow_133 : decode cX6_nextRow 133 = .ok (.getfield 191, 3) := by decide +kernel
theorem dX6_nextRow_136 : decode cX6_nextRow 136 = .ok (.iload_n 1, 1) := by decide +kernel
theorem dX6_nextRow_137 : decode cX6_nextRow 137 = .ok (.iadd, 1) := by decide +kernel
theorem dX6_nextRow_138 : decode cX6_nextRow 138 = .ok (.iload 4, 2) := by decide +kernel
theorem dX6_nextRow_140 : decode cX6_nextRow 140 = .ok (.isub, 1) := by decide +kernel
theorem dX6_nextRow_141 : decode cX6_nextRow 141 = .ok (.iaload, 1) := by decide +kernel
theorem dX6_nextRow_142 : decode cX6_nextRow 142 = .ok (.iastore, 1) := by decide +kernel
theorem dX6_nextRow_143 : decode cX6_nextRow 143 = .ok (.aload_n 0, 1) := by decide +kernel
theorem dX6_nextRow_144 : decode cX6_nextRow 144 = .ok (.getfield 46, 3) := by decide +kernel
theorem dX6_nextRow_147 : decode cX6_nextRow 147 = .ok (.aload_n 0, 1) := by decide +kernel
theorem dX6_nextRow_148 : decode cX6_nextRow 148 = .ok (.getfield 191, 3) := by decide +kernel
theorem dX6_nextRow_151 : decode cX6_nextRow 151 = .ok (.iload_n 1, 1) := by decide +kernel
theorem dX6_nextRow_152 : decode cX6_nextRow 152 = .ok (.iadd, 1) := by decide +kernel
theorem dX6_nextRow_153 : decode cX6_nextRow 153 = .ok (.iload 4, 2) := by decide +kernel
theorem dX6_nextRow_155 : decode cX6_nextRow 155 = .ok (.isub, 1) := by decide +kernel
theorem dX6_nextRow_156 : decode cX6_nextRow 156 = .ok (.iload 5, 2) := by decide +kernel
theorem dX6_nextRow_158 : decode cX6_nextRow 158 = .ok (.iastore, 1) := by decide +kernel
theorem dX6_nextRow_159 : decode cX6_nextRow 159 = .ok (.iinc 4 1, 3) := by decide +kernel
theorem dX6_nextRow_162 : decode cX6_nextRow 162 = .ok (.goto (-63), 3) := by decide +kernel
theorem dX6_nextRow_165 : decode cX6_nextRow 165 = .ok (.iconst 1, 1) := by decide +kernel
theorem dX6_nextRow_166 : decode cX6_nextRow 166 = .ok (.ireturn, 1) := by decide +kernel
theorem dX6_mostByOrder_0 : decode cX6_mostByOrder 0 = .ok (.aload_n 0, 1) := by decide +kernel
theorem dX6_mostByOrder_1 : decode cX6_mostByOrder 1 = .ok (.invokevirtual 194, 3) := by decide +kernel
theorem dX6_mostByOrder_4 : decode cX6_mostByOrder 4 = .ok (.bipush (-4), 2) := by decide +kernel
theorem dX6_mostByOrder_6 : decode cX6_mostByOrder 6 = .ok (.istore_n 1, 1) := by decide +kernel
theorem dX6_mostByOrder_7 : decode cX6_mostByOrder 7 = .ok (.iconst 1, 1) := by decide +kernel
theorem dX6_mostByOrder_8 : decode cX6_mostByOrder 8 = .ok (.istore_n 2, 1) := by decide +kernel
theorem dX6_mostByOrder_9 : decode cX6_mostByOrder 9 = .ok (.iload_n 2, 1) := by decide +kernel
theorem dX6_mostByOrder_10 : decode cX6_mostByOrder 10 = .ok (.ifCond .eq 64, 3) := by decide +kernel
theorem dX6_mostByOrder_13 : decode cX6_mostByOrder 13 = .ok (.aload_n 0, 1) := by decide +kernel
theorem dX6_mostByOrder_14 : decode cX6_mostByOrder 14 = .ok (.invokevirtual 197, 3) := by decide +kernel
theorem dX6_mostByOrder_17 : decode cX6_mostByOrder 17 = .ok (.istore_n 3, 1) := by decide +kernel
theorem dX6_mostByOrder_18 : decode cX6_mostByOrder 18 = .ok (.iconst 0, 1) := by decide +kernel
theorem dX6_mostByOrder_19 : decode cX6_mostByOrder 19 = .ok (.istore 4, 2) := by decide +kernel
theorem dX6_mostByOrder_21 : decode cX6_mostByOrder 21 = .ok (.iload 4, 2) := by decide +kernel
theorem dX6_mostByOrder_23 : decode cX6_mostByOrder 23 = .ok (.aload_n 0, 1) := by decide +kernel
theorem dX6_mostByOrder_24 : decode cX6_mostByOrder 24 = .ok (.getfield 191, 3) := by decide +kernel
theorem dX6_mostByOrder_27 : decode cX6_mostByOrder 27 = .ok (.if_icmp .ge 28, 3) := by decide +kernel
theorem dX6_mostByOrder_30 : decode cX6_mostByOrder 30 = .ok (.iload_n 3, 1) := by decide +kernel
theorem dX6_mostByOrder_31 : decode cX6_mostByOrder 31 = .ok (.iload_n 1, 1) := by decide +kernel
theorem dX6_mostByOrder_32 : decode cX6_mostByOrder 32 = .ok (.if_icmp .le 23, 3) := by decide +kernel
theorem dX6_mostByOrder_35 : decode cX6_mostByOrder 35 = .ok (.aload_n 0, 1) := by decide +kernel
theorem dX6_mostByOrder_36 : decode cX6_mostByOrder 36 = .ok (.getfield 49, 3) := by decide +kernel
theorem dX6_mostByOrder_39 : decode cX6_mostByOrder 39 = .ok (.iload 4, 2) := by decide +kernel
theorem dX6_mostByOrder_41 : decode cX6_mostByOrder 41 = .ok (.aload_n 0, 1) := by decide +kernel
theorem dX6_mostByOrder_42 : decode cX6_mostByOrder 42 = .ok (.getfield 46, 3) := by decide +kernel
theorem dX6_mostByOrder_45 : decode cX6_mostByOrder 45 = .ok (.iload 4, 2) := by decide +kernel
theorem dX6_mostByOrder_47 : decode cX6_mostByOrder 47 = .ok (.iaload, 1) := by decide +kernel
theorem dX6_mostByOrder_48 : decode cX6_mostByOrder 48 = .ok (.iastore, 1) := by decide +kernel
theorem dX6_mostByOrder_49 : decode cX6_mostByOrder 49 = .ok (.iinc 4 1, 3) := by decide +kernel
theorem dX6_mostByOrder_52 : decode cX6_mostByOrder 52 = .ok (.goto (-31), 3) := by decide +kernel
theorem dX6_mostByOrder_55 : decode cX6_mostByOrder 55 = .ok (.iload_n 3, 1) := by decide +kernel
theorem dX6_mostByOrder_56 : decode cX6_mostByOrder 56 = .ok (.iload_n 1, 1) := by decide +kernel
theorem dX6_mostByOrder_57 : decode cX6_mostByOrder 57 = .ok (.if_icmp .le 7, 3) := by decide +kernel
theorem dX6_mostByOrder_60 : decode cX6_mostByOrder 60 = .ok (.iload_n 3, 1) := by decide +kernel
theorem dX6_mostByOrder_61 : decode cX6_mostByOrder 61 = .ok (.goto 4, 3) := by decide +kernel
theorem dX6_mostByOrder_64 : decode cX6_mostByOrder 64 = .ok (.iload_n 1, 1) := by decide +kernel
theorem dX6_mostByOrder_65 : decode cX6_mostByOrder 65 = .ok (.istore_n 1, 1) := by decide +kernel
theorem dX6_mostByOrder_66 : decode cX6_mostByOrder 66 = .ok (.aload_n 0, 1) := by decide +kernel
theorem dX6_mostByOrder_67 : decode cX6_mostByOrder 67 = .ok (.invokevirtual 200, 3) := by decide +kernel
theorem dX6_mostByOrder_70 : decode cX6_mostByOrder 70 = .ok (.istore_n 2, 1) := by decide +kernel
theorem dX6_mostByOrder_71 : decode cX6_mostByOrder 71 = .ok (.goto (-62), 3) := by decide +kernel
theorem dX6_mostByOrder_74 : decode cX6_mostByOrder 74 = .ok (.iload_n 1, 1) := by decide +kernel
theorem dX6_mostByOrder_75 : decode cX6_mostByOrder 75 = .ok (.ireturn, 1) := by decide +kernel
theorem dX6_order_0 : decode cX6_order 0 = .ok (.iload_n 1, 1) := by decide +kernel
theorem dX6_order_1 : decode cX6_order 1 = .ok (.iconst (-1), 1) := by decide +kernel
theorem dX6_order_2 : decode cX6_order 2 = .ok (.if_icmp .ge 5, 3) := by decide +kernel
theorem dX6_order_5 : decode cX6_order 5 = .ok (.iconst (-1), 1) := by decide +kernel
theorem dX6_order_6 : decode cX6_order 6 = .ok (.ireturn, 1) := by decide +kernel
theorem dX6_order_7 : decode cX6_order 7 = .ok (.aload_n 0, 1) := by decide +kernel
theorem dX6_order_8 : decode cX6_order 8 = .ok (.invokevirtual 203, 3) := by decide +kernel
theorem dX6_order_11 : decode cX6_order 11 = .ok (.istore_n 2, 1) := by decide +kernel
theorem dX6_order_12 : decode cX6_order 12 = .ok (.iload_n 1, 1) := by decide +kernel
theorem dX6_order_13 : decode cX6_order 13 = .ok (.ifCond .ge 7, 3) := by decide +kernel
theorem dX6_order_16 : decode cX6_order 16 = .ok (.iload_n 2, 1) := by decide +kernel
theorem dX6_order_17 : decode cX6_order 17 = .ok (.goto 22, 3) := by decide +kernel
theorem dX6_order_20 : decode cX6_order 20 = .ok (.iload_n 1, 1) := by decide +kernel
theorem dX6_order_21 : decode cX6_order 21 = .ok (.aload_n 0, 1) := by decide +kernel
theorem dX6_order_22 : decode cX6_order 22 = .ok (.getfield 191, 3) := by decide +kernel
theorem dX6_order_25 : decode cX6_order 25 = .ok (.if_icmp .ge 12, 3) := by decide +kernel
theorem dX6_order_28 : decode cX6_order 28 = .ok (.aload_n 0, 1) := by decide +kernel
theorem dX6_order_29 : decode cX6_order 29 = .ok (.getfield 49, 3) := by decide +kernel
theorem dX6_order_32 : decode cX6_order 32 = .ok (.iload_n 1, 1) := by decide +kernel
theorem dX6_order_33 : decode cX6_order 33 = .ok (.iaload, 1) := by decide +kernel
theorem dX6_order_34 : decode cX6_order 34 = .ok (.goto 5, 3) := by decide +kernel
theorem dX6_order_37 : decode cX6_order 37 = .ok (.bipush (-4), 2) := by decide +kernel
theorem dX6_order_39 : decode cX6_order 39 = .ok (.ireturn, 1) := by decide +kernel
theorem dX6_ways_0 : decode cX6_ways 0 = .ok (.iload_n 1, 1) := by decide +kernel
theorem dX6_ways_1 : decode cX6_ways 1 = .ok (.i2l, 1) := by decide +kernel
theorem dX6_ways_2 : decode cX6_ways 2 = .ok (.lconst 0, 1) := by decide +kernel
theorem dX6_ways_3 : decode cX6_ways 3 = .ok (.lconst 1, 1) := by decide +kernel
theorem dX6_ways_4 : decode cX6_ways 4 = .ok (.invokestatic 70, 3) := by decide +kernel
theorem dX6_ways_7 : decode cX6_ways 7 = .ok (.ifCond .ne 5, 3) := by decide +kernel
theorem dX6_ways_10 : decode cX6_ways 10 = .ok (.iconst (-1), 1) := by decide +kernel
theorem dX6_ways_11 : decode cX6_ways 11 = .ok (.ireturn, 1) := by decide +kernel
theorem dX6_ways_12 : decode cX6_ways 12 = .ok (.aload_n 0, 1) := by decide +kernel
theorem dX6_ways_13 : decode cX6_ways 13 = .ok (.invokevirtual 194, 3) := by decide +kernel
theorem dX6_ways_16 : decode cX6_ways 16 = .ok (.iconst 0, 1) := by decide +kernel
theorem dX6_ways_17 : decode cX6_ways 17 = .ok (.istore_n 2, 1) := by decide +kernel
theorem dX6_ways_18 : decode cX6_ways 18 = .ok (.iload_n 2, 1) := by decide +kernel
theorem dX6_ways_19 : decode cX6_ways 19 = .ok (.bipush 7, 2) := by decide +kernel
theorem dX6_ways_21 : decode cX6_ways 21 = .ok (.if_icmp .ge 118, 3) := by decide +kernel
theorem dX6_ways_24 : decode cX6_ways 24 = .ok (.iload_n 1, 1) := by decide +kernel
theorem dX6_ways_25 : decode cX6_ways 25 = .ok (.iconst 1, 1) := by decide +kernel
theorem dX6_ways_26 : decode cX6_ways 26 = .ok (.if_icmp .ne 113, 3) := by decide +kernel
theorem dX6_ways_29 : decode cX6_ways 29 = .ok (.iconst 0, 1) := by decide +kernel
theorem dX6_ways_30 : decode cX6_ways 30 = .ok (.istore_n 3, 1) := by decide +kernel
theorem dX6_ways_31 : decode cX6_ways 31 = .ok (.iload_n 3, 1) := by decide +kernel
theorem dX6_ways_32 : decode cX6_ways 32 = .ok (.iconst 1, 1) := by decide +kernel
theorem dX6_ways_33 : decode cX6_ways 33 = .ok (.iadd, 1) := by decide +kernel
theorem dX6_ways_34 : decode cX6_ways 34 = .ok (.aload_n 0, 1) := by decide +kernel
theorem dX6_ways_35 : decode cX6_ways 35 = .ok (.getfield 191, 3) := by decide +kernel
theorem dX6_ways_38 : decode cX6_ways 38 = .ok (.if_icmp .ge 95, 3) := by decide +kernel
theorem dX6_ways_41 : decode cX6_ways 41 = .ok (.aload_n 0, 1) := by decide +kernel
theorem dX6_ways_42 : decode cX6_ways 42 = .ok (.getfield 46, 3) := by decide +kernel
theorem dX6_ways_45 : decode cX6_ways 45 = .ok (.iload_n 3, 1) := by decide +kernel
theorem dX6_ways_46 : decode cX6_ways 46 = .ok (.iaload, 1) := by decide +kernel
theorem dX6_ways_47 : decode cX6_ways 47 = .ok (.istore 4, 2) := by decide +kernel
theorem dX6_ways_49 : decode cX6_ways 49 = .ok (.aload_n 0, 1) := by decide +kernel
theorem dX6_ways_50 : decode cX6_ways 50 = .ok (.getfield 46, 3) := by decide +kernel
theorem dX6_ways_53 : decode cX6_ways 53 = .ok (.iload_n 3, 1) := by decide +kernel
theorem dX6_ways_54 : decode cX6_ways 54 = .ok (.iconst 1, 1) := by decide +kernel
theorem dX6_ways_55 : decode cX6_ways 55 = .ok (.iadd, 1) := by decide +kernel
theorem dX6_ways_56 : decode cX6_ways 56 = .ok (.iaload, 1) := by decide +kernel
theorem dX6_ways_57 : decode cX6_ways 57 = .ok (.istore 5, 2) := by decide +kernel
theorem dX6_ways_59 : decode cX6_ways 59 = .ok (.aload_n 0, 1) := by decide +kernel
theorem dX6_ways_60 : decode cX6_ways 60 = .ok (.getfield 13, 3) := by decide +kernel
theorem dX6_ways_63 : decode cX6_ways 63 = .ok (.bipush 18, 2) := by decide +kernel
theorem dX6_ways_65 : decode cX6_ways 65 = .ok (.iload 4, 2) := by decide +kernel
theorem dX6_ways_67 : decode cX6_ways 67 = .ok (.iadd, 1) := by decide +kernel
theorem dX6_ways_68 : decode cX6_ways 68 = .ok (.iaload, 1) := by decide +kernel
theorem dX6_ways_69 : decode cX6_ways 69 = .ok (.aload_n 0, 1) := by decide +kernel
theorem dX6_ways_70 : decode cX6_ways 70 = .ok (.getfield 13, 3) := by decide +kernel
theorem dX6_ways_73 : decode cX6_ways 73 = .ok (.bipush 18, 2) := by decide +kernel
theorem dX6_ways_75 : decode cX6_ways 75 = .ok (.iload 5, 2) := by decide +kernel
theorem dX6_ways_77 : decode cX6_ways 77 = .ok (.iadd, 1) := by decide +kernel
theorem dX6_ways_78 : decode cX6_ways 78 = .ok (.iaload, 1) := by decide +kernel
theorem dX6_ways_79 : decode cX6_ways 79 = .ok (.if_icmp .ge 7, 3) := by decide +kernel
theorem dX6_ways_82 : decode cX6_ways 82 = .ok (.iconst 1, 1) := by decide +kernel
theorem dX6_ways_83 : decode cX6_ways 83 = .ok (.goto 4, 3) := by decide +kernel
theorem dX6_ways_86 : decode cX6_ways 86 = .ok (.iconst 0, 1) := by decide +kernel
theorem dX6_ways_87 : decode cX6_ways 87 = .ok (.istore 6, 2) := by decide +kernel
theorem dX6_ways_89 : decode cX6_ways 89 = .ok (.aload_n 0, 1) := by decide +kernel
theorem dX6_ways_90 : decode cX6_ways 90 = .ok (.getfield 46, 3) := by decide +kernel
theorem dX6_ways_93 : decode cX6_ways 93 = .ok (.iload_n 3, 1) := by decide +kernel
theorem dX6_ways_94 : decode cX6_ways 94 = .ok (.iload 6, 2) := by decide +kernel
theorem dX6_ways_96 : decode cX6_ways 96 = .ok (.ifCond .eq 8, 3) := by decide +kernel
theorem dX6_ways_99 : decode cX6_ways 99 = .ok (.iload 5, 2) := by decide +kernel
theorem dX6_ways_101 : decode cX6_ways 101 = .ok (.goto 5, 3) := by decide +kernel
theorem dX6_ways_104 : decode cX6_ways 104 = .ok (.iload 4, 2) := by decide +kernel
theorem dX6_ways_106 : decode cX6_ways 106 = .ok (.iastore, 1) := by decide +kernel
theorem dX6_ways_107 : decode cX6_ways 107 = .ok (.aload_n 0, 1) := by decide +kernel
theorem dX6_ways_108 : decode cX6_ways 108 = .ok (.getfield 46, 3) := by decide +kernel
theorem dX6_ways_111 : decode cX6_ways 111 = .ok (.iload_n 3, 1) := by decide +kernel
theorem dX6_ways_112 : decode cX6_ways 112 = .ok (.iconst 1, 1) := by decide +kernel
theorem dX6_ways_113 : decode cX6_ways 113 = .ok (.iadd, 1) := by decide +kernel
theorem dX6_ways_114 : decode cX6_ways 114 = .ok (.iload 6, 2) := by decide +kernel
theorem dX6_ways_116 : decode cX6_ways 116 = .ok (.ifCond .eq 8, 3) := by decide +kernel
theorem dX6_ways_119 : decode cX6_ways 119 = .ok (.iload 4, 2) := by decide +kernel
theorem dX6_ways_121 : decode cX6_ways 121 = .ok (.goto 5, 3) := by decide +kernel
theorem dX6_ways_124 : decode cX6_ways 124 = .ok (.iload 5, 2) := by decide +kernel
theorem dX6_ways_126 : decode cX6_ways 126 = .ok (.iastore, 1) := by decide +kernel
theorem dX6_ways_127 : decode cX6_ways 127 = .ok (.iinc 3 1, 3) := by decide +kernel
theorem dX6_ways_130 : decode cX6_ways 130 = .ok (.goto (-99), 3) := by decide +kernel
theorem dX6_ways_133 : decode cX6_ways 133 = .ok (.iinc 2 1, 3) := by decide +kernel
theorem dX6_ways_136 : decode cX6_ways 136 = .ok (.goto (-118), 3) := by decide +kernel
theorem dX6_ways_139 : decode cX6_ways 139 = .ok (.aload_n 0, 1) := by decide +kernel
theorem dX6_ways_140 : decode cX6_ways 140 = .ok (.invokevirtual 197, 3) := by decide +kernel
theorem dX6_ways_143 : decode cX6_ways 143 = .ok (.ireturn, 1) := by decide +kernel
theorem dX6_weakest_0 : decode cX6_weakest 0 = .ok (.aload_n 0, 1) := by decide +kernel
theorem dX6_weakest_1 : decode cX6_weakest 1 = .ok (.invokevirtual 158, 3) := by decide +kernel
theorem dX6_weakest_4 : decode cX6_weakest 4 = .ok (.iconst 1, 1) := by decide +kernel
theorem dX6_weakest_5 : decode cX6_weakest 5 = .ok (.istore_n 1, 1) := by decide +kernel
theorem dX6_weakest_6 : decode cX6_weakest 6 = .ok (.iload_n 1, 1) := by decide +kernel
theorem dX6_weakest_7 : decode cX6_weakest 7 = .ok (.bipush 10, 2) := by decide +kernel
theorem dX6_weakest_9 : decode cX6_weakest 9 = .ok (.if_icmp .ge 30, 3) := by decide +kernel
theorem dX6_weakest_12 : decode cX6_weakest 12 = .ok (.aload_n 0, 1) := by decide +kernel
theorem dX6_weakest_13 : decode cX6_weakest 13 = .ok (.invokevirtual 161, 3) := by decide +kernel
theorem dX6_weakest_16 : decode cX6_weakest 16 = .ok (.ifCond .eq 17, 3) := by decide +kernel
theorem dX6_weakest_19 : decode cX6_weakest 19 = .ok (.aload_n 0, 1) := by decide +kernel
theorem dX6_weakest_20 : decode cX6_weakest 20 = .ok (.iload_n 1, 1) := by decide +kernel
theorem dX6_weakest_21 : decode cX6_weakest 21 = .ok (.invokevirtual 182, 3) := by decide +kernel
theorem dX6_weakest_24 : decode cX6_weakest 24 = .ok (.aload_n 0, 1) := by decide +kernel
theorem dX6_weakest_25 : decode cX6_weakest 25 = .ok (.invokevirtual 161, 3) := by decide +kernel
theorem dX6_weakest_28 : decode cX6_weakest 28 = .ok (.if_icmp .ne 5, 3) := by decide +kernel
theorem dX6_weakest_31 : decode cX6_weakest 31 = .ok (.iload_n 1, 1) := by decide +kernel
theorem dX6_weakest_32 : decode cX6_weakest 32 = .ok (.ireturn, 1) := by decide +kernel
theorem dX6_weakest_33 : decode cX6_weakest 33 = .ok (.iinc 1 1, 3) := by decide +kernel
theorem dX6_weakest_36 : decode cX6_weakest 36 = .ok (.goto (-30), 3) := by decide +kernel
theorem dX6_weakest_39 : decode cX6_weakest 39 = .ok (.bipush (-4), 2) := by decide +kernel
theorem dX6_weakest_41 : decode cX6_weakest 41 = .ok (.ireturn, 1) := by decide +kernel
theorem dX6_seenMany_0 : decode cX6_seenMany 0 = .ok (.iconst 0, 1) := by decide +kernel
theorem dX6_seenMany_1 : decode cX6_seenMany 1 = .ok (.istore_n 1, 1) := by decide +kernel
theorem dX6_seenMany_2 : decode cX6_seenMany 2 = .ok (.iconst 0, 1) := by decide +kernel
theorem dX6_seenMany_3 : decode cX6_seenMany 3 = .ok (.istore_n 2, 1) := by decide +kernel
theorem dX6_seenMany_4 : decode cX6_seenMany 4 = .ok (.iload_n 2, 1) := by decide +kernel
theorem dX6_seenMany_5 : decode cX6_seenMany 5 = .ok (.bipush 7, 2) := by decide +kernel
theorem dX6_seenMany_7 : decode cX6_seenMany 7 = .ok (.if_icmp .ge 26, 3) := by decide +kernel
theorem dX6_seenMany_10 : decode cX6_seenMany 10 = .ok (.iload_n 1, 1) := by decide +kernel
theorem dX6_seenMany_11 : decode cX6_seenMany 11 = .ok (.aload_n 0, 1) := by decide +kernel
theorem dX6_seenMany_12 : decode cX6_seenMany 12 = .ok (.getfield 31, 3) := by decide +kernel
theorem dX6_seenMany_15 : decode cX6_seenMany 15 = .ok (.iload_n 2, 1) := by decide +kernel
theorem dX6_seenMany_16 : decode cX6_seenMany 16 = .ok (.iaload, 1) := by decide +kernel
theorem dX6_seenMany_17 : decode cX6_seenMany 17 = .ok (.ifCond .lt 7, 3) := by decide +kernel
theorem dX6_seenMany_20 : decode cX6_seenMany 20 = .ok (.iconst 1, 1) := by decide +kernel
theorem dX6_seenMany_21 : decode cX6_seenMany 21 = .ok (.goto 4, 3) := by decide +kernel
theorem dX6_seenMany_24 : decode cX6_seenMany 24 = .ok (.iconst 0, 1) := by decide +kernel
theorem dX6_seenMany_25 : decode cX6_seenMany 25 = .ok (.iadd, 1) := by decide +kernel
theorem dX6_seenMany_26 : decode cX6_seenMany 26 = .ok (.istore_n 1, 1) := by decide +kernel
theorem dX6_seenMany_27 : decode cX6_seenMany 27 = .ok (.iinc 2 1, 3) := by decide +kernel
theorem dX6_seenMany_30 : decode cX6_seenMany 30 = .ok (.goto (-26), 3) := by decide +kernel
theorem dX6_seenMany_33 : decode cX6_seenMany 33 = .ok (.iload_n 1, 1) := by decide +kernel
theorem dX6_seenMany_34 : decode cX6_seenMany 34 = .ok (.ireturn, 1) := by decide +kernel
theorem dX6_seen_0 : decode cX6_seen 0 = .ok (.aload_n 0, 1) := by decide +kernel
theorem dX6_seen_1 : decode cX6_seen 1 = .ok (.iload_n 1, 1) := by decide +kernel
theorem dX6_seen_2 : decode cX6_seen 2 = .ok (.invokevirtual 150, 3) := by decide +kernel
theorem dX6_seen_5 : decode cX6_seen 5 = .ok (.ifCond .eq 13, 3) := by decide +kernel
theorem dX6_seen_8 : decode cX6_seen 8 = .ok (.iload_n 2, 1) := by decide +kernel
theorem dX6_seen_9 : decode cX6_seen 9 = .ok (.i2l, 1) := by decide +kernel
theorem dX6_seen_10 : decode cX6_seen 10 = .ok (.lconst 0, 1) := by decide +kernel
theorem dX6_seen_11 : decode cX6_seen 11 = .ok (.lconst 1, 1) := by decide +kernel
theorem dX6_seen_12 : decode cX6_seen 12 = .ok (.invokestatic 70, 3) := by decide +kernel
theorem dX6_seen_15 : decode cX6_seen 15 = .ok (.ifCond .ne 5, 3) := by decide +kernel
theorem dX6_seen_18 : decode cX6_seen 18 = .ok (.iconst (-1), 1) := by decide +kernel
theorem dX6_seen_19 : decode cX6_seen 19 = .ok (.ireturn, 1) := by decide +kernel
theorem dX6_seen_20 : decode cX6_seen 20 = .ok (.aload_n 0, 1) := by decide +kernel
theorem dX6_seen_21 : decode cX6_seen 21 = .ok (.getfield 19, 3) := by decide +kernel
theorem dX6_seen_24 : decode cX6_seen 24 = .ok (.iconst 2, 1) := by decide +kernel
theorem dX6_seen_25 : decode cX6_seen 25 = .ok (.iload_n 1, 1) := by decide +kernel
theorem dX6_seen_26 : decode cX6_seen 26 = .ok (.iadd, 1) := by decide +kernel
theorem dX6_seen_27 : decode cX6_seen 27 = .ok (.iaload, 1) := by decide +kernel
theorem dX6_seen_28 : decode cX6_seen 28 = .ok (.ifCond .lt 12, 3) := by decide +kernel
theorem dX6_seen_31 : decode cX6_seen 31 = .ok (.aload_n 0, 1) := by decide +kernel
theorem dX6_seen_32 : decode cX6_seen 32 = .ok (.getfield 31, 3) := by decide +kernel
theorem dX6_seen_35 : decode cX6_seen 35 = .ok (.iload_n 1, 1) := by decide +kernel
theorem dX6_seen_36 : decode cX6_seen 36 = .ok (.iaload, 1) := by decide +kernel
theorem dX6_seen_37 : decode cX6_seen 37 = .ok (.ifCond .lt 6, 3) := by decide +kernel
theorem dX6_seen_40 : decode cX6_seen 40 = .ok (.bipush (-2), 2) := by decide +kernel
theorem dX6_seen_42 : decode cX6_seen 42 = .ok (.ireturn, 1) := by decide +kernel
theorem dX6_seen_43 : decode cX6_seen 43 = .ok (.aload_n 0, 1) := by decide +kernel
theorem dX6_seen_44 : decode cX6_seen 44 = .ok (.getfield 31, 3) := by decide +kernel
theorem dX6_seen_47 : decode cX6_seen 47 = .ok (.iload_n 1, 1) := by decide +kernel
theorem dX6_seen_48 : decode cX6_seen 48 = .ok (.iload_n 2, 1) := by decide +kernel
theorem dX6_seen_49 : decode cX6_seen 49 = .ok (.iastore, 1) := by decide +kernel
theorem dX6_seen_50 : decode cX6_seen 50 = .ok (.aload_n 0, 1) := by decide +kernel
theorem dX6_seen_51 : decode cX6_seen 51 = .ok (.invokevirtual 206, 3) := by decide +kernel
theorem dX6_seen_54 : decode cX6_seen 54 = .ok (.ireturn, 1) := by decide +kernel
theorem dX6_forget_0 : decode cX6_forget 0 = .ok (.aload_n 0, 1) := by decide +kernel
theorem dX6_forget_1 : decode cX6_forget 1 = .ok (.invokevirtual 206, 3) := by decide +kernel
theorem dX6_forget_4 : decode cX6_forget 4 = .ok (.istore_n 1, 1) := by decide +kernel
theorem dX6_forget_5 : decode cX6_forget 5 = .ok (.iconst 0, 1) := by decide +kernel
theorem dX6_forget_6 : decode cX6_forget 6 = .ok (.istore_n 2, 1) := by decide +kernel
theorem dX6_forget_7 : decode cX6_forget 7 = .ok (.iload_n 2, 1) := by decide +kernel
theorem dX6_forget_8 : decode cX6_forget 8 = .ok (.bipush 7, 2) := by decide +kernel
theorem dX6_forget_10 : decode cX6_forget 10 = .ok (.if_icmp .ge 17, 3) := by decide +kernel
theorem dX6_forget_13 : decode cX6_forget 13 = .ok (.aload_n 0, 1) := by decide +kernel
theorem dX6_forget_14 : decode cX6_forget 14 = .ok (.getfield 31, 3) := by decide +kernel
theorem dX6_forget_17 : decode cX6_forget 17 = .ok (.iload_n 2, 1) := by decide +kernel
theorem dX6_forget_18 : decode cX6_forget 18 = .ok (.bipush (-4), 2) := by decide +kernel
theorem dX6_forget_20 : decode cX6_forget 20 = .ok (.iastore, 1) := by decide +kernel
theorem dX6_forget_21 : decode cX6_forget 21 = .ok (.iinc 2 1, 3) := by decide +kernel
theorem dX6_forget_24 : decode cX6_forget 24 = .ok (.goto (-17), 3) := by decide +kernel
theorem dX6_forget_27 : decode cX6_forget 27 = .ok (.iload_n 1, 1) := by decide +kernel
theorem dX6_forget_28 : decode cX6_forget 28 = .ok (.ireturn, 1) := by decide +kernel
theorem dX6_strong_0 : decode cX6_strong 0 = .ok (.aload_n 0, 1) := by decide +kernel
theorem dX6_strong_1 : decode cX6_strong 1 = .ok (.invokevirtual 158, 3) := by decide +kernel
theorem dX6_strong_4 : decode cX6_strong 4 = .ok (.iconst 0, 1) := by decide +kernel
theorem dX6_strong_5 : decode cX6_strong 5 = .ok (.istore_n 1, 1) := by decide +kernel
theorem dX6_strong_6 : decode cX6_strong 6 = .ok (.iconst 1, 1) := by decide +kernel
theorem dX6_strong_7 : decode cX6_strong 7 = .ok (.istore_n 2, 1) := by decide +kernel
theorem dX6_strong_8 : decode cX6_strong 8 = .ok (.iload_n 2, 1) := by decide +kernel
theorem dX6_strong_9 : decode cX6_strong 9 = .ok (.bipush 10, 2) := by decide +kernel
theorem dX6_strong_11 : decode cX6_strong 11 = .ok (.if_icmp .ge 101, 3) := by decide +kernel
theorem dX6_strong_14 : decode cX6_strong 14 = .ok (.iconst 1, 1) := by decide +kernel
theorem dX6_strong_15 : decode cX6_strong 15 = .ok (.istore_n 3, 1) := by decide +kernel
theorem dX6_strong_16 : decode cX6_strong 16 = .ok (.iconst 0, 1) := by decide +kernel
theorem dX6_strong_17 : decode cX6_strong 17 = .ok (.istore 4, 2) := by decide +kernel
theorem dX6_strong_19 : decode cX6_strong 19 = .ok (.iload 4, 2) := by decide +kernel
theorem dX6_strong_21 : decode cX6_strong 21 = .ok (.aload_n 0, 1) := by decide +kernel
theorem dX6_strong_22 : decode cX6_strong 22 = .ok (.getfield 13, 3) := by decide +kernel
theorem dX6_strong_25 : decode cX6_strong 25 = .ok (.iconst 3, 1) := by decide +kernel
theorem dX6_strong_26 : decode cX6_strong 26 = .ok (.iaload, 1) := by decide +kernel
theorem dX6_strong_27 : decode cX6_strong 27 = .ok (.if_icmp .ge 65, 3) := by decide +kernel
theorem dX6_strong_30 : decode cX6_strong 30 = .ok (.iload_n 3, 1) := by decide +kernel
theorem dX6_strong_31 : decode cX6_strong 31 = .ok (.ifCond .eq 53, 3) := by decide +kernel
theorem dX6_strong_34 : decode cX6_strong 34 = .ok (.aload_n 0, 1) := by decide +kernel
theorem dX6_strong_35 : decode cX6_strong 35 = .ok (.getfield 31, 3) := by decide +kernel
theorem dX6_strong_38 : decode cX6_strong 38 = .ok (.iload 4, 2) := by decide +kernel
theorem dX6_strong_40 : decode cX6_strong 40 = .ok (.iaload, 1) := by decide +kernel
theorem dX6_strong_41 : decode cX6_strong 41 = .ok (.ifCond .lt 39, 3) := by decide +kernel
theorem dX6_strong_44 : decode cX6_strong 44 = .ok (.aload_n 0, 1) := by decide +kernel
theorem dX6_strong_45 : decode cX6_strong 45 = .ok (.getfield 37, 3) := by decide +kernel
theorem dX6_strong_48 : decode cX6_strong 48 = .ok (.iload 4, 2) := by decide +kernel
theorem dX6_strong_50 : decode cX6_strong 50 = .ok (.iaload, 1) := by decide +kernel
theorem dX6_strong_51 : decode cX6_strong 51 = .ok (.ifCond .lt 29, 3) := by decide +kernel
theorem dX6_strong_54 : decode cX6_strong 54 = .ok (.aload_n 0, 1) := by decide +kernel
theorem dX6_strong_55 : decode cX6_strong 55 = .ok (.iload 4, 2) := by decide +kernel
theorem dX6_strong_57 : decode cX6_strong 57 = .ok (.iload_n 2, 1) := by decide +kernel
theorem dX6_strong_58 : decode cX6_strong 58 = .ok (.invokevirtual 146, 3) := by decide +kernel
theorem dX6_strong_61 : decode cX6_strong 61 = .ok (.aload_n 0, 1) := by decide +kernel
theorem dX6_strong_62 : decode cX6_strong 62 = .ok (.getfield 31, 3) := by decide +kernel
theorem dX6_strong_65 : decode cX6_strong 65 = .ok (.iload 4, 2) := by decide +kernel
theorem dX6_strong_67 : decode cX6_strong 67 = .ok (.iaload, 1) := by decide +kernel
theorem dX6_strong_68 : decode cX6_strong 68 = .ok (.iconst 1, 1) := by decide +kernel
theorem dX6_strong_69 : decode cX6_strong 69 = .ok (.if_icmp .ne 7, 3) := by decide +kernel
theorem dX6_strong_72 : decode cX6_strong 72 = .ok (.iconst 1, 1) := by decide +kernel
theorem dX6_strong_73 : decode cX6_strong 73 = .ok (.goto 4, 3) := by decide +kernel
theorem dX6_strong_76 : decode cX6_strong 76 = .ok (.iconst 0, 1) := by decide +kernel
theorem dX6_strong_77 : decode cX6_strong 77 = .ok (.if_icmp .ne 7, 3) := by decide +kernel
theorem dX6_strong_80 : decode cX6_strong 80 = .ok (.iconst 1, 1) := by decide +kernel
theorem dX6_strong_81 : decode cX6_strong 81 = .ok (.goto 4, 3) := by decide +kernel
theorem dX6_strong_84 : decode cX6_strong 84 = .ok (.iconst 0, 1) := by decide +kernel
theorem dX6_strong_85 : decode cX6_strong 85 = .ok (.istore_n 3, 1) := by decide +kernel
theorem dX6_strong_86 : decode cX6_strong 86 = .ok (.iinc 4 1, 3) := by decide +kernel
theorem dX6_strong_89 : decode cX6_strong 89 = .ok (.goto (-70), 3) := by decide +kernel
theorem dX6_strong_92 : decode cX6_strong 92 = .ok (.iload_n 1, 1) := by decide +kernel
theorem dX6_strong_93 : decode cX6_strong 93 = .ok (.iload_n 3, 1) := by decide +kernel
theorem dX6_strong_94 : decode cX6_strong 94 = .ok (.ifCond .eq 9, 3) := by decide +kernel
theorem dX6_strong_97 : decode cX6_strong 97 = .ok (.iconst 1, 1) := by decide +kernel
theorem dX6_strong_98 : decode cX6_strong 98 = .ok (.iload_n 2, 1) := by decide +kernel
theorem dX6_strong_99 : decode cX6_strong 99 = .ok (.ishl, 1) := by decide +kernel
theorem dX6_strong_100 : decode cX6_strong 100 = .ok (.goto 4, 3) := by decide +kernel
theorem dX6_strong_103 : decode cX6_strong 103 = .ok (.iconst 0, 1) := by decide +kernel
theorem dX6_strong_104 : decode cX6_strong 104 = .ok (.ior, 1) := by decide +kernel
theorem dX6_strong_105 : decode cX6_strong 105 = .ok (.istore_n 1, 1) := by decide +kernel
theorem dX6_strong_106 : decode cX6_strong 106 = .ok (.iinc 2 1, 3) := by decide +kernel
theorem dX6_strong_109 : decode cX6_strong 109 = .ok (.goto (-101), 3) := by decide +kernel
theorem dX6_strong_112 : decode cX6_strong 112 = .ok (.iload_n 1, 1) := by decide +kernel
theorem dX6_strong_113 : decode cX6_strong 113 = .ok (.ireturn, 1) := by decide +kernel
theorem dX6_run_0 : decode cX6_run 0 = .ok (.iload_n 1, 1) := by decide +kernel
theorem dX6_run_1 : decode cX6_run 1 = .ok (.i2l, 1) := by decide +kernel
theorem dX6_run_2 : decode cX6_run 2 = .ok (.lconst 0, 1) := by decide +kernel
theorem dX6_run_3 : decode cX6_run 3 = .ok (.ldc2_w 209, 3) := by decide +kernel
theorem dX6_run_6 : decode cX6_run 6 = .ok (.invokestatic 70, 3) := by decide +kernel
theorem dX6_run_9 : decode cX6_run 9 = .ok (.ifCond .eq 25, 3) := by decide +kernel
theorem dX6_run_12 : decode cX6_run 12 = .ok (.iload_n 2, 1) := by decide +kernel
theorem dX6_run_13 : decode cX6_run 13 = .ok (.i2l, 1) := by decide +kernel
theorem dX6_run_14 : decode cX6_run 14 = .ok (.lconst 1, 1) := by decide +kernel
theorem dX6_run_15 : decode cX6_run 15 = .ok (.ldc2_w 211, 3) := by decide +kernel
theorem dX6_run_18 : decode cX6_run 18 = .ok (.invokestatic 70, 3) := by decide +kernel
theorem dX6_run_21 : decode cX6_run 21 = .ok (.ifCond .eq 13, 3) := by decide +kernel
theorem dX6_run_24 : decode cX6_run 24 = .ok (.iload_n 3, 1) := by decide +kernel
theorem dX6_run_25 : decode cX6_run 25 = .ok (.i2l, 1) := by decide +kernel
theorem dX6_run_26 : decode cX6_run 26 = .ok (.lconst 0, 1) := by decide +kernel
theorem dX6_run_27 : decode cX6_run 27 = .ok (.lconst 1, 1) := by decide +kernel
theorem dX6_run_28 : decode cX6_run 28 = .ok (.invokestatic 70, 3) := by decide +kernel
theorem dX6_run_31 : decode cX6_run 31 = .ok (.ifCond .ne 5, 3) := by decide +kernel
theorem dX6_run_34 : decode cX6_run 34 = .ok (.iconst (-1), 1) := by decide +kernel
theorem dX6_run_35 : decode cX6_run 35 = .ok (.ireturn, 1) := by decide +kernel
theorem dX6_run_36 : decode cX6_run 36 = .ok (.iload_n 1, 1) := by decide +kernel
theorem dX6_run_37 : decode cX6_run 37 = .ok (.istore 4, 2) := by decide +kernel
theorem dX6_run_39 : decode cX6_run 39 = .ok (.iconst 1, 1) := by decide +kernel
theorem dX6_run_40 : decode cX6_run 40 = .ok (.istore 5, 2) := by decide +kernel
theorem dX6_run_42 : decode cX6_run 42 = .ok (.iload 5, 2) := by decide +kernel
theorem dX6_run_44 : decode cX6_run 44 = .ok (.iload_n 2, 1) := by decide +kernel
theorem dX6_run_45 : decode cX6_run 45 = .ok (.if_icmp .ge 50, 3) := by decide +kernel
theorem dX6_run_48 : decode cX6_run 48 = .ok (.iload_n 1, 1) := by decide +kernel
theorem dX6_run_49 : decode cX6_run 49 = .ok (.iload 5, 2) := by decide +kernel
theorem dX6_run_51 : decode cX6_run 51 = .ok (.iadd, 1) := by decide +kernel
theorem dX6_run_52 : decode cX6_run 52 = .ok (.bipush 24, 2) := by decide +kernel
theorem dX6_run_54 : decode cX6_run 54 = .ok (.irem, 1) := by decide +kernel
theorem dX6_run_55 : decode cX6_run 55 = .ok (.istore 6, 2) := by decide +kernel
theorem dX6_run_57 : decode cX6_run 57 = .ok (.aload_n 0, 1) := by decide +kernel
theorem dX6_run_58 : decode cX6_run 58 = .ok (.getfield 13, 3) := by decide +kernel
theorem dX6_run_61 : decode cX6_run 61 = .ok (.bipush 32, 2) := by decide +kernel
theorem dX6_run_63 : decode cX6_run 63 = .ok (.iload 6, 2) := by decide +kernel
theorem dX6_run_65 : decode cX6_run 65 = .ok (.iadd, 1) := by decide +kernel
theorem dX6_run_66 : decode cX6_run 66 = .ok (.iaload, 1) := by decide +kernel
theorem dX6_run_67 : decode cX6_run 67 = .ok (.aload_n 0, 1) := by decide +kernel
theorem dX6_run_68 : decode cX6_run 68 = .ok (.getfield 13, 3) := by decide +kernel
theorem dX6_run_71 : decode cX6_run 71 = .ok (.bipush 32, 2) := by decide +kernel
theorem dX6_run_73 : decode cX6_run 73 = .ok (.iload 4, 2) := by decide +kernel
theorem dX6_run_75 : decode cX6_run 75 = .ok (.iadd, 1) := by decide +kernel
theorem dX6_run_76 : decode cX6_run 76 = .ok (.iaload, 1) := by decide +kernel
theorem dX6_run_77 : decode cX6_run 77 = .ok (.if_icmp .ge 8, 3) := by decide +kernel
theorem dX6_run_80 : decode cX6_run 80 = .ok (.iload 6, 2) := by decide +kernel
theorem dX6_run_82 : decode cX6_run 82 = .ok (.goto 5, 3) := by decide +kernel
theorem dX6_run_85 : decode cX6_run 85 = .ok (.iload 4, 2) := by decide +kernel
theorem dX6_run_87 : decode cX6_run 87 = .ok (.istore 4, 2) := by decide +kernel
theorem dX6_run_89 : decode cX6_run 89 = .ok (.iinc 5 1, 3) := by decide +kernel
theorem dX6_run_92 : decode cX6_run 92 = .ok (.goto (-50), 3) := by decide +kernel
theorem dX6_run_95 : decode cX6_run 95 = .ok (.iload_n 3, 1) := by decide +kernel
theorem dX6_run_96 : decode cX6_run 96 = .ok (.ifCond .ne 8, 3) := by decide +kernel
theorem dX6_run_99 : decode cX6_run 99 = .ok (.iload 4, 2) := by decide +kernel
theorem dX6_run_101 : decode cX6_run 101 = .ok (.goto 13, 3) := by decide +kernel
theorem dX6_run_104 : decode cX6_run 104 = .ok (.aload_n 0, 1) := by decide +kernel
theorem dX6_run_105 : decode cX6_run 105 = .ok (.getfield 13, 3) := by decide +kernel
theorem dX6_run_108 : decode cX6_run 108 = .ok (.bipush 32, 2) := by decide +kernel
theorem dX6_run_110 : decode cX6_run 110 = .ok (.iload 4, 2) := by decide +kernel
theorem dX6_run_112 : decode cX6_run 112 = .ok (.iadd, 1) := by decide +kernel
theorem dX6_run_113 : decode cX6_run 113 = .ok (.iaload, 1) := by decide +kernel
theorem dX6_run_114 : decode cX6_run 114 = .ok (.ireturn, 1) := by decide +kernel
theorem dX6_half_0 : decode cX6_half 0 = .ok (.iload_n 1, 1) := by decide +kernel
theorem dX6_half_1 : decode cX6_half 1 = .ok (.i2l, 1) := by decide +kernel
theorem dX6_half_2 : decode cX6_half 2 = .ok (.lconst 0, 1) := by decide +kernel
theorem dX6_half_3 : decode cX6_half 3 = .ok (.ldc2_w 209, 3) := by decide +kernel
theorem dX6_half_6 : decode cX6_half 6 = .ok (.invokestatic 70, 3) := by decide +kernel
theorem dX6_half_9 : decode cX6_half 9 = .ok (.ifCond .eq 15, 3) := by decide +kernel
theorem dX6_half_12 : decode cX6_half 12 = .ok (.iload_n 2, 1) := by decide +kernel
theorem dX6_half_13 : decode cX6_half 13 = .ok (.i2l, 1) := by decide +kernel
theorem dX6_half_14 : decode cX6_half 14 = .ok (.lconst 1, 1) := by decide +kernel
theorem dX6_half_15 : decode cX6_half 15 = .ok (.ldc2_w 211, 3) := by decide +kernel
theorem dX6_half_18 : decode cX6_half 18 = .ok (.invokestatic 70, 3) := by decide +kernel
theorem dX6_half_21 : decode cX6_half 21 = .ok (.ifCond .ne 5, 3) := by decide +kernel
