theorem dX3_init_0 : decode cX3_init 0 = .ok (.aload_n 0, 1) := by decide +kernel
theorem dX3_init_1 : decode cX3_init 1 = .ok (.invokespecial 3, 3) := by decide +kernel
theorem dX3_init_4 : decode cX3_init 4 = .ok (.aload_n 0, 1) := by decide +kernel
theorem dX3_init_5 : decode cX3_init 5 = .ok (.new 9, 3) := by decide +kernel
theorem dX3_init_8 : decode cX3_init 8 = .ok (.dup, 1) := by decide +kernel
theorem dX3_init_9 : decode cX3_init 9 = .ok (.invokespecial 11, 3) := by decide +kernel
theorem dX3_init_12 : decode cX3_init 12 = .ok (.putfield 12, 3) := by decide +kernel
theorem dX3_init_15 : decode cX3_init 15 = .ok (.aload_n 0, 1) := by decide +kernel
theorem dX3_init_16 : decode cX3_init 16 = .ok (.new 18, 3) := by decide +kernel
theorem dX3_init_19 : decode cX3_init 19 = .ok (.dup, 1) := by decide +kernel
theorem dX3_init_20 : decode cX3_init 20 = .ok (.aload_n 0, 1) := by decide +kernel
theorem dX3_init_21 : decode cX3_init 21 = .ok (.getfield 12, 3) := by decide +kernel
theorem dX3_init_24 : decode cX3_init 24 = .ok (.invokespecial 20, 3) := by decide +kernel
theorem dX3_init_27 : decode cX3_init 27 = .ok (.putfield 23, 3) := by decide +kernel
theorem dX3_init_30 : decode cX3_init 30 = .ok (.aload_n 0, 1) := by decide +kernel
theorem dX3_init_31 : decode cX3_init 31 = .ok (.iconst 4, 1) := by decide +kernel
theorem dX3_init_32 : decode cX3_init 32 = .ok (.newarray .int, 2) := by decide +kernel
theorem dX3_init_34 : decode cX3_init 34 = .ok (.putfield 27, 3) := by decide +kernel
theorem dX3_init_37 : decode cX3_init 37 = .ok (.return_, 1) := by decide +kernel
theorem dX3_findFault_0 : decode cX3_findFault 0 = .ok (.aload_n 0, 1) := by decide +kernel
theorem dX3_findFault_1 : decode cX3_findFault 1 = .ok (.invokevirtual 31, 3) := by decide +kernel
theorem dX3_findFault_4 : decode cX3_findFault 4 = .ok (.iload_n 2, 1) := by decide +kernel
theorem dX3_findFault_5 : decode cX3_findFault 5 = .ok (.aload_n 1, 1) := by decide +kernel
theorem dX3_findFault_6 : decode cX3_findFault 6 = .ok (.arraylength, 1) := by decide +kernel
theorem dX3_findFault_7 : decode cX3_findFault 7 = .ok (.invokestatic 34, 3) := by decide +kernel
theorem dX3_findFault_10 : decode cX3_findFault 10 = .ok (.istore_n 3, 1) := by decide +kernel
theorem dX3_findFault_11 : decode cX3_findFault 11 = .ok (.iconst 0, 1) := by decide +kernel
theorem dX3_findFault_12 : decode cX3_findFault 12 = .ok (.istore 4, 2) := by decide +kernel
theorem dX3_findFault_14 : decode cX3_findFault 14 = .ok (.iconst 0, 1) := by decide +kernel
theorem dX3_findFault_15 : decode cX3_findFault 15 = .ok (.istore 5, 2) := by decide +kernel
theorem dX3_findFault_17 : decode cX3_findFault 17 = .ok (.iload 5, 2) := by decide +kernel
theorem dX3_findFault_19 : decode cX3_findFault 19 = .ok (.sipush 200, 3) := by decide +kernel
theorem dX3_findFault_22 : decode cX3_findFault 22 = .ok (.if_icmp .ge 50, 3) := by decide +kernel
theorem dX3_findFault_25 : decode cX3_findFault 25 = .ok (.iload 4, 2) := by decide +kernel
theorem dX3_findFault_27 : decode cX3_findFault 27 = .ok (.iload_n 3, 1) := by decide +kernel
theorem dX3_findFault_28 : decode cX3_findFault 28 = .ok (.if_icmp .ge 44, 3) := by decide +kernel
theorem dX3_findFault_31 : decode cX3_findFault 31 = .ok (.aload_n 0, 1) := by decide +kernel
theorem dX3_findFault_32 : decode cX3_findFault 32 = .ok (.aload_n 1, 1) := by decide +kernel
theorem dX3_findFault_33 : decode cX3_findFault 33 = .ok (.iload 4, 2) := by decide +kernel
theorem dX3_findFault_35 : decode cX3_findFault 35 = .ok (.iconst 1, 1) := by decide +kernel
theorem dX3_findFault_36 : decode cX3_findFault 36 = .ok (.iadd, 1) := by decide +kernel
theorem dX3_findFault_37 : decode cX3_findFault 37 = .ok (.iload_n 3, 1) := by decide +kernel
theorem dX3_findFault_38 : decode cX3_findFault 38 = .ok (.invokevirtual 40, 3) := by decide +kernel
theorem dX3_findFault_41 : decode cX3_findFault 41 = .ok (.istore 6, 2) := by decide +kernel
theorem dX3_findFault_43 : decode cX3_findFault 43 = .ok (.iload 6, 2) := by decide +kernel
theorem dX3_findFault_45 : decode cX3_findFault 45 = .ok (.ifCond .lt 14, 3) := by decide +kernel
theorem dX3_findFault_48 : decode cX3_findFault 48 = .ok (.aload_n 0, 1) := by decide +kernel
theorem dX3_findFault_49 : decode cX3_findFault 49 = .ok (.aload_n 1, 1) := by decide +kernel
theorem dX3_findFault_50 : decode cX3_findFault 50 = .ok (.iload 4, 2) := by decide +kernel
theorem dX3_findFault_52 : decode cX3_findFault 52 = .ok (.iaload, 1) := by decide +kernel
theorem dX3_findFault_53 : decode cX3_findFault 53 = .ok (.invokevirtual 44, 3) := by decide +kernel
theorem dX3_findFault_56 : decode cX3_findFault 56 = .ok (.ifCond .ne 6, 3) := by decide +kernel
theorem dX3_findFault_59 : decode cX3_findFault 59 = .ok (.iload 4, 2) := by decide +kernel
theorem dX3_findFault_61 : decode cX3_findFault 61 = .ok (.ireturn, 1) := by decide +kernel
theorem dX3_findFault_62 : decode cX3_findFault 62 = .ok (.iload 6, 2) := by decide +kernel
theorem dX3_findFault_64 : decode cX3_findFault 64 = .ok (.istore 4, 2) := by decide +kernel
theorem dX3_findFault_66 : decode cX3_findFault 66 = .ok (.iinc 5 1, 3) := by decide +kernel
theorem dX3_findFault_69 : decode cX3_findFault 69 = .ok (.goto (-52), 3) := by decide +kernel
theorem dX3_findFault_72 : decode cX3_findFault 72 = .ok (.bipush (-4), 2) := by decide +kernel
theorem dX3_findFault_74 : decode cX3_findFault 74 = .ok (.ireturn, 1) := by decide +kernel
theorem dX3_begin_0 : decode cX3_begin 0 = .ok (.aload_n 0, 1) := by decide +kernel
theorem dX3_begin_1 : decode cX3_begin 1 = .ok (.getfield 12, 3) := by decide +kernel
theorem dX3_begin_4 : decode cX3_begin 4 = .ok (.invokevirtual 48, 3) := by decide +kernel
theorem dX3_begin_7 : decode cX3_begin 7 = .ok (.aload_n 0, 1) := by decide +kernel
theorem dX3_begin_8 : decode cX3_begin 8 = .ok (.getfield 23, 3) := by decide +kernel
theorem dX3_begin_11 : decode cX3_begin 11 = .ok (.invokevirtual 49, 3) := by decide +kernel
theorem dX3_begin_14 : decode cX3_begin 14 = .ok (.aload_n 0, 1) := by decide +kernel
theorem dX3_begin_15 : decode cX3_begin 15 = .ok (.getfield 23, 3) := by decide +kernel
theorem dX3_begin_18 : decode cX3_begin 18 = .ok (.iconst 0, 1) := by decide +kernel
theorem dX3_begin_19 : decode cX3_begin 19 = .ok (.putfield 52, 3) := by decide +kernel
theorem dX3_begin_22 : decode cX3_begin 22 = .ok (.aload_n 0, 1) := by decide +kernel
theorem dX3_begin_23 : decode cX3_begin 23 = .ok (.getfield 23, 3) := by decide +kernel
theorem dX3_begin_26 : decode cX3_begin 26 = .ok (.iconst 5, 1) := by decide +kernel
theorem dX3_begin_27 : decode cX3_begin 27 = .ok (.putfield 56, 3) := by decide +kernel
theorem dX3_begin_30 : decode cX3_begin 30 = .ok (.aload_n 0, 1) := by decide +kernel
theorem dX3_begin_31 : decode cX3_begin 31 = .ok (.iconst 1, 1) := by decide +kernel
theorem dX3_begin_32 : decode cX3_begin 32 = .ok (.putfield 59, 3) := by decide +kernel
theorem dX3_begin_35 : decode cX3_begin 35 = .ok (.return_, 1) := by decide +kernel
theorem dX3_readNumbers_0 : decode cX3_readNumbers 0 = .ok (.aload_n 0, 1) := by decide +kernel
theorem dX3_readNumbers_1 : decode cX3_readNumbers 1 = .ok (.iconst 0, 1) := by decide +kernel
theorem dX3_readNumbers_2 : decode cX3_readNumbers 2 = .ok (.putfield 63, 3) := by decide +kernel
theorem dX3_readNumbers_5 : decode cX3_readNumbers 5 = .ok (.iconst 0, 1) := by decide +kernel
theorem dX3_readNumbers_6 : decode cX3_readNumbers 6 = .ok (.istore 4, 2) := by decide +kernel
theorem dX3_readNumbers_8 : decode cX3_readNumbers 8 = .ok (.iconst 0, 1) := by decide +kernel
theorem dX3_readNumbers_9 : decode cX3_readNumbers 9 = .ok (.istore 5, 2) := by decide +kernel
theorem dX3_readNumbers_11 : decode cX3_readNumbers 11 = .ok (.iload_n 2, 1) := by decide +kernel
theorem dX3_readNumbers_12 : decode cX3_readNumbers 12 = .ok (.istore 6, 2) := by decide +kernel
theorem dX3_readNumbers_14 : decode cX3_readNumbers 14 = .ok (.iload 6, 2) := by decide +kernel
theorem dX3_readNumbers_16 : decode cX3_readNumbers 16 = .ok (.iload_n 3, 1) := by decide +kernel
theorem dX3_readNumbers_17 : decode cX3_readNumbers 17 = .ok (.if_icmp .ge 122, 3) := by decide +kernel
theorem dX3_readNumbers_20 : decode cX3_readNumbers 20 = .ok (.aload_n 1, 1) := by decide +kernel
theorem dX3_readNumbers_21 : decode cX3_readNumbers 21 = .ok (.iload 6, 2) := by decide +kernel
theorem dX3_readNumbers_23 : decode cX3_readNumbers 23 = .ok (.iaload, 1) := by decide +kernel
theorem dX3_readNumbers_24 : decode cX3_readNumbers 24 = .ok (.istore 7, 2) := by decide +kernel
theorem dX3_readNumbers_26 : decode cX3_readNumbers 26 = .ok (.iload 7, 2) := by decide +kernel
theorem dX3_readNumbers_28 : decode cX3_readNumbers 28 = .ok (.bipush 48, 2) := by decide +kernel
theorem dX3_readNumbers_30 : decode cX3_readNumbers 30 = .ok (.if_icmp .lt 35, 3) := by decide +kernel
theorem dX3_readNumbers_33 : decode cX3_readNumbers 33 = .ok (.iload 7, 2) := by decide +kernel
theorem dX3_readNumbers_35 : decode cX3_readNumbers 35 = .ok (.bipush 57, 2) := by decide +kernel
theorem dX3_readNumbers_37 : decode cX3_readNumbers 37 = .ok (.if_icmp .gt 28, 3) := by decide +kernel
theorem dX3_readNumbers_40 : decode cX3_readNumbers 40 = .ok (.iload 4, 2) := by decide +kernel
theorem dX3_readNumbers_42 : decode cX3_readNumbers 42 = .ok (.iconst 2, 1) := by decide +kernel
theorem dX3_readNumbers_43 : decode cX3_readNumbers 43 = .ok (.if_icmp .ge 22, 3) := by decide +kernel
theorem dX3_readNumbers_46 : decode cX3_readNumbers 46 = .ok (.iload 5, 2) := by decide +kernel
theorem dX3_readNumbers_48 : decode cX3_readNumbers 48 = .ok (.bipush 10, 2) := by decide +kernel
theorem dX3_readNumbers_50 : decode cX3_readNumbers 50 = .ok (.imul, 1) := by decide +kernel
theorem dX3_readNumbers_51 : decode cX3_readNumbers 51 = .ok (.iload 7, 2) := by decide +kernel
theorem dX3_readNumbers_53 : decode cX3_readNumbers 53 = .ok (.iadd, 1) := by decide +kernel
theorem dX3_readNumbers_54 : decode cX3_readNumbers 54 = .ok (.bipush 48, 2) := by decide +kernel
theorem dX3_readNumbers_56 : decode cX3_readNumbers 56 = .ok (.isub, 1) := by decide +kernel
theorem dX3_readNumbers_57 : decode cX3_readNumbers 57 = .ok (.istore 5, 2) := by decide +kernel
theorem dX3_readNumbers_59 : decode cX3_readNumbers 59 = .ok (.iinc 4 1, 3) := by decide +kernel
theorem dX3_readNumbers_62 : decode cX3_readNumbers 62 = .ok (.goto 71, 3) := by decide +kernel
theorem dX3_readNumbers_65 : decode cX3_readNumbers 65 = .ok (.iload 7, 2) := by decide +kernel
theorem dX3_readNumbers_67 : decode cX3_readNumbers 67 = .ok (.bipush 44, 2) := by decide +kernel
theorem dX3_readNumbers_69 : decode cX3_readNumbers 69 = .ok (.if_icmp .eq 10, 3) := by decide +kernel
theorem dX3_readNumbers_72 : decode cX3_readNumbers 72 = .ok (.iload 7, 2) := by decide +kernel
theorem dX3_readNumbers_74 : decode cX3_readNumbers 74 = .ok (.bipush 59, 2) := by decide +kernel
theorem dX3_readNumbers_76 : decode cX3_readNumbers 76 = .ok (.if_icmp .ne 55, 3) := by decide +kernel
theorem dX3_readNumbers_79 : decode cX3_readNumbers 79 = .ok (.iload 4, 2) := by decide +kernel
theorem dX3_readNumbers_81 : decode cX3_readNumbers 81 = .ok (.ifCond .le 50, 3) := by decide +kernel
theorem dX3_readNumbers_84 : decode cX3_readNumbers 84 = .ok (.aload_n 0, 1) := by decide +kernel
theorem dX3_readNumbers_85 : decode cX3_readNumbers 85 = .ok (.getfield 63, 3) := by decide +kernel
theorem dX3_readNumbers_88 : decode cX3_readNumbers 88 = .ok (.iconst 4, 1) := by decide +kernel
theorem dX3_readNumbers_89 : decode cX3_readNumbers 89 = .ok (.if_icmp .ge 42, 3) := by decide +kernel
theorem dX3_readNumbers_92 : decode cX3_readNumbers 92 = .ok (.aload_n 0, 1) := by decide +kernel
theorem dX3_readNumbers_93 : decode cX3_readNumbers 93 = .ok (.getfield 27, 3) := by decide +kernel
theorem dX3_readNumbers_96 : decode cX3_readNumbers 96 = .ok (.aload_n 0, 1) := by decide +kernel
theorem dX3_readNumbers_97 : decode cX3_readNumbers 97 = .ok (.getfield 63, 3) := by decide +kernel
theorem dX3_readNumbers_100 : decode cX3_readNumbers 100 = .ok (.iload 5, 2) := by decide +kernel
theorem dX3_readNumbers_102 : decode cX3_readNumbers 102 = .ok (.iastore, 1) := by decide +kernel
theorem dX3_readNumbers_103 : decode cX3_readNumbers 103 = .ok (.aload_n 0, 1) := by decide +kernel
theorem dX3_readNumbers_104 : decode cX3_readNumbers 104 = .ok (.dup, 1) := by decide +kernel
theorem dX3_readNumbers_105 : decode cX3_readNumbers 105 = .ok (.getfield 63, 3) := by decide +kernel
theorem dX3_readNumbers_108 : decode cX3_readNumbers 108 = .ok (.iconst 1, 1) := by decide +kernel
theorem dX3_readNumbers_109 : decode cX3_readNumbers 109 = .ok (.iadd, 1) := by decide +kernel
theorem dX3_readNumbers_110 : decode cX3_readNumbers 110 = .ok (.putfield 63, 3) := by decide +kernel
theorem dX3_readNumbers_113 : decode cX3_readNumbers 113 = .ok (.iconst 0, 1) := by decide +kernel
theorem dX3_readNumbers_114 : decode cX3_readNumbers 114 = .ok (.istore 5, 2) := by decide +kernel
theorem dX3_readNumbers_116 : decode cX3_readNumbers 116 = .ok (.iconst 0, 1) := by decide +kernel
theorem dX3_readNumbers_117 : decode cX3_readNumbers 117 = .ok (.istore 4, 2) := by decide +kernel
theorem dX3_readNumbers_119 : decode cX3_readNumbers 119 = .ok (.iload 7, 2) := by decide +kernel
theorem dX3_readNumbers_121 : decode cX3_readNumbers 121 = .ok (.bipush 59, 2) := by decide +kernel
theorem dX3_readNumbers_123 : decode cX3_readNumbers 123 = .ok (.if_icmp .ne 10, 3) := by decide +kernel
theorem dX3_readNumbers_126 : decode cX3_readNumbers 126 = .ok (.iload 6, 2) := by decide +kernel
theorem dX3_readNumbers_128 : decode cX3_readNumbers 128 = .ok (.iconst 1, 1) := by decide +kernel
theorem dX3_readNumbers_129 : decode cX3_readNumbers 129 = .ok (.iadd, 1) := by decide +kernel
theorem dX3_readNumbers_130 : decode cX3_readNumbers 130 = .ok (.ireturn, 1) := by decide +kernel
theorem dX3_readNumbers_131 : decode cX3_readNumbers 131 = .ok (.iconst (-1), 1) := by decide +kernel
theorem dX3_readNumbers_132 : decode cX3_readNumbers 132 = .ok (.ireturn, 1) := by decide +kernel
theorem dX3_readNumbers_133 : decode cX3_readNumbers 133 = .ok (.iinc 6 1, 3) := by decide +kernel
theorem dX3_readNumbers_136 : decode cX3_readNumbers 136 = .ok (.goto (-122), 3) := by decide +kernel
theorem dX3_readNumbers_139 : decode cX3_readNumbers 139 = .ok (.iconst (-1), 1) := by decide +kernel
theorem dX3_readNumbers_140 : decode cX3_readNumbers 140 = .ok (.ireturn, 1) := by decide +kernel
theorem dX3_take_0 : decode cX3_take 0 = .ok (.iload_n 1, 1) := by decide +kernel
theorem dX3_take_1 : decode cX3_take 1 = .ok (.bipush 110, 2) := by decide +kernel
theorem dX3_take_3 : decode cX3_take 3 = .ok (.if_icmp .ne 36, 3) := by decide +kernel
theorem dX3_take_6 : decode cX3_take 6 = .ok (.aload_n 0, 1) := by decide +kernel
theorem dX3_take_7 : decode cX3_take 7 = .ok (.getfield 63, 3) := by decide +kernel
theorem dX3_take_10 : decode cX3_take 10 = .ok (.iconst 2, 1) := by decide +kernel
theorem dX3_take_11 : decode cX3_take 11 = .ok (.if_icmp .ne 26, 3) := by decide +kernel
theorem dX3_take_14 : decode cX3_take 14 = .ok (.aload_n 0, 1) := by decide +kernel
theorem dX3_take_15 : decode cX3_take 15 = .ok (.aload_n 0, 1) := by decide +kernel
theorem dX3_take_16 : decode cX3_take 16 = .ok (.getfield 27, 3) := by decide +kernel
theorem dX3_take_19 : decode cX3_take 19 = .ok (.iconst 0, 1) := by decide +kernel
theorem dX3_take_20 : decode cX3_take 20 = .ok (.iaload, 1) := by decide +kernel
theorem dX3_take_21 : decode cX3_take 21 = .ok (.aload_n 0, 1) := by decide +kernel
theorem dX3_take_22 : decode cX3_take 22 = .ok (.getfield 27, 3) := by decide +kernel
theorem dX3_take_25 : decode cX3_take 25 = .ok (.iconst 1, 1) := by decide +kernel
theorem dX3_take_26 : decode cX3_take 26 = .ok (.iaload, 1) := by decide +kernel
theorem dX3_take_27 : decode cX3_take 27 = .ok (.invokevirtual 66, 3) := by decide +kernel
theorem dX3_take_30 : decode cX3_take 30 = .ok (.ifCond .eq 7, 3) := by decide +kernel
theorem dX3_take_33 : decode cX3_take 33 = .ok (.iconst 1, 1) := by decide +kernel
theorem dX3_take_34 : decode cX3_take 34 = .ok (.goto 4, 3) := by decide +kernel
theorem dX3_take_37 : decode cX3_take 37 = .ok (.iconst 0, 1) := by decide +kernel
theorem dX3_take_38 : decode cX3_take 38 = .ok (.ireturn, 1) := by decide +kernel
theorem dX3_take_39 : decode cX3_take 39 = .ok (.aload_n 0, 1) := by decide +kernel
theorem dX3_take_40 : decode cX3_take 40 = .ok (.iconst 0, 1) := by decide +kernel
theorem dX3_take_41 : decode cX3_take 41 = .ok (.putfield 59, 3) := by decide +kernel
theorem dX3_take_44 : decode cX3_take 44 = .ok (.iload_n 1, 1) := by decide +kernel
theorem dX3_take_45 : decode cX3_take 45 = .ok (.lookupswitch 198 #[(97, 111), (99, 165), (112, 72), (116, 51), (119, 138)], 51) := by decide +kernel
theorem dX3_take_96 : decode cX3_take 96 = .ok (.aload_n 0, 1) := by decide +kernel
theorem dX3_take_97 : decode cX3_take 97 = .ok (.getfield 63, 3) := by decide +kernel
theorem dX3_take_100 : decode cX3_take 100 = .ok (.iconst 4, 1) := by decide +kernel
theorem dX3_take_101 : decode cX3_take 101 = .ok (.if_icmp .ne 14, 3) := by decide +kernel
theorem dX3_take_104 : decode cX3_take 104 = .ok (.aload_n 0, 1) := by decide +kernel
theorem dX3_take_105 : decode cX3_take 105 = .ok (.invokevirtual 70, 3) := by decide +kernel
theorem dX3_take_108 : decode cX3_take 108 = .ok (.ifCond .eq 7, 3) := by decide +kernel
theorem dX3_take_111 : decode cX3_take 111 = .ok (.iconst 1, 1) := by decide +kernel
theorem dX3_take_112 : decode cX3_take 112 = .ok (.goto 4, 3) := by decide +kernel
theorem dX3_take_115 : decode cX3_take 115 = .ok (.iconst 0, 1) := by decide +kernel
theorem dX3_take_116 : decode cX3_take 116 = .ok (.ireturn, 1) := by decide +kernel
theorem dX3_take_117 : decode cX3_take 117 = .ok (.aload_n 0, 1) := by decide +kernel
theorem dX3_take_118 : decode cX3_take 118 = .ok (.getfield 63, 3) := by decide +kernel
theorem dX3_take_121 : decode cX3_take 121 = .ok (.iconst 3, 1) := by decide +kernel
theorem dX3_take_122 : decode cX3_take 122 = .ok (.if_icmp .ne 32, 3) := by decide +kernel
theorem dX3_take_125 : decode cX3_take 125 = .ok (.aload_n 0, 1) := by decide +kernel
theorem dX3_take_126 : decode cX3_take 126 = .ok (.aload_n 0, 1) := by decide +kernel
theorem dX3_take_127 : decode cX3_take 127 = .ok (.getfield 27, 3) := by decide +kernel
theorem dX3_take_130 : decode cX3_take 130 = .ok (.iconst 0, 1) := by decide +kernel
theorem dX3_take_131 : decode cX3_take 131 = .ok (.iaload, 1) := by decide +kernel
theorem dX3_take_132 : decode cX3_take 132 = .ok (.aload_n 0, 1) := by decide +kernel
theorem dX3_take_133 : decode cX3_take 133 = .ok (.getfield 27, 3) := by decide +kernel
theorem dX3_take_136 : decode cX3_take 136 = .ok (.iconst 1, 1) := by decide +kernel
theorem dX3_take_137 : decode cX3_take 137 = .ok (.iaload, 1) := by decide +kernel
theorem dX3_take_138 : decode cX3_take 138 = .ok (.aload_n 0, 1) := by decide +kernel
theorem dX3_take_139 : decode cX3_take 139 = .ok (.getfield 27, 3) := by decide +kernel
theorem dX3_take_142 : decode cX3_take 142 = .ok (.iconst 2, 1) := by decide +kernel
theorem dX3_take_143 : decode cX3_take 143 = .ok (.iaload, 1) := by decide +kernel
theorem dX3_take_144 : decode cX3_take 144 = .ok (.invokevirtual 74, 3) := by decide +kernel
theorem dX3_take_147 : decode cX3_take 147 = .ok (.ifCond .eq 7, 3) := by decide +kernel
theorem dX3_take_150 : decode cX3_take 150 = .ok (.iconst 1, 1) := by decide +kernel
theorem dX3_take_151 : decode cX3_take 151 = .ok (.goto 4, 3) := by decide +kernel
theorem dX3_take_154 : decode cX3_take 154 = .ok (.iconst 0, 1) := by decide +kernel
theorem dX3_take_155 : decode cX3_take 155 = .ok (.ireturn, 1) := by decide +kernel
theorem dX3_take_156 : decode cX3_take 156 = .ok (.aload_n 0, 1) := by decide +kernel
theorem dX3_take_157 : decode cX3_take 157 = .ok (.getfield 63, 3) := by decide +kernel
theorem dX3_take_160 : decode cX3_take 160 = .ok (.iconst 1, 1) := by decide +kernel
theorem dX3_take_161 : decode cX3_take 161 = .ok (.if_icmp .ne 20, 3) := by decide +kernel
theorem dX3_take_164 : decode cX3_take 164 = .ok (.aload_n 0, 1) := by decide +kernel
theorem dX3_take_165 : decode cX3_take 165 = .ok (.aload_n 0, 1) := by decide +kernel
theorem dX3_take_166 : decode cX3_take 166 = .ok (.getfield 27, 3) := by decide +kernel
theorem dX3_take_169 : decode cX3_take 169 = .ok (.iconst 0, 1) := by decide +kernel
theorem dX3_take_170 : decode cX3_take 170 = .ok (.iaload, 1) := by decide +kernel
theorem dX3_take_171 : decode cX3_take 171 = .ok (.invokevirtual 78, 3) := by decide +kernel
theorem dX3_take_174 : decode cX3_take 174 = .ok (.ifCond .eq 7, 3) := by decide +kernel
theorem dX3_take_177 : decode cX3_take 177 = .ok (.iconst 1, 1) := by decide +kernel
theorem dX3_take_178 : decode cX3_take 178 = .ok (.goto 4, 3) := by decide +kernel
theorem dX3_take_181 : decode cX3_take 181 = .ok (.iconst 0, 1) := by decide +kernel
theorem dX3_take_182 : decode cX3_take 182 = .ok (.ireturn, 1) := by decide +kernel
theorem dX3_take_183 : decode cX3_take 183 = .ok (.aload_n 0, 1) := by decide +kernel
theorem dX3_take_184 : decode cX3_take 184 = .ok (.getfield 63, 3) := by decide +kernel
theorem dX3_take_187 : decode cX3_take 187 = .ok (.iconst 1, 1) := by decide +kernel
theorem dX3_take_188 : decode cX3_take 188 = .ok (.if_icmp .ne 20, 3) := by decide +kernel
theorem dX3_take_191 : decode cX3_take 191 = .ok (.aload_n 0, 1) := by decide +kernel
theorem dX3_take_192 : decode cX3_take 192 = .ok (.aload_n 0, 1) := by decide +kernel
theorem dX3_take_193 : decode cX3_take 193 = .ok (.getfield 27, 3) := by decide +kernel
theorem dX3_take_196 : decode cX3_take 196 = .ok (.iconst 0, 1) := by decide +kernel
theorem dX3_take_197 : decode cX3_take 197 = .ok (.iaload, 1) := by decide +kernel
theorem dX3_take_198 : decode cX3_take 198 = .ok (.invokevirtual 81, 3) := by decide +kernel
theorem dX3_take_201 : decode cX3_take 201 = .ok (.ifCond .eq 7, 3) := by decide +kernel
theorem dX3_take_204 : decode cX3_take 204 = .ok (.iconst 1, 1) := by decide +kernel
theorem dX3_take_205 : decode cX3_take 205 = .ok (.goto 4, 3) := by decide +kernel
theorem dX3_take_208 : decode cX3_take 208 = .ok (.iconst 0, 1) := by decide +kernel
theorem dX3_take_209 : decode cX3_take 209 = .ok (.ireturn, 1) := by decide +kernel
theorem dX3_take_210 : decode cX3_take 210 = .ok (.aload_n 0, 1) := by decide +kernel
theorem dX3_take_211 : decode cX3_take 211 = .ok (.getfield 63, 3) := by decide +kernel
theorem dX3_take_214 : decode cX3_take 214 = .ok (.iconst 2, 1) := by decide +kernel
theorem dX3_take_215 : decode cX3_take 215 = .ok (.if_icmp .ne 26, 3) := by decide +kernel
theorem dX3_take_218 : decode cX3_take 218 = .ok (.aload_n 0, 1) := by decide +kernel
theorem dX3_take_219 : decode cX3_take 219 = .ok (.aload_n 0, 1) := by decide +kernel
theorem dX3_take_220 : decode cX3_take 220 = .ok (.getfield 27, 3) := by decide +kernel
theorem dX3_take_223 : decode cX3_take 223 = .ok (.iconst 0, 1) := by decide +kernel
theorem dX3_take_224 : decode cX3_take 224 = .ok (.iaload, 1) := by decide +kernel
theorem dX3_take_225 : decode cX3_take 225 = .ok (.aload_n 0, 1) := by decide +kernel
theorem dX3_take_226 : decode cX3_take 226 = .ok (.getfield 27, 3) := by decide +kernel
theorem dX3_take_229 : decode cX3_take 229 = .ok (.iconst 1, 1) := by decide +kernel
theorem dX3_take_230 : decode cX3_take 230 = .ok (.iaload, 1) := by decide +kernel
theorem dX3_take_231 : decode cX3_take 231 = .ok (.invokevirtual 84, 3) := by decide +kernel
theorem dX3_take_234 : decode cX3_take 234 = .ok (.ifCond .eq 7, 3) := by decide +kernel
theorem dX3_take_237 : decode cX3_take 237 = .ok (.iconst 1, 1) := by decide +kernel
theorem dX3_take_238 : decode cX3_take 238 = .ok (.goto 4, 3) := by decide +kernel
theorem dX3_take_241 : decode cX3_take 241 = .ok (.iconst 0, 1) := by decide +kernel
theorem dX3_take_242 : decode cX3_take 242 = .ok (.ireturn, 1) := by decide +kernel
theorem dX3_take_243 : decode cX3_take 243 = .ok (.iconst 0, 1) := by decide +kernel
theorem dX3_take_244 : decode cX3_take 244 = .ok (.ireturn, 1) := by decide +kernel
theorem dX3_takeSlots_0 : decode cX3_takeSlots 0 = .ok (.aload_n 0, 1) := by decide +kernel
theorem dX3_takeSlots_1 : decode cX3_takeSlots 1 = .ok (.getfield 59, 3) := by decide +kernel
theorem dX3_takeSlots_4 : decode cX3_takeSlots 4 = .ok (.ifCond .eq 19, 3) := by decide +kernel
theorem dX3_takeSlots_7 : decode cX3_takeSlots 7 = .ok (.iload_n 1, 1) := by decide +kernel
theorem dX3_takeSlots_8 : decode cX3_takeSlots 8 = .ok (.iconst 3, 1) := by decide +kernel
theorem dX3_takeSlots_9 : decode cX3_takeSlots 9 = .ok (.if_icmp .lt 14, 3) := by decide +kernel
theorem dX3_takeSlots_12 : decode cX3_takeSlots 12 = .ok (.iload_n 1, 1) := by decide +kernel
theorem dX3_takeSlots_13 : decode cX3_takeSlots 13 = .ok (.bipush 14, 2) := by decide +kernel
theorem dX3_takeSlots_15 : decode cX3_takeSlots 15 = .ok (.if_icmp .gt 8, 3) := by decide +kernel
theorem dX3_takeSlots_18 : decode cX3_takeSlots 18 = .ok (.iload_n 2, 1) := by decide +kernel
theorem dX3_takeSlots_19 : decode cX3_takeSlots 19 = .ok (.iload_n 1, 1) := by decide +kernel
theorem dX3_takeSlots_20 : decode cX3_takeSlots 20 = .ok (.if_icmp .lt 5, 3) := by decide +kernel
theorem dX3_takeSlots_23 : decode cX3_takeSlots 23 = .ok (.iconst 0, 1) := by decide +kernel
theorem dX3_takeSlots_24 : decode cX3_takeSlots 24 = .ok (.ireturn, 1) := by decide +kernel
theorem dX3_takeSlots_25 : decode cX3_takeSlots 25 = .ok (.aload_n 0, 1) := by decide +kernel
theorem dX3_takeSlots_26 : decode cX3_takeSlots 26 = .ok (.getfield 12, 3) := by decide +kernel
theorem dX3_takeSlots_29 : decode cX3_takeSlots 29 = .ok (.iload_n 1, 1) := by decide +kernel
theorem dX3_takeSlots_30 : decode cX3_takeSlots 30 = .ok (.putfield 87, 3) := by decide +kernel
theorem dX3_takeSlots_33 : decode cX3_takeSlots 33 = .ok (.aload_n 0, 1) := by decide +kernel
theorem dX3_takeSlots_34 : decode cX3_takeSlots 34 = .ok (.getfield 12, 3) := by decide +kernel
theorem dX3_takeSlots_37 : decode cX3_takeSlots 37 = .ok (.iload_n 2, 1) := by decide +kernel
theorem dX3_takeSlots_38 : decode cX3_takeSlots 38 = .ok (.putfield 90, 3) := by decide +kernel
theorem dX3_takeSlots_41 : decode cX3_takeSlots 41 = .ok (.iconst 1, 1) := by decide +kernel
theorem dX3_takeSlots_42 : decode cX3_takeSlots 42 = .ok (.ireturn, 1) := by decide +kernel
theorem dX3_takeThing_0 : decode cX3_takeThing 0 = .ok (.aload_n 0, 1) := by decide +kernel
theorem dX3_takeThing_1 : decode cX3_takeThing 1 = .ok (.getfield 12, 3) := by decide +kernel
theorem dX3_takeThing_4 : decode cX3_takeThing 4 = .ok (.getfield 93, 3) := by decide +kernel
theorem dX3_takeThing_7 : decode cX3_takeThing 7 = .ok (.istore_n 1, 1) := by decide +kernel
theorem dX3_takeThing_8 : decode cX3_takeThing 8 = .ok (.iload_n 1, 1) := by decide +kernel
theorem dX3_takeThing_9 : decode cX3_takeThing 9 = .ok (.bipush 7, 2) := by decide +kernel
theorem dX3_takeThing_11 : decode cX3_takeThing 11 = .ok (.if_icmp .ge 54, 3) := by decide +kernel
theorem dX3_takeThing_14 : decode cX3_takeThing 14 = .ok (.aload_n 0, 1) := by decide +kernel
theorem dX3_takeThing_15 : decode cX3_takeThing 15 = .ok (.getfield 27, 3) := by decide +kernel
theorem dX3_takeThing_18 : decode cX3_takeThing 18 = .ok (.iconst 0, 1) := by decide +kernel
theorem dX3_takeThing_19 : decode cX3_takeThing 19 = .ok (.iaload, 1) := by decide +kernel
theorem dX3_takeThing_20 : decode cX3_takeThing 20 = .ok (.iconst 3, 1) := by decide +kernel
theorem dX3_takeThing_21 : decode cX3_takeThing 21 = .ok (.if_icmp .gt 44, 3) := by decide +kernel
theorem dX3_takeThing_24 : decode cX3_takeThing 24 = .ok (.aload_n 0, 1) := by decide +kernel
theorem dX3_takeThing_25 : decode cX3_takeThing 25 = .ok (.getfield 27, 3) := by decide +kernel
theorem dX3_takeThing_28 : decode cX3_takeThing 28 = .ok (.iconst 1, 1) := by decide +kernel
theorem dX3_takeThing_29 : decode cX3_takeThing 29 = .ok (.iaload, 1) := by decide +kernel
theorem dX3_takeThing_30 : decode cX3_takeThing 30 = .ok (.iconst 4, 1) := by decide +kernel
theorem dX3_takeThing_31 : decode cX3_takeThing 31 = .ok (.invokestatic 96, 3) := by decide +kernel
theorem dX3_takeThing_34 : decode cX3_takeThing 34 = .ok (.ifCond .eq 31, 3) := by decide +kernel
theorem dX3_takeThing_37 : decode cX3_takeThing 37 = .ok (.aload_n 0, 1) := by decide +kernel
theorem dX3_takeThing_38 : decode cX3_takeThing 38 = .ok (.getfield 27, 3) := by decide +kernel
theorem dX3_takeThing_41 : decode cX3_takeThing 41 = .ok (.iconst 2, 1) := by decide +kernel
theorem dX3_takeThing_42 : decode cX3_takeThing 42 = .ok (.iaload, 1) := by decide +kernel
theorem dX3_takeThing_43 : decode cX3_takeThing 43 = .ok (.bipush 9, 2) := by decide +kernel
theorem dX3_takeThing_45 : decode cX3_takeThing 45 = .ok (.invokestatic 96, 3) := by decide +kernel
theorem dX3_takeThing_48 : decode cX3_takeThing 48 = .ok (.ifCond .eq 17, 3) := by decide +kernel
theorem dX3_takeThing_51 : decode cX3_takeThing 51 = .ok (.aload_n 0, 1) := by decide +kernel
theorem dX3_takeThing_52 : decode cX3_takeThing 52 = .ok (.getfield 27, 3) := by decide +kernel
theorem dX3_takeThing_55 : decode cX3_takeThing 55 = .ok (.iconst 3, 1) := by decide +kernel
theorem dX3_takeThing_56 : decode cX3_takeThing 56 = .ok (.iaload, 1) := by decide +kernel
theorem dX3_takeThing_57 : decode cX3_takeThing 57 = .ok (.bipush 9, 2) := by decide +kernel
theorem dX3_takeThing_59 : decode cX3_takeThing 59 = .ok (.invokestatic 96, 3) := by decide +kernel
theorem dX3_takeThing_62 : decode cX3_takeThing 62 = .ok (.ifCond .ne 5, 3) := by decide +kernel
theorem dX3_takeThing_65 : decode cX3_takeThing 65 = .ok (.iconst 0, 1) := by decide +kernel
theorem dX3_takeThing_66 : decode cX3_takeThing 66 = .ok (.ireturn, 1) := by decide +kernel
theorem dX3_takeThing_67 : decode cX3_takeThing 67 = .ok (.aload_n 0, 1) := by decide +kernel
theorem dX3_takeThing_68 : decode cX3_takeThing 68 = .ok (.getfield 12, 3) := by decide +kernel
theorem dX3_takeThing_71 : decode cX3_takeThing 71 = .ok (.getfield 99, 3) := by decide +kernel
theorem dX3_takeThing_74 : decode cX3_takeThing 74 = .ok (.iload_n 1, 1) := by decide +kernel
theorem dX3_takeThing_75 : decode cX3_takeThing 75 = .ok (.aload_n 0, 1) := by decide +kernel
theorem dX3_takeThing_76 : decode cX3_takeThing 76 = .ok (.getfield 27, 3) := by decide +kernel
theorem dX3_takeThing_79 : decode cX3_takeThing 79 = .ok (.iconst 0, 1) := by decide +kernel
theorem dX3_takeThing_80 : decode cX3_takeThing 80 = .ok (.iaload, 1) := by decide +kernel
theorem dX3_takeThing_81 : decode cX3_takeThing 81 = .ok (.iastore, 1) := by decide +kernel
theorem dX3_takeThing_82 : decode cX3_takeThing 82 = .ok (.aload_n 0, 1) := by decide +kernel
theorem dX3_takeThing_83 : decode cX3_takeThing 83 = .ok (.getfield 12, 3) := by decide +kernel
theorem dX3_takeThing_86 : decode cX3_takeThing 86 = .ok (.getfield 102, 3) := by decide +kernel
theorem dX3_takeThing_89 : decode cX3_takeThing 89 = .ok (.iload_n 1, 1) := by decide +kernel
theorem dX3_takeThing_90 : decode cX3_takeThing 90 = .ok (.aload_n 0, 1) := by decide +kernel
theorem dX3_takeThing_91 : decode cX3_takeThing 91 = .ok (.getfield 27, 3) := by decide +kernel
theorem dX3_takeThing_94 : decode cX3_takeThing 94 = .ok (.iconst 1, 1) := by decide +kernel
theorem dX3_takeThing_95 : decode cX3_takeThing 95 = .ok (.iaload, 1) := by decide +kernel
theorem dX3_takeThing_96 : decode cX3_takeThing 96 = .ok (.iastore, 1) := by decide +kernel
theorem dX3_takeThing_97 : decode cX3_takeThing 97 = .ok (.aload_n 0, 1) := by decide +kernel
theorem dX3_takeThing_98 : decode cX3_takeThing 98 = .ok (.getfield 12, 3) := by decide +kernel
theorem dX3_takeThing_101 : decode cX3_takeThing 101 = .ok (.getfield 105, 3) := by decide +kernel
theorem dX3_takeThing_104 : decode cX3_takeThing 104 = .ok (.iload_n 1, 1) := by decide +kernel
theorem dX3_takeThing_105 : decode cX3_takeThing 105 = .ok (.aload_n 0, 1) := by decide +kernel
theorem dX3_takeThing_106 : decode cX3_takeThing 106 = .ok (.getfield 27, 3) := by decide +kernel
theorem dX3_takeThing_109 : decode cX3_takeThing 109 = .ok (.iconst 2, 1) := by decide +kernel
theorem dX3_takeThing_110 : decode cX3_takeThing 110 = .ok (.iaload, 1) := by decide +kernel
theorem dX3_takeThing_111 : decode cX3_takeThing 111 = .ok (.iastore, 1) := by decide +kernel
theorem dX3_takeThing_112 : decode cX3_takeThing 112 = .ok (.aload_n 0, 1) := by decide +kernel
theorem dX3_takeThing_113 : decode cX3_takeThing 113 = .ok (.getfield 12, 3) := by decide +kernel
theorem dX3_takeThing_116 : decode cX3_takeThing 116 = .ok (.getfield 108, 3) := by decide +kernel
theorem dX3_takeThing_119 : decode cX3_takeThing 119 = .ok (.iload_n 1, 1) := by decide +kernel
theorem dX3_takeThing_120 : decode cX3_takeThing 120 = .ok (.aload_n 0, 1) := by decide +kernel
theorem dX3_takeThing_121 : decode cX3_takeThing 121 = .ok (.getfield 27, 3) := by decide +kernel
theorem dX3_takeThing_124 : decode cX3_takeThing 124 = .ok (.iconst 3, 1) := by decide +kernel
theorem dX3_takeThing_125 : decode cX3_takeThing 125 = .ok (.iaload, 1) := by decide +kernel
theorem dX3_takeThing_126 : decode cX3_takeThing 126 = .ok (.iastore, 1) := by decide +kernel
theorem dX3_takeThing_127 : decode cX3_takeThing 127 = .ok (.aload_n 0, 1) := by decide +kernel
theorem dX3_takeThing_128 : decode cX3_takeThing 128 = .ok (.getfield 12, 3) := by decide +kernel
theorem dX3_takeThing_131 : decode cX3_takeThing 131 = .ok (.iload_n 1, 1) := by decide +kernel
theorem dX3_takeThing_132 : decode cX3_takeThing 132 = .ok (.iconst 1, 1) := by decide +kernel
theorem dX3_takeThing_133 : decode cX3_takeThing 133 = .ok (.iadd, 1) := by decide +kernel
theorem dX3_takeThing_134 : decode cX3_takeThing 134 = .ok (.putfield 93, 3) := by decide +kernel
theorem dX3_takeThing_137 : decode cX3_takeThing 137 = .ok (.iconst 1, 1) := by decide +kernel
theorem dX3_takeThing_138 : decode cX3_takeThing 138 = .ok (.ireturn, 1) := by decide +kernel
theorem dX3_takePlace_0 : decode cX3_takePlace 0 = .ok (.aload_n 0, 1) := by decide +kernel
theorem dX3_takePlace_1 : decode cX3_takePlace 1 = .ok (.getfield 12, 3) := by decide +kernel
theorem dX3_takePlace_4 : decode cX3_takePlace 4 = .ok (.iload_n 1, 1) := by decide +kernel
theorem dX3_takePlace_5 : decode cX3_takePlace 5 = .ok (.invokevirtual 111, 3) := by decide +kernel
theorem dX3_takePlace_8 : decode cX3_takePlace 8 = .ok (.ifCond .eq 44, 3) := by decide +kernel
theorem dX3_takePlace_11 : decode cX3_takePlace 11 = .ok (.aload_n 0, 1) := by decide +kernel
theorem dX3_takePlace_12 : decode cX3_takePlace 12 = .ok (.getfield 12, 3) := by decide +kernel
theorem dX3_takePlace_15 : decode cX3_takePlace 15 = .ok (.iload_n 2, 1) := by decide +kernel
theorem dX3_takePlace_16 : decode cX3_takePlace 16 = .ok (.invokevirtual 114, 3) := by decide +kernel
theorem dX3_takePlace_19 : decode cX3_takePlace 19 = .ok (.ifCond .eq 33, 3) := by decide +kernel
theorem dX3_takePlace_22 : decode cX3_takePlace 22 = .ok (.iload_n 3, 1) := by decide +kernel
theorem dX3_takePlace_23 : decode cX3_takePlace 23 = .ok (.invokestatic 117, 3) := by decide +kernel
theorem dX3_takePlace_26 : decode cX3_takePlace 26 = .ok (.ifCond .eq 26, 3) := by decide +kernel
theorem dX3_takePlace_29 : decode cX3_takePlace 29 = .ok (.aload_n 0, 1) := by decide +kernel
theorem dX3_takePlace_30 : decode cX3_takePlace 30 = .ok (.getfield 23, 3) := by decide +kernel
theorem dX3_takePlace_33 : decode cX3_takePlace 33 = .ok (.iload_n 1, 1) := by decide +kernel
theorem dX3_takePlace_34 : decode cX3_takePlace 34 = .ok (.invokevirtual 120, 3) := by decide +kernel
theorem dX3_takePlace_37 : decode cX3_takePlace 37 = .ok (.ifCond .ne 15, 3) := by decide +kernel
theorem dX3_takePlace_40 : decode cX3_takePlace 40 = .ok (.aload_n 0, 1) := by decide +kernel
theorem dX3_takePlace_41 : decode cX3_takePlace 41 = .ok (.getfield 23, 3) := by decide +kernel
theorem dX3_takePlace_44 : decode cX3_takePlace 44 = .ok (.iload_n 1, 1) := by decide +kernel
theorem dX3_takePlace_45 : decode cX3_takePlace 45 = .ok (.iload_n 2, 1) := by decide +kernel
theorem dX3_takePlace_46 : decode cX3_takePlace 46 = .ok (.invokevirtual 123, 3) := by decide +kernel
theorem dX3_takePlace_49 : decode cX3_takePlace 49 = .ok (.ifCond .ne 5, 3) := by decide +kernel
theorem dX3_takePlace_52 : decode cX3_takePlace 52 = .ok (.iconst 0, 1) := by decide +kernel
theorem dX3_takePlace_53 : decode cX3_takePlace 53 = .ok (.ireturn, 1) := by decide +kernel
theorem dX3_takePlace_54 : decode cX3_takePlace 54 = .ok (.aload_n 0, 1) := by decide +kernel
theorem dX3_takePlace_55 : decode cX3_takePlace 55 = .ok (.getfield 23, 3) := by decide +kernel
theorem dX3_takePlace_58 : decode cX3_takePlace 58 = .ok (.iload_n 1, 1) := by decide +kernel
theorem dX3_takePlace_59 : decode cX3_takePlace 59 = .ok (.iload_n 2, 1) := by decide +kernel
theorem dX3_takePlace_60 : decode cX3_takePlace 60 = .ok (.iload_n 3, 1) := by decide +kernel
theorem dX3_takePlace_61 : decode cX3_takePlace 61 = .ok (.invokevirtual 126, 3) := by decide +kernel
theorem dX3_takePlace_64 : decode cX3_takePlace 64 = .ok (.iconst 1, 1) := by decide +kernel
theorem dX3_takePlace_65 : decode cX3_takePlace 65 = .ok (.ireturn, 1) := by decide +kernel
theorem dX3_takeArm_0 : decode cX3_takeArm 0 = .ok (.iload_n 1, 1) := by decide +kernel
theorem dX3_takeArm_1 : decode cX3_takeArm 1 = .ok (.bipush 9, 2) := by decide +kernel
theorem dX3_takeArm_3 : decode cX3_takeArm 3 = .ok (.invokestatic 96, 3) := by decide +kernel
theorem dX3_takeArm_6 : decode cX3_takeArm 6 = .ok (.ifCond .ne 5, 3) := by decide +kernel
theorem dX3_takeArm_9 : decode cX3_takeArm 9 = .ok (.iconst 0, 1) := by decide +kernel
theorem dX3_takeArm_10 : decode cX3_takeArm 10 = .ok (.ireturn, 1) := by decide +kernel
theorem dX3_takeArm_11 : decode cX3_takeArm 11 = .ok (.aload_n 0, 1) := by decide +kernel
theorem dX3_takeArm_12 : decode cX3_takeArm 12 = .ok (.getfield 12, 3) := by decide +kernel
theorem dX3_takeArm_15 : decode cX3_takeArm 15 = .ok (.iload_n 1, 1) := by decide +kernel
theorem dX3_takeArm_16 : decode cX3_takeArm 16 = .ok (.putfield 130, 3) := by decide +kernel
theorem dX3_takeArm_19 : decode cX3_takeArm 19 = .ok (.iconst 1, 1) := by decide +kernel
theorem dX3_takeArm_20 : decode cX3_takeArm 20 = .ok (.ireturn, 1) := by decide +kernel
theorem dX3_takeWater_0 : decode cX3_takeWater 0 = .ok (.iload_n 1, 1) := by decide +kernel
theorem dX3_takeWater_1 : decode cX3_takeWater 1 = .ok (.bipush 9, 2) := by decide +kernel
theorem dX3_takeWater_3 : decode cX3_takeWater 3 = .ok (.invokestatic 96, 3) := by decide +kernel
theorem dX3_takeWater_6 : decode cX3_takeWater 6 = .ok (.ifCond .ne 5, 3) := by decide +kernel
theorem dX3_takeWater_9 : decode cX3_takeWater 9 = .ok (.iconst 0, 1) := by decide +kernel
theorem dX3_takeWater_10 : decode cX3_takeWater 10 = .ok (.ireturn, 1) := by decide +kernel
theorem dX3_takeWater_11 : decode cX3_takeWater 11 = .ok (.aload_n 0, 1) := by decide +kernel
theorem dX3_takeWater_12 : decode cX3_takeWater 12 = .ok (.getfield 23, 3) := by decide +kernel
theorem dX3_takeWater_15 : decode cX3_takeWater 15 = .ok (.iload_n 1, 1) := by decide +kernel
theorem dX3_takeWater_16 : decode cX3_takeWater 16 = .ok (.putfield 56, 3) := by decide +kernel
theorem dX3_takeWater_19 : decode cX3_takeWater 19 = .ok (.iconst 1, 1) := by decide +kernel
theorem dX3_takeWater_20 : decode cX3_takeWater 20 = .ok (.ireturn, 1) := by decide +kernel
theorem dX3_takeCost_0 : decode cX3_takeCost 0 = .ok (.iload_n 1, 1) := by decide +kernel
theorem dX3_takeCost_1 : decode cX3_takeCost 1 = .ok (.invokestatic 133, 3) := by decide +kernel
theorem dX3_takeCost_4 : decode cX3_takeCost 4 = .ok (.ifCond .eq 12, 3) := by decide +kernel
theorem dX3_takeCost_7 : decode cX3_takeCost 7 = .ok (.iload_n 2, 1) := by decide +kernel
theorem dX3_takeCost_8 : decode cX3_takeCost 8 = .ok (.bipush 99, 2) := by decide +kernel
theorem dX3_takeCost_10 : decode cX3_takeCost 10 = .ok (.invokestatic 96, 3) := by decide +kernel
theorem dX3_takeCost_13 : decode cX3_takeCost 13 = .ok (.ifCond .ne 5, 3) := by decide +kernel
theorem dX3_takeCost_16 : decode cX3_takeCost 16 = .ok (.iconst 0, 1) := by decide +kernel
theorem dX3_takeCost_17 : decode cX3_takeCost 17 = .ok (.ireturn, 1) := by decide +kernel
theorem dX3_takeCost_18 : decode cX3_takeCost 18 = .ok (.aload_n 0, 1) := by decide +kernel
theorem dX3_takeCost_19 : decode cX3_takeCost 19 = .ok (.getfield 12, 3) := by decide +kernel
theorem dX3_takeCost_22 : decode cX3_takeCost 22 = .ok (.getfield 136, 3) := by decide +kernel
theorem dX3_takeCost_25 : decode cX3_takeCost 25 = .ok (.iload_n 1, 1) := by decide +kernel
theorem dX3_takeCost_26 : decode cX3_takeCost 26 = .ok (.iload_n 2, 1) := by decide +kernel
theorem dX3_takeCost_27 : decode cX3_takeCost 27 = .ok (.iastore, 1) := by decide +kernel
theorem dX3_takeCost_28 : decode cX3_takeCost 28 = .ok (.iconst 1, 1) := by decide +kernel
theorem dX3_takeCost_29 : decode cX3_takeCost 29 = .ok (.ireturn, 1) := by decide +kernel
theorem dX3_isWithin_0 : decode cX3_isWithin 0 = .ok (.iload_n 0, 1) := by decide +kernel
theorem dX3_isWithin_1 : decode cX3_isWithin 1 = .ok (.iconst 1, 1) := by decide +kernel
theorem dX3_isWithin_2 : decode cX3_isWithin 2 = .ok (.if_icmp .lt 12, 3) := by decide +kernel
theorem dX3_isWithin_5 : decode cX3_isWithin 5 = .ok (.iload_n 0, 1) := by decide +kernel
theorem dX3_isWithin_6 : decode cX3_isWithin 6 = .ok (.iload_n 1, 1) := by decide +kernel
theorem dX3_isWithin_7 : decode cX3_isWithin 7 = .ok (.if_icmp .gt 7, 3) := by decide +kernel
theorem dX3_isWithin_10 : decode cX3_isWithin 10 = .ok (.iconst 1, 1) := by decide +kernel
theorem dX3_isWithin_11 : decode cX3_isWithin 11 = .ok (.goto 4, 3) := by decide +kernel
theorem dX3_isWithin_14 : decode cX3_isWithin 14 = .ok (.iconst 0, 1) := by decide +kernel
theorem dX3_isWithin_15 : decode cX3_isWithin 15 = .ok (.ireturn, 1) := by decide +kernel
theorem dX4_init_0 : decode cX4_init 0 = .ok (.aload_n 0, 1) := by decide +kernel
theorem dX4_init_1 : decode cX4_init 1 = .ok (.invokespecial 3, 3) := by decide +kernel
theorem dX4_init_4 : decode cX4_init 4 = .ok (.aload_n 0, 1) := by decide +kernel
theorem dX4_init_5 : decode cX4_init 5 = .ok (.iconst 1, 1) := by decide +kernel
theorem dX4_init_6 : decode cX4_init 6 = .ok (.iload_n 1, 1) := by decide +kernel
theorem dX4_init_7 : decode cX4_init 7 = .ok (.invokestatic 9, 3) := by decide +kernel
theorem dX4_init_10 : decode cX4_init 10 = .ok (.putfield 15, 3) := by decide +kernel
theorem dX4_init_13 : decode cX4_init 13 = .ok (.aload_n 0, 1) := by decide +kernel
theorem dX4_init_14 : decode cX4_init 14 = .ok (.aload_n 0, 1) := by decide +kernel
theorem dX4_init_15 : decode cX4_init 15 = .ok (.getfield 15, 3) := by decide +kernel
theorem dX4_init_18 : decode cX4_init 18 = .ok (.bipush 16, 2) := by decide +kernel
theorem dX4_init_20 : decode cX4_init 20 = .ok (.imul, 1) := by decide +kernel
theorem dX4_init_21 : decode cX4_init 21 = .ok (.newarray .int, 2) := by decide +kernel
theorem dX4_init_23 : decode cX4_init 23 = .ok (.putfield 21, 3) := by decide +kernel
theorem dX4_init_26 : decode cX4_init 26 = .ok (.return_, 1) := by decide +kernel
theorem dX4_push_0 : decode cX4_push 0 = .ok (.aload_n 0, 1) := by decide +kernel
theorem dX4_push_1 : decode cX4_push 1 = .ok (.getfield 25, 3) := by decide +kernel
theorem dX4_push_4 : decode cX4_push 4 = .ok (.aload_n 0, 1) := by decide +kernel
theorem dX4_push_5 : decode cX4_push 5 = .ok (.getfield 15, 3) := by decide +kernel
theorem dX4_push_8 : decode cX4_push 8 = .ok (.if_icmp .lt 36, 3) := by decide +kernel
theorem dX4_push_11 : decode cX4_push 11 = .ok (.aload_n 0, 1) := by decide +kernel
theorem dX4_push_12 : decode cX4_push 12 = .ok (.getfield 21, 3) := by decide +kernel
theorem dX4_push_15 : decode cX4_push 15 = .ok (.bipush 16, 2) := by decide +kernel
theorem dX4_push_17 : decode cX4_push 17 = .ok (.aload_n 0, 1) := by decide +kernel
theorem dX4_push_18 : decode cX4_push 18 = .ok (.getfield 21, 3) := by decide +kernel
theorem dX4_push_21 : decode cX4_push 21 = .ok (.iconst 0, 1) := by decide +kernel
theorem dX4_push_22 : decode cX4_push 22 = .ok (.aload_n 0, 1) := by decide +kernel
theorem dX4_push_23 : decode cX4_push 23 = .ok (.getfield 15, 3) := by decide +kernel
theorem dX4_push_26 : decode cX4_push 26 = .ok (.iconst 1, 1) := by decide +kernel
theorem dX4_push_27 : decode cX4_push 27 = .ok (.isub, 1) := by decide +kernel
theorem dX4_push_28 : decode cX4_push 28 = .ok (.bipush 16, 2) := by decide +kernel
theorem dX4_push_30 : decode cX4_push 30 = .ok (.imul, 1) := by decide +kernel
theorem dX4_push_31 : decode cX4_push 31 = .ok (.invokestatic 28, 3) := by decide +kernel
theorem dX4_push_34 : decode cX4_push 34 = .ok (.aload_n 0, 1) := by decide +kernel
theorem dX4_push_35 : decode cX4_push 35 = .ok (.aload_n 0, 1) := by decide +kernel
theorem dX4_push_36 : decode cX4_push 36 = .ok (.getfield 15, 3) := by decide +kernel
theorem dX4_push_39 : decode cX4_push 39 = .ok (.iconst 1, 1) := by decide +kernel
theorem dX4_push_40 : decode cX4_push 40 = .ok (.isub, 1) := by decide +kernel
theorem dX4_push_41 : decode cX4_push 41 = .ok (.putfield 25, 3) := by decide +kernel
theorem dX4_push_44 : decode cX4_push 44 = .ok (.aload_n 0, 1) := by decide +kernel
theorem dX4_push_45 : decode cX4_push 45 = .ok (.getfield 25, 3) := by decide +kernel
theorem dX4_push_48 : decode cX4_push 48 = .ok (.bipush 16, 2) := by decide +kernel
theorem dX4_push_50 : decode cX4_push 50 = .ok (.imul, 1) := by decide +kernel
theorem dX4_push_51 : decode cX4_push 51 = .ok (.istore_n 2, 1) := by decide +kernel
theorem dX4_push_52 : decode cX4_push 52 = .ok (.aload_n 1, 1) := by decide +kernel
theorem dX4_push_53 : decode cX4_push 53 = .ok (.getfield 34, 3) := by decide +kernel
theorem dX4_push_56 : decode cX4_push 56 = .ok (.iconst 0, 1) := by decide +kernel
theorem dX4_push_57 : decode cX4_push 57 = .ok (.aload_n 0, 1) := by decide +kernel
theorem dX4_push_58 : decode cX4_push 58 = .ok (.getfield 21, 3) := by decide +kernel
theorem dX4_push_61 : decode cX4_push 61 = .ok (.iload_n 2, 1) := by decide +kernel
theorem dX4_push_62 : decode cX4_push 62 = .ok (.bipush 7, 2) := by decide +kernel
theorem dX4_push_64 : decode cX4_push 64 = .ok (.invokestatic 28, 3) := by decide +kernel
theorem dX4_push_67 : decode cX4_push 67 = .ok (.aload_n 1, 1) := by decide +kernel
theorem dX4_push_68 : decode cX4_push 68 = .ok (.getfield 39, 3) := by decide +kernel
theorem dX4_push_71 : decode cX4_push 71 = .ok (.iconst 0, 1) := by decide +kernel
theorem dX4_push_72 : decode cX4_push 72 = .ok (.aload_n 0, 1) := by decide +kernel
theorem dX4_push_73 : decode cX4_push 73 = .ok (.getfield 21, 3) := by decide +kernel
theorem dX4_push_76 : decode cX4_push 76 = .ok (.iload_n 2, 1) := by decide +kernel
theorem dX4_push_77 : decode cX4_push 77 = .ok (.bipush 7, 2) := by decide +kernel
theorem dX4_push_79 : decode cX4_push 79 = .ok (.iadd, 1) := by decide +kernel
theorem dX4_push_80 : decode cX4_push 80 = .ok (.bipush 7, 2) := by decide +kernel
theorem dX4_push_82 : decode cX4_push 82 = .ok (.invokestatic 28, 3) := by decide +kernel
theorem dX4_push_85 : decode cX4_push 85 = .ok (.aload_n 0, 1) := by decide +kernel
theorem dX4_push_86 : decode cX4_push 86 = .ok (.getfield 21, 3) := by decide +kernel
theorem dX4_push_89 : decode cX4_push 89 = .ok (.iload_n 2, 1) := by decide +kernel
theorem dX4_push_90 : decode cX4_push 90 = .ok (.bipush 14, 2) := by decide +kernel
theorem dX4_push_92 : decode cX4_push 92 = .ok (.iadd, 1) := by decide +kernel
theorem dX4_push_93 : decode cX4_push 93 = .ok (.aload_n 1, 1) := by decide +kernel
theorem dX4_push_94 : decode cX4_push 94 = .ok (.getfield 42, 3) := by decide +kernel
theorem dX4_push_97 : decode cX4_push 97 = .ok (.iastore, 1) := by decide +kernel
theorem dX4_push_98 : decode cX4_push 98 = .ok (.aload_n 0, 1) := by decide +kernel
theorem dX4_push_99 : decode cX4_push 99 = .ok (.getfield 21, 3) := by decide +kernel
theorem dX4_push_102 : decode cX4_push 102 = .ok (.iload_n 2, 1) := by decide +kernel
theorem dX4_push_103 : decode cX4_push 103 = .ok (.bipush 14, 2) := by decide +kernel
theorem dX4_push_105 : decode cX4_push 105 = .ok (.iadd, 1) := by decide +kernel
theorem dX4_push_106 : decode cX4_push 106 = .ok (.iconst 1, 1) := by decide +kernel
theorem dX4_push_107 : decode cX4_push 107 = .ok (.iadd, 1) := by decide +kernel
theorem dX4_push_108 : decode cX4_push 108 = .ok (.aload_n 1, 1) := by decide +kernel
theorem dX4_push_109 : decode cX4_push 109 = .ok (.getfield 45, 3) := by decide +kernel
theorem dX4_push_112 : decode cX4_push 112 = .ok (.iastore, 1) := by decide +kernel
theorem dX4_push_113 : decode cX4_push 113 = .ok (.aload_n 0, 1) := by decide +kernel
theorem dX4_push_114 : decode cX4_push 114 = .ok (.dup, 1) := by decide +kernel
theorem dX4_push_115 : decode cX4_push 115 = .ok (.getfield 25, 3) := by decide +kernel
theorem dX4_push_118 : decode cX4_push 118 = .ok (.iconst 1, 1) := by decide +kernel
theorem dX4_push_119 : decode cX4_push 119 = .ok (.iadd, 1) := by decide +kernel
theorem dX4_push_120 : decode cX4_push 120 = .ok (.putfield 25, 3) := by decide +kernel
theorem dX4_push_123 : decode cX4_push 123 = .ok (.return_, 1) := by decide +kernel
theorem dX4_pop_0 : decode cX4_pop 0 = .ok (.aload_n 0, 1) := by decide +kernel
theorem dX4_pop_1 : decode cX4_pop 1 = .ok (.getfield 25, 3) := by decide +kernel
theorem dX4_pop_4 : decode cX4_pop 4 = .ok (.ifCond .gt 4, 3) := by decide +kernel
theorem dX4_pop_7 : decode cX4_pop 7 = .ok (.return_, 1) := by decide +kernel
theorem dX4_pop_8 : decode cX4_pop 8 = .ok (.aload_n 0, 1) := by decide +kernel
theorem dX4_pop_9 : decode cX4_pop 9 = .ok (.dup, 1) := by decide +kernel
theorem dX4_pop_10 : decode cX4_pop 10 = .ok (.getfield 25, 3) := by decide +kernel
theorem dX4_pop_13 : decode cX4_pop 13 = .ok (.iconst 1, 1) := by decide +kernel
theorem dX4_pop_14 : decode cX4_pop 14 = .ok (.isub, 1) := by decide +kernel
theorem dX4_pop_15 : decode cX4_pop 15 = .ok (.putfield 25, 3) := by decide +kernel
theorem dX4_pop_18 : decode cX4_pop 18 = .ok (.aload_n 0, 1) := by decide +kernel
theorem dX4_pop_19 : decode cX4_pop 19 = .ok (.getfield 25, 3) := by decide +kernel
theorem dX4_pop_22 : decode cX4_pop 22 = .ok (.bipush 16, 2) := by decide +kernel
theorem dX4_pop_24 : decode cX4_pop 24 = .ok (.imul, 1) := by decide +kernel
theorem dX4_pop_25 : decode cX4_pop 25 = .ok (.istore_n 2, 1) := by decide +kernel
theorem dX4_pop_26 : decode cX4_pop 26 = .ok (.iconst 0, 1) := by decide +kernel
theorem dX4_pop_27 : decode cX4_pop 27 = .ok (.istore_n 3, 1) := by decide +kernel
theorem dX4_pop_28 : decode cX4_pop 28 = .ok (.iload_n 3, 1) := by decide +kernel
theorem dX4_pop_29 : decode cX4_pop 29 = .ok (.bipush 7, 2) := by decide +kernel
theorem dX4_pop_31 : decode cX4_pop 31 = .ok (.if_icmp .ge 53, 3) := by decide +kernel
theorem dX4_pop_34 : decode cX4_pop 34 = .ok (.aload_n 0, 1) := by decide +kernel
theorem dX4_pop_35 : decode cX4_pop 35 = .ok (.getfield 21, 3) := by decide +kernel
theorem dX4_pop_38 : decode cX4_pop 38 = .ok (.iload_n 2, 1) := by decide +kernel
theorem dX4_pop_39 : decode cX4_pop 39 = .ok (.iload_n 3, 1) := by decide +kernel
theorem dX4_pop_40 : decode cX4_pop 40 = .ok (.iadd, 1) := by decide +kernel
theorem dX4_pop_41 : decode cX4_pop 41 = .ok (.iaload, 1) := by decide +kernel
theorem dX4_pop_42 : decode cX4_pop 42 = .ok (.iconst (-1), 1) := by decide +kernel
theorem dX4_pop_43 : decode cX4_pop 43 = .ok (.if_icmp .ne 11, 3) := by decide +kernel
theorem dX4_pop_46 : decode cX4_pop 46 = .ok (.aload_n 1, 1) := by decide +kernel
theorem dX4_pop_47 : decode cX4_pop 47 = .ok (.iload_n 3, 1) := by decide +kernel
theorem dX4_pop_48 : decode cX4_pop 48 = .ok (.invokevirtual 48, 3) := by decide +kernel
theorem dX4_pop_51 : decode cX4_pop 51 = .ok (.goto 27, 3) := by decide +kernel
theorem dX4_pop_54 : decode cX4_pop 54 = .ok (.aload_n 1, 1) := by decide +kernel
theorem dX4_pop_55 : decode cX4_pop 55 = .ok (.iload_n 3, 1) := by decide +kernel
theorem dX4_pop_56 : decode cX4_pop 56 = .ok (.aload_n 0, 1) := by decide +kernel
theorem dX4_pop_57 : decode cX4_pop 57 = .ok (.getfield 21, 3) := by decide +kernel
theorem dX4_pop_60 : decode cX4_pop 60 = .ok (.iload_n 2, 1) := by decide +kernel
theorem dX4_pop_61 : decode cX4_pop 61 = .ok (.iload_n 3, 1) := by decide +kernel
theorem dX4_pop_62 : decode cX4_pop 62 = .ok (.iadd, 1) := by decide +kernel
theorem dX4_pop_63 : decode cX4_pop 63 = .ok (.iaload, 1) := by decide +kernel
theorem dX4_pop_64 : decode cX4_pop 64 = .ok (.aload_n 0, 1) := by decide +kernel
theorem dX4_pop_65 : decode cX4_pop 65 = .ok (.getfield 21, 3) := by decide +kernel
theorem dX4_pop_68 : decode cX4_pop 68 = .ok (.iload_n 2, 1) := by decide +kernel
theorem dX4_pop_69 : decode cX4_pop 69 = .ok (.bipush 7, 2) := by decide +kernel
theorem dX4_pop_71 : decode cX4_pop 71 = .ok (.iadd, 1) := by decide +kernel
theorem dX4_pop_72 : decode cX4_pop 72 = .ok (.iload_n 3, 1) := by decide +kernel
theorem dX4_pop_73 : decode cX4_pop 73 = .ok (.iadd, 1) := by decide +kernel
theorem dX4_pop_74 : decode cX4_pop 74 = .ok (.iaload, 1) := by decide +kernel
theorem dX4_pop_75 : decode cX4_pop 75 = .ok (.invokevirtual 52, 3) := by decide +kernel
theorem dX4_pop_78 : decode cX4_pop 78 = .ok (.iinc 3 1, 3) := by decide +kernel
theorem dX4_pop_81 : decode cX4_pop 81 = .ok (.goto (-53), 3) := by decide +kernel
theorem dX4_pop_84 : decode cX4_pop 84 = .ok (.aload_n 1, 1) := by decide +kernel
theorem dX4_pop_85 : decode cX4_pop 85 = .ok (.aload_n 0, 1) := by decide +kernel
theorem dX4_pop_86 : decode cX4_pop 86 = .ok (.getfield 21, 3) := by decide +kernel
theorem dX4_pop_89 : decode cX4_pop 89 = .ok (.iload_n 2, 1) := by decide +kernel
theorem dX4_pop_90 : decode cX4_pop 90 = .ok (.bipush 14, 2) := by decide +kernel
theorem dX4_pop_92 : decode cX4_pop 92 = .ok (.iadd, 1) := by decide +kernel
theorem dX4_pop_93 : decode cX4_pop 93 = .ok (.iaload, 1) := by decide +kernel
theorem dX4_pop_94 : decode cX4_pop 94 = .ok (.putfield 42, 3) := by decide +kernel
theorem dX4_pop_97 : decode cX4_pop 97 = .ok (.aload_n 1, 1) := by decide +kernel
theorem dX4_pop_98 : decode cX4_pop 98 = .ok (.aload_n 0, 1) := by decide +kernel
theorem dX4_pop_99 : decode cX4_pop 99 = .ok (.getfield 21, 3) := by decide +kernel
theorem dX4_pop_102 : decode cX4_pop 102 = .ok (.iload_n 2, 1) := by decide +kernel
theorem dX4_pop_103 : decode cX4_pop 103 = .ok (.bipush 14, 2) := by decide +kernel
theorem dX4_pop_105 : decode cX4_pop 105 = .ok (.iadd, 1) := by decide +kernel
theorem dX4_pop_106 : decode cX4_pop 106 = .ok (.iconst 1, 1) := by decide +kernel
theorem dX4_pop_107 : decode cX4_pop 107 = .ok (.iadd, 1) := by decide +kernel
theorem dX4_pop_108 : decode cX4_pop 108 = .ok (.iaload, 1) := by decide +kernel
theorem dX4_pop_109 : decode cX4_pop 109 = .ok (.putfield 45, 3) := by decide +kernel
theorem dX4_pop_112 : decode cX4_pop 112 = .ok (.return_, 1) := by decide +kernel
theorem dJ6_bitCount_0f7a4_0 : decode cJ6_bitCount_0f7a4 0 = .ok (.iload_n 0, 1) := by decide +kernel
theorem dJ6_bitCount_0f7a4_1 : decode cJ6_bitCount_0f7a4 1 = .ok (.iload_n 0, 1) := by decide +kernel
theorem dJ6_bitCount_0f7a4_2 : decode cJ6_bitCount_0f7a4 2 = .ok (.iconst 1, 1) := by decide +kernel
theorem dJ6_bitCount_0f7a4_3 : decode cJ6_bitCount_0f7a4 3 = .ok (.iushr, 1) := by decide +kernel
theorem dJ6_bitCount_0f7a4_4 : decode cJ6_bitCount_0f7a4 4 = .ok (.ldc_w 265, 3) := by decide +kernel
theorem dJ6_bitCount_0f7a4_7 : decode cJ6_bitCount_0f7a4 7 = .ok (.iand, 1) := by decide +kernel
theorem dJ6_bitCount_0f7a4_8 : decode cJ6_bitCount_0f7a4 8 = .ok (.isub, 1) := by decide +kernel
theorem dJ6_bitCount_0f7a4_9 : decode cJ6_bitCount_0f7a4 9 = .ok (.istore_n 0, 1) := by decide +kernel
theorem dJ6_bitCount_0f7a4_10 : decode cJ6_bitCount_0f7a4 10 = .ok (.iload_n 0, 1) := by decide +kernel
theorem dJ6_bitCount_0f7a4_11 : decode cJ6_bitCount_0f7a4 11 = .ok (.ldc_w 266, 3) := by decide +kernel
theorem dJ6_bitCount_0f7a4_14 : decode cJ6_bitCount_0f7a4 14 = .ok (.iand, 1) := by decide +kernel
theorem dJ6_bitCount_0f7a4_15 : decode cJ6_bitCount_0f7a4 15 = .ok (.iload_n 0, 1) := by decide +kernel
theorem dJ6_bitCount_0f7a4_16 : decode cJ6_bitCount_0f7a4 16 = .ok (.iconst 2, 1) := by decide +kernel
theorem dJ6_bitCount_0f7a4_17 : decode cJ6_bitCount_0f7a4 17 = .ok (.iushr, 1) := by decide +kernel
theorem dJ6_bitCount_0f7a4_18 : decode cJ6_bitCount_0f7a4 18 = .ok (.ldc_w 266, 3) := by decide +kernel
theorem dJ6_bitCount_0f7a4_21 : decode cJ6_bitCount_0f7a4 21 = .ok (.iand, 1) := by decide +kernel
theorem dJ6_bitCount_0f7a4_22 : decode cJ6_bitCount_0f7a4 22 = .ok (.iadd, 1) := by decide +kernel
theorem dJ6_bitCount_0f7a4_23 : decode cJ6_bitCount_0f7a4 23 = .ok (.istore_n 0, 1) := by decide +kernel
theorem dJ6_bitCount_0f7a4_24 : decode cJ6_bitCount_0f7a4 24 = .ok (.iload_n 0, 1) := by decide +kernel
theorem dJ6_bitCount_0f7a4_25 : decode cJ6_bitCount_0f7a4 25 = .ok (.iload_n 0, 1) := by decide +kernel
theorem dJ6_bitCount_0f7a4_26 : decode cJ6_bitCount_0f7a4 26 = .ok (.iconst 4, 1) := by decide +kernel
theorem dJ6_bitCount_0f7a4_27 : decode cJ6_bitCount_0f7a4 27 = .ok (.iushr, 1) := by decide +kernel
theorem dJ6_bitCount_0f7a4_28 : decode cJ6_bitCount_0f7a4 28 = .ok (.iadd, 1) := by decide +kernel
theorem dJ6_bitCount_0f7a4_29 : decode cJ6_bitCount_0f7a4 29 = .ok (.ldc_w 267, 3) := by decide +kernel
theorem dJ6_bitCount_0f7a4_32 : decode cJ6_bitCount_0f7a4 32 = .ok (.iand, 1) := by decide +kernel
theorem dJ6_bitCount_0f7a4_33 : decode cJ6_bitCount_0f7a4 33 = .ok (.istore_n 0, 1) := by decide +kernel
theorem dJ6_bitCount_0f7a4_34 : decode cJ6_bitCount_0f7a4 34 = .ok (.iload_n 0, 1) := by decide +kernel
theorem dJ6_bitCount_0f7a4_35 : decode cJ6_bitCount_0f7a4 35 = .ok (.iload_n 0, 1) := by decide +kernel
theorem dJ6_bitCount_0f7a4_36 : decode cJ6_bitCount_0f7a4 36 = .ok (.bipush 8, 2) := by decide +kernel
theorem dJ6_bitCount_0f7a4_38 : decode cJ6_bitCount_0f7a4 38 = .ok (.iushr, 1) := by decide +kernel
theorem dJ6_bitCount_0f7a4_39 : decode cJ6_bitCount_0f7a4 39 = .ok (.iadd, 1) := by decide +kernel
theorem dJ6_bitCount_0f7a4_40 : decode cJ6_bitCount_0f7a4 40 = .ok (.istore_n 0, 1) := by decide +kernel
theorem dJ6_bitCount_0f7a4_41 : decode cJ6_bitCount_0f7a4 41 = .ok (.iload_n 0, 1) := by decide +kernel
theorem dJ6_bitCount_0f7a4_42 : decode cJ6_bitCount_0f7a4 42 = .ok (.iload_n 0, 1) := by decide +kernel
theorem dJ6_bitCount_0f7a4_43 : decode cJ6_bitCount_0f7a4 43 = .ok (.bipush 16, 2) := by decide +kernel
theorem dJ6_bitCount_0f7a4_45 : decode cJ6_bitCount_0f7a4 45 = .ok (.iushr, 1) := by decide +kernel
theorem dJ6_bitCount_0f7a4_46 : decode cJ6_bitCount_0f7a4 46 = .ok (.iadd, 1) := by decide +kernel
theorem dJ6_bitCount_0f7a4_47 : decode cJ6_bitCount_0f7a4 47 = .ok (.istore_n 0, 1) := by decide +kernel
theorem dJ6_bitCount_0f7a4_48 : decode cJ6_bitCount_0f7a4 48 = .ok (.iload_n 0, 1) := by decide +kernel
theorem dJ6_bitCount_0f7a4_49 : decode cJ6_bitCount_0f7a4 49 = .ok (.bipush 63, 2) := by decide +kernel
theorem dJ6_bitCount_0f7a4_51 : decode cJ6_bitCount_0f7a4 51 = .ok (.iand, 1) := by decide +kernel
theorem dJ6_bitCount_0f7a4_52 : decode cJ6_bitCount_0f7a4 52 = .ok (.ireturn, 1) := by decide +kernel
theorem dJ9_max_7cf53_0 : decode cJ9_max_7cf53 0 = .ok (.iload_n 0, 1) := by decide +kernel
theorem dJ9_max_7cf53_1 : decode cJ9_max_7cf53 1 = .ok (.iload_n 1, 1) := by decide +kernel
theorem dJ9_max_7cf53_2 : decode cJ9_max_7cf53 2 = .ok (.if_icmp .lt 7, 3) := by decide +kernel
theorem dJ9_max_7cf53_5 : decode cJ9_max_7cf53 5 = .ok (.iload_n 0, 1) := by decide +kernel
theorem dJ9_max_7cf53_6 : decode cJ9_max_7cf53 6 = .ok (.goto 4, 3) := by decide +kernel
theorem dJ9_max_7cf53_9 : decode cJ9_max_7cf53 9 = .ok (.iload_n 1, 1) := by decide +kernel
theorem dJ9_max_7cf53_10 : decode cJ9_max_7cf53 10 = .ok (.ireturn, 1) := by decide +kernel
theorem dJ9_min_7cf53_0 : decode cJ9_min_7cf53 0 = .ok (.iload_n 0, 1) := by decide +kernel
theorem dJ9_min_7cf53_1 : decode cJ9_min_7cf53 1 = .ok (.iload_n 1, 1) := by decide +kernel
theorem dJ9_min_7cf53_2 : decode cJ9_min_7cf53 2 = .ok (.if_icmp .gt 7, 3) := by decide +kernel
theorem dJ9_min_7cf53_5 : decode cJ9_min_7cf53 5 = .ok (.iload_n 0, 1) := by decide +kernel
theorem dJ9_min_7cf53_6 : decode cJ9_min_7cf53 6 = .ok (.goto 4, 3) := by decide +kernel
theorem dJ9_min_7cf53_9 : decode cJ9_min_7cf53 9 = .ok (.iload_n 1, 1) := by decide +kernel
theorem dJ9_min_7cf53_10 : decode cJ9_min_7cf53 10 = .ok (.ireturn, 1) := by decide +kernel
theorem dJ0_length_8abf5_0 : decode cJ0_length_8abf5 0 = .ok (.aload_n 0, 1) := by decide +kernel
theorem dJ0_length_8abf5_1 : decode cJ0_length_8abf5 1 = .ok (.getfield 9, 3) := by decide +kernel
theorem dJ0_length_8abf5_4 : decode cJ0_length_8abf5 4 = .ok (.arraylength, 1) := by decide +kernel
theorem dJ0_length_8abf5_5 : decode cJ0_length_8abf5 5 = .ok (.aload_n 0, 1) := by decide +kernel
theorem dJ0_length_8abf5_6 : decode cJ0_length_8abf5 6 = .ok (.invokevirtual 335, 3) := by decide +kernel
theorem dJ0_length_8abf5_9 : decode cJ0_length_8abf5 9 = .ok (.ishr, 1) := by decide +kernel
theorem dJ0_length_8abf5_10 : decode cJ0_length_8abf5 10 = .ok (.ireturn, 1) := by decide +kernel
theorem dJ0_charAt_5068e_0 : decode cJ0_charAt_5068e 0 = .ok (.aload_n 0, 1) := by decide +kernel
theorem dJ0_charAt_5068e_1 : decode cJ0_charAt_5068e 1 = .ok (.invokevirtual 492, 3) := by decide +kernel
theorem dJ0_charAt_5068e_4 : decode cJ0_charAt_5068e 4 = .ok (.ifCond .eq 12, 3) := by decide +kernel
theorem dJ0_charAt_5068e_7 : decode cJ0_charAt_5068e 7 = .ok (.aload_n 0, 1) := by decide +kernel
theorem dJ0_charAt_5068e_8 : decode cJ0_charAt_5068e 8 = .ok (.getfield 9, 3) := by decide +kernel
theorem dJ0_charAt_5068e_11 : decode cJ0_charAt_5068e 11 = .ok (.iload_n 1, 1) := by decide +kernel
theorem dJ0_charAt_5068e_12 : decode cJ0_charAt_5068e 12 = .ok (.invokestatic 495, 3) := by decide +kernel
theorem dJ0_charAt_5068e_15 : decode cJ0_charAt_5068e 15 = .ok (.ireturn, 1) := by decide +kernel
theorem dJ0_charAt_5068e_16 : decode cJ0_charAt_5068e 16 = .ok (.aload_n 0, 1) := by decide +kernel
theorem dJ0_charAt_5068e_17 : decode cJ0_charAt_5068e 17 = .ok (.getfield 9, 3) := by decide +kernel
theorem dJ0_charAt_5068e_20 : decode cJ0_charAt_5068e 20 = .ok (.iload_n 1, 1) := by decide +kernel
theorem dJ0_charAt_5068e_21 : decode cJ0_charAt_5068e 21 = .ok (.invokestatic 498, 3) := by decide +kernel
theorem dJ0_charAt_5068e_24 : decode cJ0_charAt_5068e 24 = .ok (.ireturn, 1) := by decide +kernel
theorem dJ0_coder_7d493_0 : decode cJ0_coder_7d493 0 = .ok (.getstatic 38, 3) := by decide +kernel
theorem dJ0_coder_7d493_3 : decode cJ0_coder_7d493 3 = .ok (.ifCond .eq 10, 3) := by decide +kernel
theorem dJ0_coder_7d493_6 : decode cJ0_coder_7d493 6 = .ok (.aload_n 0, 1) := by decide +kernel
theorem dJ0_coder_7d493_7 : decode cJ0_coder_7d493 7 = .ok (.getfield 15, 3) := by decide +kernel
theorem dJ0_coder_7d493_10 : decode cJ0_coder_7d493 10 = .ok (.goto 4, 3) := by decide +kernel
theorem dJ0_coder_7d493_13 : decode cJ0_coder_7d493 13 = .ok (.iconst 1, 1) := by decide +kernel
theorem dJ0_coder_7d493_14 : decode cJ0_coder_7d493 14 = .ok (.ireturn, 1) := by decide +kernel
theorem dJ0_isLatin1_aae02_0 : decode cJ0_isLatin1_aae02 0 = .ok (.getstatic 38, 3) := by decide +kernel
theorem dJ0_isLatin1_aae02_3 : decode cJ0_isLatin1_aae02 3 = .ok (.ifCond .eq 14, 3) := by decide +kernel
theorem dJ0_isLatin1_aae02_6 : decode cJ0_isLatin1_aae02 6 = .ok (.aload_n 0, 1) := by decide +kernel
theorem dJ0_isLatin1_aae02_7 : decode cJ0_isLatin1_aae02 7 = .ok (.getfield 15, 3) := by decide +kernel
theorem dJ0_isLatin1_aae02_10 : decode cJ0_isLatin1_aae02 10 = .ok (.ifCond .ne 7, 3) := by decide +kernel
