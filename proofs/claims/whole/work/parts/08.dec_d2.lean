theorem dX6_comesClean_16 : decode cX6_comesClean 16 = .ok (.iadd, 1) := by decide +kernel
theorem dX6_comesClean_17 : decode cX6_comesClean 17 = .ok (.iaload, 1) := by decide +kernel
theorem dX6_comesClean_18 : decode cX6_comesClean 18 = .ok (.iload_n 3, 1) := by decide +kernel
theorem dX6_comesClean_19 : decode cX6_comesClean 19 = .ok (.ifCond .ne 15, 3) := by decide +kernel
theorem dX6_comesClean_22 : decode cX6_comesClean 22 = .ok (.aload_n 0, 1) := by decide +kernel
theorem dX6_comesClean_23 : decode cX6_comesClean 23 = .ok (.iload_n 1, 1) := by decide +kernel
theorem dX6_comesClean_24 : decode cX6_comesClean 24 = .ok (.invokevirtual 134, 3) := by decide +kernel
theorem dX6_comesClean_27 : decode cX6_comesClean 27 = .ok (.ifCond .ne 7, 3) := by decide +kernel
theorem dX6_comesClean_30 : decode cX6_comesClean 30 = .ok (.iconst 1, 1) := by decide +kernel
theorem dX6_comesClean_31 : decode cX6_comesClean 31 = .ok (.goto 4, 3) := by decide +kernel
theorem dX6_comesClean_34 : decode cX6_comesClean 34 = .ok (.iconst 0, 1) := by decide +kernel
theorem dX6_comesClean_35 : decode cX6_comesClean 35 = .ok (.iadd, 1) := by decide +kernel
theorem dX6_comesClean_36 : decode cX6_comesClean 36 = .ok (.istore 4, 2) := by decide +kernel
theorem dX6_comesClean_38 : decode cX6_comesClean 38 = .ok (.iload_n 3, 1) := by decide +kernel
theorem dX6_comesClean_39 : decode cX6_comesClean 39 = .ok (.iconst 1, 1) := by decide +kernel
theorem dX6_comesClean_40 : decode cX6_comesClean 40 = .ok (.if_icmp .ne 11, 3) := by decide +kernel
theorem dX6_comesClean_43 : decode cX6_comesClean 43 = .ok (.aload_n 0, 1) := by decide +kernel
theorem dX6_comesClean_44 : decode cX6_comesClean 44 = .ok (.iload_n 1, 1) := by decide +kernel
theorem dX6_comesClean_45 : decode cX6_comesClean 45 = .ok (.invokevirtual 134, 3) := by decide +kernel
theorem dX6_comesClean_48 : decode cX6_comesClean 48 = .ok (.ifCond .eq 16, 3) := by decide +kernel
theorem dX6_comesClean_51 : decode cX6_comesClean 51 = .ok (.iload_n 3, 1) := by decide +kernel
theorem dX6_comesClean_52 : decode cX6_comesClean 52 = .ok (.iconst 2, 1) := by decide +kernel
theorem dX6_comesClean_53 : decode cX6_comesClean 53 = .ok (.if_icmp .ne 15, 3) := by decide +kernel
theorem dX6_comesClean_56 : decode cX6_comesClean 56 = .ok (.aload_n 0, 1) := by decide +kernel
theorem dX6_comesClean_57 : decode cX6_comesClean 57 = .ok (.iload_n 1, 1) := by decide +kernel
theorem dX6_comesClean_58 : decode cX6_comesClean 58 = .ok (.invokevirtual 137, 3) := by decide +kernel
theorem dX6_comesClean_61 : decode cX6_comesClean 61 = .ok (.ifCond .eq 7, 3) := by decide +kernel
theorem dX6_comesClean_64 : decode cX6_comesClean 64 = .ok (.iconst 1, 1) := by decide +kernel
theorem dX6_comesClean_65 : decode cX6_comesClean 65 = .ok (.goto 4, 3) := by decide +kernel
theorem dX6_comesClean_68 : decode cX6_comesClean 68 = .ok (.iconst 0, 1) := by decide +kernel
theorem dX6_comesClean_69 : decode cX6_comesClean 69 = .ok (.istore 5, 2) := by decide +kernel
theorem dX6_comesClean_71 : decode cX6_comesClean 71 = .ok (.aload_n 0, 1) := by decide +kernel
theorem dX6_comesClean_72 : decode cX6_comesClean 72 = .ok (.getfield 37, 3) := by decide +kernel
theorem dX6_comesClean_75 : decode cX6_comesClean 75 = .ok (.iload_n 1, 1) := by decide +kernel
theorem dX6_comesClean_76 : decode cX6_comesClean 76 = .ok (.iaload, 1) := by decide +kernel
theorem dX6_comesClean_77 : decode cX6_comesClean 77 = .ok (.ifCond .lt 32, 3) := by decide +kernel
theorem dX6_comesClean_80 : decode cX6_comesClean 80 = .ok (.iload_n 2, 1) := by decide +kernel
theorem dX6_comesClean_81 : decode cX6_comesClean 81 = .ok (.aload_n 0, 1) := by decide +kernel
theorem dX6_comesClean_82 : decode cX6_comesClean 82 = .ok (.iload_n 1, 1) := by decide +kernel
theorem dX6_comesClean_83 : decode cX6_comesClean 83 = .ok (.invokevirtual 140, 3) := by decide +kernel
theorem dX6_comesClean_86 : decode cX6_comesClean 86 = .ok (.isub, 1) := by decide +kernel
theorem dX6_comesClean_87 : decode cX6_comesClean 87 = .ok (.iload 4, 2) := by decide +kernel
theorem dX6_comesClean_89 : decode cX6_comesClean 89 = .ok (.if_icmp .lt 20, 3) := by decide +kernel
theorem dX6_comesClean_92 : decode cX6_comesClean 92 = .ok (.iload 5, 2) := by decide +kernel
theorem dX6_comesClean_94 : decode cX6_comesClean 94 = .ok (.ifCond .ne 15, 3) := by decide +kernel
theorem dX6_comesClean_97 : decode cX6_comesClean 97 = .ok (.aload_n 0, 1) := by decide +kernel
theorem dX6_comesClean_98 : decode cX6_comesClean 98 = .ok (.iload_n 1, 1) := by decide +kernel
theorem dX6_comesClean_99 : decode cX6_comesClean 99 = .ok (.invokevirtual 143, 3) := by decide +kernel
theorem dX6_comesClean_102 : decode cX6_comesClean 102 = .ok (.ifCond .ne 7, 3) := by decide +kernel
theorem dX6_comesClean_105 : decode cX6_comesClean 105 = .ok (.iconst 1, 1) := by decide +kernel
theorem dX6_comesClean_106 : decode cX6_comesClean 106 = .ok (.goto 4, 3) := by decide +kernel
theorem dX6_comesClean_109 : decode cX6_comesClean 109 = .ok (.iconst 0, 1) := by decide +kernel
theorem dX6_comesClean_110 : decode cX6_comesClean 110 = .ok (.ireturn, 1) := by decide +kernel
theorem dX6_cleanBy_0 : decode cX6_cleanBy 0 = .ok (.iconst 0, 1) := by decide +kernel
theorem dX6_cleanBy_1 : decode cX6_cleanBy 1 = .ok (.istore_n 2, 1) := by decide +kernel
theorem dX6_cleanBy_2 : decode cX6_cleanBy 2 = .ok (.iconst 0, 1) := by decide +kernel
theorem dX6_cleanBy_3 : decode cX6_cleanBy 3 = .ok (.istore_n 3, 1) := by decide +kernel
theorem dX6_cleanBy_4 : decode cX6_cleanBy 4 = .ok (.iload_n 3, 1) := by decide +kernel
theorem dX6_cleanBy_5 : decode cX6_cleanBy 5 = .ok (.aload_n 0, 1) := by decide +kernel
theorem dX6_cleanBy_6 : decode cX6_cleanBy 6 = .ok (.getfield 13, 3) := by decide +kernel
theorem dX6_cleanBy_9 : decode cX6_cleanBy 9 = .ok (.iconst 3, 1) := by decide +kernel
theorem dX6_cleanBy_10 : decode cX6_cleanBy 10 = .ok (.iaload, 1) := by decide +kernel
theorem dX6_cleanBy_11 : decode cX6_cleanBy 11 = .ok (.if_icmp .ge 28, 3) := by decide +kernel
theorem dX6_cleanBy_14 : decode cX6_cleanBy 14 = .ok (.iload_n 2, 1) := by decide +kernel
theorem dX6_cleanBy_15 : decode cX6_cleanBy 15 = .ok (.aload_n 0, 1) := by decide +kernel
theorem dX6_cleanBy_16 : decode cX6_cleanBy 16 = .ok (.iload_n 3, 1) := by decide +kernel
theorem dX6_cleanBy_17 : decode cX6_cleanBy 17 = .ok (.iload_n 1, 1) := by decide +kernel
theorem dX6_cleanBy_18 : decode cX6_cleanBy 18 = .ok (.invokevirtual 146, 3) := by decide +kernel
theorem dX6_cleanBy_21 : decode cX6_cleanBy 21 = .ok (.ifCond .eq 9, 3) := by decide +kernel
theorem dX6_cleanBy_24 : decode cX6_cleanBy 24 = .ok (.iconst 1, 1) := by decide +kernel
theorem dX6_cleanBy_25 : decode cX6_cleanBy 25 = .ok (.iload_n 3, 1) := by decide +kernel
theorem dX6_cleanBy_26 : decode cX6_cleanBy 26 = .ok (.ishl, 1) := by decide +kernel
theorem dX6_cleanBy_27 : decode cX6_cleanBy 27 = .ok (.goto 4, 3) := by decide +kernel
theorem dX6_cleanBy_30 : decode cX6_cleanBy 30 = .ok (.iconst 0, 1) := by decide +kernel
theorem dX6_cleanBy_31 : decode cX6_cleanBy 31 = .ok (.ior, 1) := by decide +kernel
theorem dX6_cleanBy_32 : decode cX6_cleanBy 32 = .ok (.istore_n 2, 1) := by decide +kernel
theorem dX6_cleanBy_33 : decode cX6_cleanBy 33 = .ok (.iinc 3 1, 3) := by decide +kernel
theorem dX6_cleanBy_36 : decode cX6_cleanBy 36 = .ok (.goto (-32), 3) := by decide +kernel
theorem dX6_cleanBy_39 : decode cX6_cleanBy 39 = .ok (.iload_n 2, 1) := by decide +kernel
theorem dX6_cleanBy_40 : decode cX6_cleanBy 40 = .ok (.ireturn, 1) := by decide +kernel
theorem dX6_inside_0 : decode cX6_inside 0 = .ok (.iconst 0, 1) := by decide +kernel
theorem dX6_inside_1 : decode cX6_inside 1 = .ok (.istore_n 1, 1) := by decide +kernel
theorem dX6_inside_2 : decode cX6_inside 2 = .ok (.iconst 0, 1) := by decide +kernel
theorem dX6_inside_3 : decode cX6_inside 3 = .ok (.istore_n 2, 1) := by decide +kernel
theorem dX6_inside_4 : decode cX6_inside 4 = .ok (.iload_n 2, 1) := by decide +kernel
theorem dX6_inside_5 : decode cX6_inside 5 = .ok (.aload_n 0, 1) := by decide +kernel
theorem dX6_inside_6 : decode cX6_inside 6 = .ok (.getfield 13, 3) := by decide +kernel
theorem dX6_inside_9 : decode cX6_inside 9 = .ok (.iconst 3, 1) := by decide +kernel
theorem dX6_inside_10 : decode cX6_inside 10 = .ok (.iaload, 1) := by decide +kernel
theorem dX6_inside_11 : decode cX6_inside 11 = .ok (.if_icmp .ge 28, 3) := by decide +kernel
theorem dX6_inside_14 : decode cX6_inside 14 = .ok (.iload_n 1, 1) := by decide +kernel
theorem dX6_inside_15 : decode cX6_inside 15 = .ok (.aload_n 0, 1) := by decide +kernel
theorem dX6_inside_16 : decode cX6_inside 16 = .ok (.getfield 37, 3) := by decide +kernel
theorem dX6_inside_19 : decode cX6_inside 19 = .ok (.iload_n 2, 1) := by decide +kernel
theorem dX6_inside_20 : decode cX6_inside 20 = .ok (.iaload, 1) := by decide +kernel
theorem dX6_inside_21 : decode cX6_inside 21 = .ok (.ifCond .lt 9, 3) := by decide +kernel
theorem dX6_inside_24 : decode cX6_inside 24 = .ok (.iconst 1, 1) := by decide +kernel
theorem dX6_inside_25 : decode cX6_inside 25 = .ok (.iload_n 2, 1) := by decide +kernel
theorem dX6_inside_26 : decode cX6_inside 26 = .ok (.ishl, 1) := by decide +kernel
theorem dX6_inside_27 : decode cX6_inside 27 = .ok (.goto 4, 3) := by decide +kernel
theorem dX6_inside_30 : decode cX6_inside 30 = .ok (.iconst 0, 1) := by decide +kernel
theorem dX6_inside_31 : decode cX6_inside 31 = .ok (.ior, 1) := by decide +kernel
theorem dX6_inside_32 : decode cX6_inside 32 = .ok (.istore_n 1, 1) := by decide +kernel
theorem dX6_inside_33 : decode cX6_inside 33 = .ok (.iinc 2 1, 3) := by decide +kernel
theorem dX6_inside_36 : decode cX6_inside 36 = .ok (.goto (-32), 3) := by decide +kernel
theorem dX6_inside_39 : decode cX6_inside 39 = .ok (.iload_n 1, 1) := by decide +kernel
theorem dX6_inside_40 : decode cX6_inside 40 = .ok (.ireturn, 1) := by decide +kernel
theorem dX6_thing_0 : decode cX6_thing 0 = .ok (.aload_n 0, 1) := by decide +kernel
theorem dX6_thing_1 : decode cX6_thing 1 = .ok (.iload_n 1, 1) := by decide +kernel
theorem dX6_thing_2 : decode cX6_thing 2 = .ok (.invokevirtual 150, 3) := by decide +kernel
theorem dX6_thing_5 : decode cX6_thing 5 = .ok (.ifCond .eq 15, 3) := by decide +kernel
theorem dX6_thing_8 : decode cX6_thing 8 = .ok (.iload_n 2, 1) := by decide +kernel
theorem dX6_thing_9 : decode cX6_thing 9 = .ok (.i2l, 1) := by decide +kernel
theorem dX6_thing_10 : decode cX6_thing 10 = .ok (.lconst 0, 1) := by decide +kernel
theorem dX6_thing_11 : decode cX6_thing 11 = .ok (.ldc2_w 153, 3) := by decide +kernel
theorem dX6_thing_14 : decode cX6_thing 14 = .ok (.invokestatic 70, 3) := by decide +kernel
theorem dX6_thing_17 : decode cX6_thing 17 = .ok (.ifCond .ne 5, 3) := by decide +kernel
theorem dX6_thing_20 : decode cX6_thing 20 = .ok (.iconst (-1), 1) := by decide +kernel
theorem dX6_thing_21 : decode cX6_thing 21 = .ok (.ireturn, 1) := by decide +kernel
theorem dX6_thing_22 : decode cX6_thing 22 = .ok (.iload_n 2, 1) := by decide +kernel
theorem dX6_thing_23 : decode cX6_thing 23 = .ok (.tableswitch 95 0 5 #[37, 46, 56, 66, 76, 85], 37) := by decide +kernel
theorem dX6_thing_60 : decode cX6_thing 60 = .ok (.aload_n 0, 1) := by decide +kernel
theorem dX6_thing_61 : decode cX6_thing 61 = .ok (.getfield 13, 3) := by decide +kernel
theorem dX6_thing_64 : decode cX6_thing 64 = .ok (.iconst 4, 1) := by decide +kernel
theorem dX6_thing_65 : decode cX6_thing 65 = .ok (.iload_n 1, 1) := by decide +kernel
theorem dX6_thing_66 : decode cX6_thing 66 = .ok (.iadd, 1) := by decide +kernel
theorem dX6_thing_67 : decode cX6_thing 67 = .ok (.iaload, 1) := by decide +kernel
theorem dX6_thing_68 : decode cX6_thing 68 = .ok (.ireturn, 1) := by decide +kernel
theorem dX6_thing_69 : decode cX6_thing 69 = .ok (.aload_n 0, 1) := by decide +kernel
theorem dX6_thing_70 : decode cX6_thing 70 = .ok (.getfield 13, 3) := by decide +kernel
theorem dX6_thing_73 : decode cX6_thing 73 = .ok (.bipush 11, 2) := by decide +kernel
theorem dX6_thing_75 : decode cX6_thing 75 = .ok (.iload_n 1, 1) := by decide +kernel
theorem dX6_thing_76 : decode cX6_thing 76 = .ok (.iadd, 1) := by decide +kernel
theorem dX6_thing_77 : decode cX6_thing 77 = .ok (.iaload, 1) := by decide +kernel
theorem dX6_thing_78 : decode cX6_thing 78 = .ok (.ireturn, 1) := by decide +kernel
theorem dX6_thing_79 : decode cX6_thing 79 = .ok (.aload_n 0, 1) := by decide +kernel
theorem dX6_thing_80 : decode cX6_thing 80 = .ok (.getfield 13, 3) := by decide +kernel
theorem dX6_thing_83 : decode cX6_thing 83 = .ok (.bipush 18, 2) := by decide +kernel
theorem dX6_thing_85 : decode cX6_thing 85 = .ok (.iload_n 1, 1) := by decide +kernel
theorem dX6_thing_86 : decode cX6_thing 86 = .ok (.iadd, 1) := by decide +kernel
theorem dX6_thing_87 : decode cX6_thing 87 = .ok (.iaload, 1) := by decide +kernel
theorem dX6_thing_88 : decode cX6_thing 88 = .ok (.ireturn, 1) := by decide +kernel
theorem dX6_thing_89 : decode cX6_thing 89 = .ok (.aload_n 0, 1) := by decide +kernel
theorem dX6_thing_90 : decode cX6_thing 90 = .ok (.getfield 13, 3) := by decide +kernel
theorem dX6_thing_93 : decode cX6_thing 93 = .ok (.bipush 25, 2) := by decide +kernel
theorem dX6_thing_95 : decode cX6_thing 95 = .ok (.iload_n 1, 1) := by decide +kernel
theorem dX6_thing_96 : decode cX6_thing 96 = .ok (.iadd, 1) := by decide +kernel
theorem dX6_thing_97 : decode cX6_thing 97 = .ok (.iaload, 1) := by decide +kernel
theorem dX6_thing_98 : decode cX6_thing 98 = .ok (.ireturn, 1) := by decide +kernel
theorem dX6_thing_99 : decode cX6_thing 99 = .ok (.aload_n 0, 1) := by decide +kernel
theorem dX6_thing_100 : decode cX6_thing 100 = .ok (.getfield 19, 3) := by decide +kernel
theorem dX6_thing_103 : decode cX6_thing 103 = .ok (.iconst 2, 1) := by decide +kernel
theorem dX6_thing_104 : decode cX6_thing 104 = .ok (.iload_n 1, 1) := by decide +kernel
theorem dX6_thing_105 : decode cX6_thing 105 = .ok (.iadd, 1) := by decide +kernel
theorem dX6_thing_106 : decode cX6_thing 106 = .ok (.iaload, 1) := by decide +kernel
theorem dX6_thing_107 : decode cX6_thing 107 = .ok (.ireturn, 1) := by decide +kernel
theorem dX6_thing_108 : decode cX6_thing 108 = .ok (.aload_n 0, 1) := by decide +kernel
theorem dX6_thing_109 : decode cX6_thing 109 = .ok (.getfield 19, 3) := by decide +kernel
theorem dX6_thing_112 : decode cX6_thing 112 = .ok (.bipush 9, 2) := by decide +kernel
theorem dX6_thing_114 : decode cX6_thing 114 = .ok (.iload_n 1, 1) := by decide +kernel
theorem dX6_thing_115 : decode cX6_thing 115 = .ok (.iadd, 1) := by decide +kernel
theorem dX6_thing_116 : decode cX6_thing 116 = .ok (.iaload, 1) := by decide +kernel
theorem dX6_thing_117 : decode cX6_thing 117 = .ok (.ireturn, 1) := by decide +kernel
theorem dX6_thing_118 : decode cX6_thing 118 = .ok (.aload_n 0, 1) := by decide +kernel
theorem dX6_thing_119 : decode cX6_thing 119 = .ok (.getfield 19, 3) := by decide +kernel
theorem dX6_thing_122 : decode cX6_thing 122 = .ok (.iconst 1, 1) := by decide +kernel
theorem dX6_thing_123 : decode cX6_thing 123 = .ok (.iaload, 1) := by decide +kernel
theorem dX6_thing_124 : decode cX6_thing 124 = .ok (.iload_n 1, 1) := by decide +kernel
theorem dX6_thing_125 : decode cX6_thing 125 = .ok (.ishr, 1) := by decide +kernel
theorem dX6_thing_126 : decode cX6_thing 126 = .ok (.iconst 1, 1) := by decide +kernel
theorem dX6_thing_127 : decode cX6_thing 127 = .ok (.iand, 1) := by decide +kernel
theorem dX6_thing_128 : decode cX6_thing 128 = .ok (.ireturn, 1) := by decide +kernel
theorem dX6_slot_0 : decode cX6_slot 0 = .ok (.aload_n 0, 1) := by decide +kernel
theorem dX6_slot_1 : decode cX6_slot 1 = .ok (.iload_n 1, 1) := by decide +kernel
theorem dX6_slot_2 : decode cX6_slot 2 = .ok (.invokevirtual 155, 3) := by decide +kernel
theorem dX6_slot_5 : decode cX6_slot 5 = .ok (.ifCond .ne 5, 3) := by decide +kernel
theorem dX6_slot_8 : decode cX6_slot 8 = .ok (.iconst (-1), 1) := by decide +kernel
theorem dX6_slot_9 : decode cX6_slot 9 = .ok (.ireturn, 1) := by decide +kernel
theorem dX6_slot_10 : decode cX6_slot 10 = .ok (.iconst 0, 1) := by decide +kernel
theorem dX6_slot_11 : decode cX6_slot 11 = .ok (.istore_n 2, 1) := by decide +kernel
theorem dX6_slot_12 : decode cX6_slot 12 = .ok (.iload_n 2, 1) := by decide +kernel
theorem dX6_slot_13 : decode cX6_slot 13 = .ok (.aload_n 0, 1) := by decide +kernel
theorem dX6_slot_14 : decode cX6_slot 14 = .ok (.getfield 13, 3) := by decide +kernel
theorem dX6_slot_17 : decode cX6_slot 17 = .ok (.iconst 3, 1) := by decide +kernel
theorem dX6_slot_18 : decode cX6_slot 18 = .ok (.iaload, 1) := by decide +kernel
theorem dX6_slot_19 : decode cX6_slot 19 = .ok (.if_icmp .ge 60, 3) := by decide +kernel
theorem dX6_slot_22 : decode cX6_slot 22 = .ok (.aload_n 0, 1) := by decide +kernel
theorem dX6_slot_23 : decode cX6_slot 23 = .ok (.getfield 19, 3) := by decide +kernel
theorem dX6_slot_26 : decode cX6_slot 26 = .ok (.iconst 2, 1) := by decide +kernel
theorem dX6_slot_27 : decode cX6_slot 27 = .ok (.iload_n 2, 1) := by decide +kernel
theorem dX6_slot_28 : decode cX6_slot 28 = .ok (.iadd, 1) := by decide +kernel
theorem dX6_slot_29 : decode cX6_slot 29 = .ok (.iaload, 1) := by decide +kernel
theorem dX6_slot_30 : decode cX6_slot 30 = .ok (.ifCond .lt 43, 3) := by decide +kernel
theorem dX6_slot_33 : decode cX6_slot 33 = .ok (.iload_n 1, 1) := by decide +kernel
theorem dX6_slot_34 : decode cX6_slot 34 = .ok (.i2l, 1) := by decide +kernel
theorem dX6_slot_35 : decode cX6_slot 35 = .ok (.aload_n 0, 1) := by decide +kernel
theorem dX6_slot_36 : decode cX6_slot 36 = .ok (.getfield 19, 3) := by decide +kernel
theorem dX6_slot_39 : decode cX6_slot 39 = .ok (.iconst 2, 1) := by decide +kernel
theorem dX6_slot_40 : decode cX6_slot 40 = .ok (.iload_n 2, 1) := by decide +kernel
theorem dX6_slot_41 : decode cX6_slot 41 = .ok (.iadd, 1) := by decide +kernel
theorem dX6_slot_42 : decode cX6_slot 42 = .ok (.iaload, 1) := by decide +kernel
theorem dX6_slot_43 : decode cX6_slot 43 = .ok (.i2l, 1) := by decide +kernel
theorem dX6_slot_44 : decode cX6_slot 44 = .ok (.aload_n 0, 1) := by decide +kernel
theorem dX6_slot_45 : decode cX6_slot 45 = .ok (.getfield 19, 3) := by decide +kernel
theorem dX6_slot_48 : decode cX6_slot 48 = .ok (.iconst 2, 1) := by decide +kernel
theorem dX6_slot_49 : decode cX6_slot 49 = .ok (.iload_n 2, 1) := by decide +kernel
theorem dX6_slot_50 : decode cX6_slot 50 = .ok (.iadd, 1) := by decide +kernel
theorem dX6_slot_51 : decode cX6_slot 51 = .ok (.iaload, 1) := by decide +kernel
theorem dX6_slot_52 : decode cX6_slot 52 = .ok (.aload_n 0, 1) := by decide +kernel
theorem dX6_slot_53 : decode cX6_slot 53 = .ok (.getfield 13, 3) := by decide +kernel
theorem dX6_slot_56 : decode cX6_slot 56 = .ok (.bipush 11, 2) := by decide +kernel
theorem dX6_slot_58 : decode cX6_slot 58 = .ok (.iload_n 2, 1) := by decide +kernel
theorem dX6_slot_59 : decode cX6_slot 59 = .ok (.iadd, 1) := by decide +kernel
theorem dX6_slot_60 : decode cX6_slot 60 = .ok (.iaload, 1) := by decide +kernel
theorem dX6_slot_61 : decode cX6_slot 61 = .ok (.iadd, 1) := by decide +kernel
theorem dX6_slot_62 : decode cX6_slot 62 = .ok (.iconst 1, 1) := by decide +kernel
theorem dX6_slot_63 : decode cX6_slot 63 = .ok (.isub, 1) := by decide +kernel
theorem dX6_slot_64 : decode cX6_slot 64 = .ok (.i2l, 1) := by decide +kernel
theorem dX6_slot_65 : decode cX6_slot 65 = .ok (.invokestatic 70, 3) := by decide +kernel
theorem dX6_slot_68 : decode cX6_slot 68 = .ok (.ifCond .eq 5, 3) := by decide +kernel
theorem dX6_slot_71 : decode cX6_slot 71 = .ok (.iload_n 2, 1) := by decide +kernel
theorem dX6_slot_72 : decode cX6_slot 72 = .ok (.ireturn, 1) := by decide +kernel
theorem dX6_slot_73 : decode cX6_slot 73 = .ok (.iinc 2 1, 3) := by decide +kernel
theorem dX6_slot_76 : decode cX6_slot 76 = .ok (.goto (-64), 3) := by decide +kernel
theorem dX6_slot_79 : decode cX6_slot 79 = .ok (.bipush (-4), 2) := by decide +kernel
theorem dX6_slot_81 : decode cX6_slot 81 = .ok (.ireturn, 1) := by decide +kernel
theorem dX6_note_0 : decode cX6_note 0 = .ok (.aload_n 0, 1) := by decide +kernel
theorem dX6_note_1 : decode cX6_note 1 = .ok (.getfield 117, 3) := by decide +kernel
theorem dX6_note_4 : decode cX6_note 4 = .ok (.bipush 8, 2) := by decide +kernel
theorem dX6_note_6 : decode cX6_note 6 = .ok (.if_icmp .ne 42, 3) := by decide +kernel
theorem dX6_note_9 : decode cX6_note 9 = .ok (.iconst 0, 1) := by decide +kernel
theorem dX6_note_10 : decode cX6_note 10 = .ok (.istore_n 1, 1) := by decide +kernel
theorem dX6_note_11 : decode cX6_note 11 = .ok (.iload_n 1, 1) := by decide +kernel
theorem dX6_note_12 : decode cX6_note 12 = .ok (.bipush 112, 2) := by decide +kernel
theorem dX6_note_14 : decode cX6_note 14 = .ok (.if_icmp .ge 24, 3) := by decide +kernel
theorem dX6_note_17 : decode cX6_note 17 = .ok (.aload_n 0, 1) := by decide +kernel
theorem dX6_note_18 : decode cX6_note 18 = .ok (.getfield 25, 3) := by decide +kernel
theorem dX6_note_21 : decode cX6_note 21 = .ok (.iload_n 1, 1) := by decide +kernel
theorem dX6_note_22 : decode cX6_note 22 = .ok (.aload_n 0, 1) := by decide +kernel
theorem dX6_note_23 : decode cX6_note 23 = .ok (.getfield 25, 3) := by decide +kernel
theorem dX6_note_26 : decode cX6_note 26 = .ok (.bipush 16, 2) := by decide +kernel
theorem dX6_note_28 : decode cX6_note 28 = .ok (.iload_n 1, 1) := by decide +kernel
theorem dX6_note_29 : decode cX6_note 29 = .ok (.iadd, 1) := by decide +kernel
theorem dX6_note_30 : decode cX6_note 30 = .ok (.iaload, 1) := by decide +kernel
theorem dX6_note_31 : decode cX6_note 31 = .ok (.iastore, 1) := by decide +kernel
theorem dX6_note_32 : decode cX6_note 32 = .ok (.iinc 1 1, 3) := by decide +kernel
theorem dX6_note_35 : decode cX6_note 35 = .ok (.goto (-24), 3) := by decide +kernel
theorem dX6_note_38 : decode cX6_note 38 = .ok (.aload_n 0, 1) := by decide +kernel
theorem dX6_note_39 : decode cX6_note 39 = .ok (.dup, 1) := by decide +kernel
theorem dX6_note_40 : decode cX6_note 40 = .ok (.getfield 117, 3) := by decide +kernel
theorem dX6_note_43 : decode cX6_note 43 = .ok (.iconst 1, 1) := by decide +kernel
theorem dX6_note_44 : decode cX6_note 44 = .ok (.isub, 1) := by decide +kernel
theorem dX6_note_45 : decode cX6_note 45 = .ok (.putfield 117, 3) := by decide +kernel
theorem dX6_note_48 : decode cX6_note 48 = .ok (.iconst 0, 1) := by decide +kernel
theorem dX6_note_49 : decode cX6_note 49 = .ok (.istore_n 1, 1) := by decide +kernel
theorem dX6_note_50 : decode cX6_note 50 = .ok (.iload_n 1, 1) := by decide +kernel
theorem dX6_note_51 : decode cX6_note 51 = .ok (.bipush 16, 2) := by decide +kernel
theorem dX6_note_53 : decode cX6_note 53 = .ok (.if_icmp .ge 29, 3) := by decide +kernel
theorem dX6_note_56 : decode cX6_note 56 = .ok (.aload_n 0, 1) := by decide +kernel
theorem dX6_note_57 : decode cX6_note 57 = .ok (.getfield 25, 3) := by decide +kernel
theorem dX6_note_60 : decode cX6_note 60 = .ok (.bipush 16, 2) := by decide +kernel
theorem dX6_note_62 : decode cX6_note 62 = .ok (.aload_n 0, 1) := by decide +kernel
theorem dX6_note_63 : decode cX6_note 63 = .ok (.getfield 117, 3) := by decide +kernel
theorem dX6_note_66 : decode cX6_note 66 = .ok (.imul, 1) := by decide +kernel
theorem dX6_note_67 : decode cX6_note 67 = .ok (.iload_n 1, 1) := by decide +kernel
theorem dX6_note_68 : decode cX6_note 68 = .ok (.iadd, 1) := by decide +kernel
theorem dX6_note_69 : decode cX6_note 69 = .ok (.aload_n 0, 1) := by decide +kernel
theorem dX6_note_70 : decode cX6_note 70 = .ok (.getfield 19, 3) := by decide +kernel
theorem dX6_note_73 : decode cX6_note 73 = .ok (.iload_n 1, 1) := by decide +kernel
theorem dX6_note_74 : decode cX6_note 74 = .ok (.iaload, 1) := by decide +kernel
theorem dX6_note_75 : decode cX6_note 75 = .ok (.iastore, 1) := by decide +kernel
theorem dX6_note_76 : decode cX6_note 76 = .ok (.iinc 1 1, 3) := by decide +kernel
theorem dX6_note_79 : decode cX6_note 79 = .ok (.goto (-29), 3) := by decide +kernel
theorem dX6_note_82 : decode cX6_note 82 = .ok (.aload_n 0, 1) := by decide +kernel
theorem dX6_note_83 : decode cX6_note 83 = .ok (.dup, 1) := by decide +kernel
theorem dX6_note_84 : decode cX6_note 84 = .ok (.getfield 117, 3) := by decide +kernel
theorem dX6_note_87 : decode cX6_note 87 = .ok (.iconst 1, 1) := by decide +kernel
theorem dX6_note_88 : decode cX6_note 88 = .ok (.iadd, 1) := by decide +kernel
theorem dX6_note_89 : decode cX6_note 89 = .ok (.putfield 117, 3) := by decide +kernel
theorem dX6_note_92 : decode cX6_note 92 = .ok (.return_, 1) := by decide +kernel
theorem dX6_manyIn_0 : decode cX6_manyIn 0 = .ok (.aload_n 0, 1) := by decide +kernel
theorem dX6_manyIn_1 : decode cX6_manyIn 1 = .ok (.invokevirtual 158, 3) := by decide +kernel
theorem dX6_manyIn_4 : decode cX6_manyIn 4 = .ok (.aload_n 0, 1) := by decide +kernel
theorem dX6_manyIn_5 : decode cX6_manyIn 5 = .ok (.invokevirtual 161, 3) := by decide +kernel
theorem dX6_manyIn_8 : decode cX6_manyIn 8 = .ok (.invokestatic 164, 3) := by decide +kernel
theorem dX6_manyIn_11 : decode cX6_manyIn 11 = .ok (.ireturn, 1) := by decide +kernel
theorem dX6_putIn_0 : decode cX6_putIn 0 = .ok (.aload_n 0, 1) := by decide +kernel
theorem dX6_putIn_1 : decode cX6_putIn 1 = .ok (.iload_n 1, 1) := by decide +kernel
theorem dX6_putIn_2 : decode cX6_putIn 2 = .ok (.invokevirtual 150, 3) := by decide +kernel
theorem dX6_putIn_5 : decode cX6_putIn 5 = .ok (.ifCond .eq 21, 3) := by decide +kernel
theorem dX6_putIn_8 : decode cX6_putIn 8 = .ok (.aload_n 0, 1) := by decide +kernel
theorem dX6_putIn_9 : decode cX6_putIn 9 = .ok (.iload_n 2, 1) := by decide +kernel
theorem dX6_putIn_10 : decode cX6_putIn 10 = .ok (.invokevirtual 155, 3) := by decide +kernel
theorem dX6_putIn_13 : decode cX6_putIn 13 = .ok (.ifCond .eq 13, 3) := by decide +kernel
theorem dX6_putIn_16 : decode cX6_putIn 16 = .ok (.iload_n 3, 1) := by decide +kernel
theorem dX6_putIn_17 : decode cX6_putIn 17 = .ok (.i2l, 1) := by decide +kernel
theorem dX6_putIn_18 : decode cX6_putIn 18 = .ok (.lconst 0, 1) := by decide +kernel
theorem dX6_putIn_19 : decode cX6_putIn 19 = .ok (.lconst 1, 1) := by decide +kernel
theorem dX6_putIn_20 : decode cX6_putIn 20 = .ok (.invokestatic 70, 3) := by decide +kernel
theorem dX6_putIn_23 : decode cX6_putIn 23 = .ok (.ifCond .ne 5, 3) := by decide +kernel
theorem dX6_putIn_26 : decode cX6_putIn 26 = .ok (.iconst (-1), 1) := by decide +kernel
theorem dX6_putIn_27 : decode cX6_putIn 27 = .ok (.ireturn, 1) := by decide +kernel
theorem dX6_putIn_28 : decode cX6_putIn 28 = .ok (.aload_n 0, 1) := by decide +kernel
theorem dX6_putIn_29 : decode cX6_putIn 29 = .ok (.invokevirtual 158, 3) := by decide +kernel
theorem dX6_putIn_32 : decode cX6_putIn 32 = .ok (.aload_n 0, 1) := by decide +kernel
theorem dX6_putIn_33 : decode cX6_putIn 33 = .ok (.getfield 37, 3) := by decide +kernel
theorem dX6_putIn_36 : decode cX6_putIn 36 = .ok (.iload_n 1, 1) := by decide +kernel
theorem dX6_putIn_37 : decode cX6_putIn 37 = .ok (.iaload, 1) := by decide +kernel
theorem dX6_putIn_38 : decode cX6_putIn 38 = .ok (.ifCond .ge 25, 3) := by decide +kernel
theorem dX6_putIn_41 : decode cX6_putIn 41 = .ok (.aload_n 0, 1) := by decide +kernel
theorem dX6_putIn_42 : decode cX6_putIn 42 = .ok (.getfield 19, 3) := by decide +kernel
theorem dX6_putIn_45 : decode cX6_putIn 45 = .ok (.iconst 1, 1) := by decide +kernel
theorem dX6_putIn_46 : decode cX6_putIn 46 = .ok (.iaload, 1) := by decide +kernel
theorem dX6_putIn_47 : decode cX6_putIn 47 = .ok (.iload_n 1, 1) := by decide +kernel
theorem dX6_putIn_48 : decode cX6_putIn 48 = .ok (.invokestatic 167, 3) := by decide +kernel
theorem dX6_putIn_51 : decode cX6_putIn 51 = .ok (.ifCond .ne 12, 3) := by decide +kernel
theorem dX6_putIn_54 : decode cX6_putIn 54 = .ok (.aload_n 0, 1) := by decide +kernel
theorem dX6_putIn_55 : decode cX6_putIn 55 = .ok (.iload_n 1, 1) := by decide +kernel
theorem dX6_putIn_56 : decode cX6_putIn 56 = .ok (.iload_n 2, 1) := by decide +kernel
theorem dX6_putIn_57 : decode cX6_putIn 57 = .ok (.invokevirtual 170, 3) := by decide +kernel
theorem dX6_putIn_60 : decode cX6_putIn 60 = .ok (.ifCond .ne 6, 3) := by decide +kernel
theorem dX6_putIn_63 : decode cX6_putIn 63 = .ok (.bipush (-2), 2) := by decide +kernel
theorem dX6_putIn_65 : decode cX6_putIn 65 = .ok (.ireturn, 1) := by decide +kernel
theorem dX6_putIn_66 : decode cX6_putIn 66 = .ok (.aload_n 0, 1) := by decide +kernel
theorem dX6_putIn_67 : decode cX6_putIn 67 = .ok (.invokevirtual 173, 3) := by decide +kernel
theorem dX6_putIn_70 : decode cX6_putIn 70 = .ok (.aload_n 0, 1) := by decide +kernel
theorem dX6_putIn_71 : decode cX6_putIn 71 = .ok (.getfield 19, 3) := by decide +kernel
theorem dX6_putIn_74 : decode cX6_putIn 74 = .ok (.iconst 2, 1) := by decide +kernel
theorem dX6_putIn_75 : decode cX6_putIn 75 = .ok (.iload_n 1, 1) := by decide +kernel
theorem dX6_putIn_76 : decode cX6_putIn 76 = .ok (.iadd, 1) := by decide +kernel
theorem dX6_putIn_77 : decode cX6_putIn 77 = .ok (.iload_n 2, 1) := by decide +kernel
theorem dX6_putIn_78 : decode cX6_putIn 78 = .ok (.iastore, 1) := by decide +kernel
theorem dX6_putIn_79 : decode cX6_putIn 79 = .ok (.aload_n 0, 1) := by decide +kernel
theorem dX6_putIn_80 : decode cX6_putIn 80 = .ok (.getfield 19, 3) := by decide +kernel
theorem dX6_putIn_83 : decode cX6_putIn 83 = .ok (.bipush 9, 2) := by decide +kernel
theorem dX6_putIn_85 : decode cX6_putIn 85 = .ok (.iload_n 1, 1) := by decide +kernel
theorem dX6_putIn_86 : decode cX6_putIn 86 = .ok (.iadd, 1) := by decide +kernel
theorem dX6_putIn_87 : decode cX6_putIn 87 = .ok (.iload_n 3, 1) := by decide +kernel
theorem dX6_putIn_88 : decode cX6_putIn 88 = .ok (.iastore, 1) := by decide +kernel
theorem dX6_putIn_89 : decode cX6_putIn 89 = .ok (.aload_n 0, 1) := by decide +kernel
theorem dX6_putIn_90 : decode cX6_putIn 90 = .ok (.invokevirtual 176, 3) := by decide +kernel
theorem dX6_putIn_93 : decode cX6_putIn 93 = .ok (.ireturn, 1) := by decide +kernel
theorem dX6_turn_0 : decode cX6_turn 0 = .ok (.aload_n 0, 1) := by decide +kernel
theorem dX6_turn_1 : decode cX6_turn 1 = .ok (.iload_n 1, 1) := by decide +kernel
theorem dX6_turn_2 : decode cX6_turn 2 = .ok (.invokevirtual 150, 3) := by decide +kernel
theorem dX6_turn_5 : decode cX6_turn 5 = .ok (.ifCond .ne 5, 3) := by decide +kernel
theorem dX6_turn_8 : decode cX6_turn 8 = .ok (.iconst (-1), 1) := by decide +kernel
theorem dX6_turn_9 : decode cX6_turn 9 = .ok (.ireturn, 1) := by decide +kernel
theorem dX6_turn_10 : decode cX6_turn 10 = .ok (.aload_n 0, 1) := by decide +kernel
theorem dX6_turn_11 : decode cX6_turn 11 = .ok (.getfield 19, 3) := by decide +kernel
theorem dX6_turn_14 : decode cX6_turn 14 = .ok (.iconst 2, 1) := by decide +kernel
theorem dX6_turn_15 : decode cX6_turn 15 = .ok (.iload_n 1, 1) := by decide +kernel
theorem dX6_turn_16 : decode cX6_turn 16 = .ok (.iadd, 1) := by decide +kernel
theorem dX6_turn_17 : decode cX6_turn 17 = .ok (.iaload, 1) := by decide +kernel
theorem dX6_turn_18 : decode cX6_turn 18 = .ok (.ifCond .ge 6, 3) := by decide +kernel
theorem dX6_turn_21 : decode cX6_turn 21 = .ok (.bipush (-2), 2) := by decide +kernel
theorem dX6_turn_23 : decode cX6_turn 23 = .ok (.ireturn, 1) := by decide +kernel
theorem dX6_turn_24 : decode cX6_turn 24 = .ok (.aload_n 0, 1) := by decide +kernel
theorem dX6_turn_25 : decode cX6_turn 25 = .ok (.invokevirtual 173, 3) := by decide +kernel
theorem dX6_turn_28 : decode cX6_turn 28 = .ok (.aload_n 0, 1) := by decide +kernel
theorem dX6_turn_29 : decode cX6_turn 29 = .ok (.getfield 19, 3) := by decide +kernel
theorem dX6_turn_32 : decode cX6_turn 32 = .ok (.bipush 9, 2) := by decide +kernel
theorem dX6_turn_34 : decode cX6_turn 34 = .ok (.iload_n 1, 1) := by decide +kernel
theorem dX6_turn_35 : decode cX6_turn 35 = .ok (.iadd, 1) := by decide +kernel
theorem dX6_turn_36 : decode cX6_turn 36 = .ok (.iconst 1, 1) := by decide +kernel
theorem dX6_turn_37 : decode cX6_turn 37 = .ok (.aload_n 0, 1) := by decide +kernel
theorem dX6_turn_38 : decode cX6_turn 38 = .ok (.getfield 19, 3) := by decide +kernel
theorem dX6_turn_41 : decode cX6_turn 41 = .ok (.bipush 9, 2) := by decide +kernel
theorem dX6_turn_43 : decode cX6_turn 43 = .ok (.iload_n 1, 1) := by decide +kernel
theorem dX6_turn_44 : decode cX6_turn 44 = .ok (.iadd, 1) := by decide +kernel
theorem dX6_turn_45 : decode cX6_turn 45 = .ok (.iaload, 1) := by decide +kernel
theorem dX6_turn_46 : decode cX6_turn 46 = .ok (.isub, 1) := by decide +kernel
theorem dX6_turn_47 : decode cX6_turn 47 = .ok (.iastore, 1) := by decide +kernel
theorem dX6_turn_48 : decode cX6_turn 48 = .ok (.aload_n 0, 1) := by decide +kernel
theorem dX6_turn_49 : decode cX6_turn 49 = .ok (.getfield 19, 3) := by decide +kernel
theorem dX6_turn_52 : decode cX6_turn 52 = .ok (.bipush 9, 2) := by decide +kernel
theorem dX6_turn_54 : decode cX6_turn 54 = .ok (.iload_n 1, 1) := by decide +kernel
theorem dX6_turn_55 : decode cX6_turn 55 = .ok (.iadd, 1) := by decide +kernel
theorem dX6_turn_56 : decode cX6_turn 56 = .ok (.iaload, 1) := by decide +kernel
theorem dX6_turn_57 : decode cX6_turn 57 = .ok (.ireturn, 1) := by decide +kernel
theorem dX6_away_0 : decode cX6_away 0 = .ok (.aload_n 0, 1) := by decide +kernel
theorem dX6_away_1 : decode cX6_away 1 = .ok (.getfield 19, 3) := by decide +kernel
theorem dX6_away_4 : decode cX6_away 4 = .ok (.iconst 2, 1) := by decide +kernel
theorem dX6_away_5 : decode cX6_away 5 = .ok (.iload_n 1, 1) := by decide +kernel
theorem dX6_away_6 : decode cX6_away 6 = .ok (.iadd, 1) := by decide +kernel
theorem dX6_away_7 : decode cX6_away 7 = .ok (.bipush (-4), 2) := by decide +kernel
theorem dX6_away_9 : decode cX6_away 9 = .ok (.iastore, 1) := by decide +kernel
theorem dX6_away_10 : decode cX6_away 10 = .ok (.aload_n 0, 1) := by decide +kernel
theorem dX6_away_11 : decode cX6_away 11 = .ok (.getfield 19, 3) := by decide +kernel
theorem dX6_away_14 : decode cX6_away 14 = .ok (.bipush 9, 2) := by decide +kernel
theorem dX6_away_16 : decode cX6_away 16 = .ok (.iload_n 1, 1) := by decide +kernel
theorem dX6_away_17 : decode cX6_away 17 = .ok (.iadd, 1) := by decide +kernel
theorem dX6_away_18 : decode cX6_away 18 = .ok (.bipush (-4), 2) := by decide +kernel
theorem dX6_away_20 : decode cX6_away 20 = .ok (.iastore, 1) := by decide +kernel
theorem dX6_away_21 : decode cX6_away 21 = .ok (.return_, 1) := by decide +kernel
theorem dX6_takeOut_0 : decode cX6_takeOut 0 = .ok (.aload_n 0, 1) := by decide +kernel
theorem dX6_takeOut_1 : decode cX6_takeOut 1 = .ok (.iload_n 1, 1) := by decide +kernel
theorem dX6_takeOut_2 : decode cX6_takeOut 2 = .ok (.invokevirtual 150, 3) := by decide +kernel
theorem dX6_takeOut_5 : decode cX6_takeOut 5 = .ok (.ifCond .ne 5, 3) := by decide +kernel
theorem dX6_takeOut_8 : decode cX6_takeOut 8 = .ok (.iconst (-1), 1) := by decide +kernel
theorem dX6_takeOut_9 : decode cX6_takeOut 9 = .ok (.ireturn, 1) := by decide +kernel
theorem dX6_takeOut_10 : decode cX6_takeOut 10 = .ok (.aload_n 0, 1) := by decide +kernel
theorem dX6_takeOut_11 : decode cX6_takeOut 11 = .ok (.getfield 19, 3) := by decide +kernel
theorem dX6_takeOut_14 : decode cX6_takeOut 14 = .ok (.iconst 2, 1) := by decide +kernel
theorem dX6_takeOut_15 : decode cX6_takeOut 15 = .ok (.iload_n 1, 1) := by decide +kernel
theorem dX6_takeOut_16 : decode cX6_takeOut 16 = .ok (.iadd, 1) := by decide +kernel
theorem dX6_takeOut_17 : decode cX6_takeOut 17 = .ok (.iaload, 1) := by decide +kernel
theorem dX6_takeOut_18 : decode cX6_takeOut 18 = .ok (.ifCond .ge 6, 3) := by decide +kernel
theorem dX6_takeOut_21 : decode cX6_takeOut 21 = .ok (.bipush (-2), 2) := by decide +kernel
theorem dX6_takeOut_23 : decode cX6_takeOut 23 = .ok (.ireturn, 1) := by decide +kernel
theorem dX6_takeOut_24 : decode cX6_takeOut 24 = .ok (.aload_n 0, 1) := by decide +kernel
theorem dX6_takeOut_25 : decode cX6_takeOut 25 = .ok (.invokevirtual 173, 3) := by decide +kernel
theorem dX6_takeOut_28 : decode cX6_takeOut 28 = .ok (.aload_n 0, 1) := by decide +kernel
theorem dX6_takeOut_29 : decode cX6_takeOut 29 = .ok (.iload_n 1, 1) := by decide +kernel
theorem dX6_takeOut_30 : decode cX6_takeOut 30 = .ok (.invokevirtual 179, 3) := by decide +kernel
theorem dX6_takeOut_33 : decode cX6_takeOut 33 = .ok (.aload_n 0, 1) := by decide +kernel
theorem dX6_takeOut_34 : decode cX6_takeOut 34 = .ok (.invokevirtual 176, 3) := by decide +kernel
theorem dX6_takeOut_37 : decode cX6_takeOut 37 = .ok (.ireturn, 1) := by decide +kernel
theorem dX6_wash_0 : decode cX6_wash 0 = .ok (.aload_n 0, 1) := by decide +kernel
theorem dX6_wash_1 : decode cX6_wash 1 = .ok (.iload_n 1, 1) := by decide +kernel
theorem dX6_wash_2 : decode cX6_wash 2 = .ok (.invokevirtual 150, 3) := by decide +kernel
theorem dX6_wash_5 : decode cX6_wash 5 = .ok (.ifCond .ne 5, 3) := by decide +kernel
theorem dX6_wash_8 : decode cX6_wash 8 = .ok (.iconst (-1), 1) := by decide +kernel
theorem dX6_wash_9 : decode cX6_wash 9 = .ok (.ireturn, 1) := by decide +kernel
theorem dX6_wash_10 : decode cX6_wash 10 = .ok (.aload_n 0, 1) := by decide +kernel
theorem dX6_wash_11 : decode cX6_wash 11 = .ok (.getfield 19, 3) := by decide +kernel
theorem dX6_wash_14 : decode cX6_wash 14 = .ok (.iconst 1, 1) := by decide +kernel
theorem dX6_wash_15 : decode cX6_wash 15 = .ok (.iaload, 1) := by decide +kernel
theorem dX6_wash_16 : decode cX6_wash 16 = .ok (.iload_n 1, 1) := by decide +kernel
theorem dX6_wash_17 : decode cX6_wash 17 = .ok (.invokestatic 167, 3) := by decide +kernel
theorem dX6_wash_20 : decode cX6_wash 20 = .ok (.ifCond .eq 6, 3) := by decide +kernel
theorem dX6_wash_23 : decode cX6_wash 23 = .ok (.bipush (-2), 2) := by decide +kernel
theorem dX6_wash_25 : decode cX6_wash 25 = .ok (.ireturn, 1) := by decide +kernel
theorem dX6_wash_26 : decode cX6_wash 26 = .ok (.aload_n 0, 1) := by decide +kernel
theorem dX6_wash_27 : decode cX6_wash 27 = .ok (.invokevirtual 173, 3) := by decide +kernel
theorem dX6_wash_30 : decode cX6_wash 30 = .ok (.aload_n 0, 1) := by decide +kernel
theorem dX6_wash_31 : decode cX6_wash 31 = .ok (.iload_n 1, 1) := by decide +kernel
theorem dX6_wash_32 : decode cX6_wash 32 = .ok (.invokevirtual 179, 3) := by decide +kernel
theorem dX6_wash_35 : decode cX6_wash 35 = .ok (.aload_n 0, 1) := by decide +kernel
theorem dX6_wash_36 : decode cX6_wash 36 = .ok (.getfield 19, 3) := by decide +kernel
theorem dX6_wash_39 : decode cX6_wash 39 = .ok (.iconst 1, 1) := by decide +kernel
theorem dX6_wash_40 : decode cX6_wash 40 = .ok (.dup2, 1) := by decide +kernel
theorem dX6_wash_41 : decode cX6_wash 41 = .ok (.iaload, 1) := by decide +kernel
theorem dX6_wash_42 : decode cX6_wash 42 = .ok (.iconst 1, 1) := by decide +kernel
theorem dX6_wash_43 : decode cX6_wash 43 = .ok (.iload_n 1, 1) := by decide +kernel
theorem dX6_wash_44 : decode cX6_wash 44 = .ok (.ishl, 1) := by decide +kernel
theorem dX6_wash_45 : decode cX6_wash 45 = .ok (.ior, 1) := by decide +kernel
theorem dX6_wash_46 : decode cX6_wash 46 = .ok (.iastore, 1) := by decide +kernel
theorem dX6_wash_47 : decode cX6_wash 47 = .ok (.aload_n 0, 1) := by decide +kernel
theorem dX6_wash_48 : decode cX6_wash 48 = .ok (.getfield 19, 3) := by decide +kernel
theorem dX6_wash_51 : decode cX6_wash 51 = .ok (.iconst 1, 1) := by decide +kernel
theorem dX6_wash_52 : decode cX6_wash 52 = .ok (.iaload, 1) := by decide +kernel
theorem dX6_wash_53 : decode cX6_wash 53 = .ok (.invokestatic 164, 3) := by decide +kernel
theorem dX6_wash_56 : decode cX6_wash 56 = .ok (.ireturn, 1) := by decide +kernel
theorem dX6_water_0 : decode cX6_water 0 = .ok (.iload_n 1, 1) := by decide +kernel
theorem dX6_water_1 : decode cX6_water 1 = .ok (.i2l, 1) := by decide +kernel
theorem dX6_water_2 : decode cX6_water 2 = .ok (.lconst 1, 1) := by decide +kernel
theorem dX6_water_3 : decode cX6_water 3 = .ok (.ldc2_w 97, 3) := by decide +kernel
theorem dX6_water_6 : decode cX6_water 6 = .ok (.invokestatic 70, 3) := by decide +kernel
theorem dX6_water_9 : decode cX6_water 9 = .ok (.ifCond .ne 5, 3) := by decide +kernel
theorem dX6_water_12 : decode cX6_water 12 = .ok (.iconst (-1), 1) := by decide +kernel
theorem dX6_water_13 : decode cX6_water 13 = .ok (.ireturn, 1) := by decide +kernel
theorem dX6_water_14 : decode cX6_water 14 = .ok (.aload_n 0, 1) := by decide +kernel
theorem dX6_water_15 : decode cX6_water 15 = .ok (.invokevirtual 173, 3) := by decide +kernel
theorem dX6_water_18 : decode cX6_water 18 = .ok (.aload_n 0, 1) := by decide +kernel
theorem dX6_water_19 : decode cX6_water 19 = .ok (.getfield 19, 3) := by decide +kernel
theorem dX6_water_22 : decode cX6_water 22 = .ok (.iconst 0, 1) := by decide +kernel
theorem dX6_water_23 : decode cX6_water 23 = .ok (.iaload, 1) := by decide +kernel
theorem dX6_water_24 : decode cX6_water 24 = .ok (.istore_n 2, 1) := by decide +kernel
theorem dX6_water_25 : decode cX6_water 25 = .ok (.aload_n 0, 1) := by decide +kernel
theorem dX6_water_26 : decode cX6_water 26 = .ok (.getfield 19, 3) := by decide +kernel
theorem dX6_water_29 : decode cX6_water 29 = .ok (.iconst 0, 1) := by decide +kernel
theorem dX6_water_30 : decode cX6_water 30 = .ok (.iload_n 1, 1) := by decide +kernel
theorem dX6_water_31 : decode cX6_water 31 = .ok (.iastore, 1) := by decide +kernel
theorem dX6_water_32 : decode cX6_water 32 = .ok (.iload_n 2, 1) := by decide +kernel
theorem dX6_water_33 : decode cX6_water 33 = .ok (.ireturn, 1) := by decide +kernel
theorem dX6_undo_0 : decode cX6_undo 0 = .ok (.aload_n 0, 1) := by decide +kernel
theorem dX6_undo_1 : decode cX6_undo 1 = .ok (.getfield 117, 3) := by decide +kernel
theorem dX6_undo_4 : decode cX6_undo 4 = .ok (.ifCond .ne 6, 3) := by decide +kernel
theorem dX6_undo_7 : decode cX6_undo 7 = .ok (.bipush (-2), 2) := by decide +kernel
theorem dX6_undo_9 : decode cX6_undo 9 = .ok (.ireturn, 1) := by decide +kernel
theorem dX6_undo_10 : decode cX6_undo 10 = .ok (.aload_n 0, 1) := by decide +kernel
theorem dX6_undo_11 : decode cX6_undo 11 = .ok (.dup, 1) := by decide +kernel
theorem dX6_undo_12 : decode cX6_undo 12 = .ok (.getfield 117, 3) := by decide +kernel
theorem dX6_undo_15 : decode cX6_undo 15 = .ok (.iconst 1, 1) := by decide +kernel
theorem dX6_undo_16 : decode cX6_undo 16 = .ok (.isub, 1) := by decide +kernel
theorem dX6_undo_17 : decode cX6_undo 17 = .ok (.putfield 117, 3) := by decide +kernel
theorem dX6_undo_20 : decode cX6_undo 20 = .ok (.iconst 0, 1) := by decide +kernel
theorem dX6_undo_21 : decode cX6_undo 21 = .ok (.istore_n 1, 1) := by decide +kernel
theorem dX6_undo_22 : decode cX6_undo 22 = .ok (.iload_n 1, 1) := by decide +kernel
theorem dX6_undo_23 : decode cX6_undo 23 = .ok (.bipush 16, 2) := by decide +kernel
theorem dX6_undo_25 : decode cX6_undo 25 = .ok (.if_icmp .ge 29, 3) := by decide +kernel
theorem dX6_undo_28 : decode cX6_undo 28 = .ok (.aload_n 0, 1) := by decide +kernel
theorem dX6_undo_29 : decode cX6_undo 29 = .ok (.getfield 19, 3) := by decide +kernel
theorem dX6_undo_32 : decode cX6_undo 32 = .ok (.iload_n 1, 1) := by decide +kernel
theorem dX6_undo_33 : decode cX6_undo 33 = .ok (.aload_n 0, 1) := by decide +kernel
theorem dX6_undo_34 : decode cX6_undo 34 = .ok (.getfield 25, 3) := by decide +kernel
theorem dX6_undo_37 : decode cX6_undo 37 = .ok (.bipush 16, 2) := by decide +kernel
theorem dX6_undo_39 : decode cX6_undo 39 = .ok (.aload_n 0, 1) := by decide +kernel
theorem dX6_undo_40 : decode cX6_undo 40 = .ok (.getfield 117, 3) := by decide +kernel
theorem dX6_undo_43 : decode cX6_undo 43 = .ok (.imul, 1) := by decide +kernel
theorem dX6_undo_44 : decode cX6_undo 44 = .ok (.iload_n 1, 1) := by decide +kernel
theorem dX6_undo_45 : decode cX6_undo 45 = .ok (.iadd, 1) := by decide +kernel
theorem dX6_undo_46 : decode cX6_undo 46 = .ok (.iaload, 1) := by decide +kernel
theorem dX6_undo_47 : decode cX6_undo 47 = .ok (.iastore, 1) := by decide +kernel
theorem dX6_undo_48 : decode cX6_undo 48 = .ok (.iinc 1 1, 3) := by decide +kernel
theorem dX6_undo_51 : decode cX6_undo 51 = .ok (.goto (-29), 3) := by decide +kernel
theorem dX6_undo_54 : decode cX6_undo 54 = .ok (.aload_n 0, 1) := by decide +kernel
theorem dX6_undo_55 : decode cX6_undo 55 = .ok (.getfield 117, 3) := by decide +kernel
theorem dX6_undo_58 : decode cX6_undo 58 = .ok (.ireturn, 1) := by decide +kernel
theorem dX6_stands_0 : decode cX6_stands 0 = .ok (.aload_n 0, 1) := by decide +kernel
theorem dX6_stands_1 : decode cX6_stands 1 = .ok (.iload_n 1, 1) := by decide +kernel
theorem dX6_stands_2 : decode cX6_stands 2 = .ok (.invokevirtual 150, 3) := by decide +kernel
theorem dX6_stands_5 : decode cX6_stands 5 = .ok (.ifCond .eq 15, 3) := by decide +kernel
theorem dX6_stands_8 : decode cX6_stands 8 = .ok (.iload_n 2, 1) := by decide +kernel
theorem dX6_stands_9 : decode cX6_stands 9 = .ok (.i2l, 1) := by decide +kernel
theorem dX6_stands_10 : decode cX6_stands 10 = .ok (.lconst 0, 1) := by decide +kernel
theorem dX6_stands_11 : decode cX6_stands 11 = .ok (.ldc2_w 99, 3) := by decide +kernel
theorem dX6_stands_14 : decode cX6_stands 14 = .ok (.invokestatic 70, 3) := by decide +kernel
theorem dX6_stands_17 : decode cX6_stands 17 = .ok (.ifCond .ne 5, 3) := by decide +kernel
theorem dX6_stands_20 : decode cX6_stands 20 = .ok (.iconst (-1), 1) := by decide +kernel
theorem dX6_stands_21 : decode cX6_stands 21 = .ok (.ireturn, 1) := by decide +kernel
theorem dX6_stands_22 : decode cX6_stands 22 = .ok (.aload_n 0, 1) := by decide +kernel
theorem dX6_stands_23 : decode cX6_stands 23 = .ok (.invokevirtual 158, 3) := by decide +kernel
theorem dX6_stands_26 : decode cX6_stands 26 = .ok (.aload_n 0, 1) := by decide +kernel
theorem dX6_stands_27 : decode cX6_stands 27 = .ok (.getfield 37, 3) := by decide +kernel
theorem dX6_stands_30 : decode cX6_stands 30 = .ok (.iload_n 1, 1) := by decide +kernel
theorem dX6_stands_31 : decode cX6_stands 31 = .ok (.iaload, 1) := by decide +kernel
theorem dX6_stands_32 : decode cX6_stands 32 = .ok (.ifCond .ge 6, 3) := by decide +kernel
theorem dX6_stands_35 : decode cX6_stands 35 = .ok (.bipush (-2), 2) := by decide +kernel
theorem dX6_stands_37 : decode cX6_stands 37 = .ok (.ireturn, 1) := by decide +kernel
theorem dX6_stands_38 : decode cX6_stands 38 = .ok (.iload_n 2, 1) := by decide +kernel
theorem dX6_stands_39 : decode cX6_stands 39 = .ok (.iconst 1, 1) := by decide +kernel
theorem dX6_stands_40 : decode cX6_stands 40 = .ok (.if_icmp .ne 11, 3) := by decide +kernel
theorem dX6_stands_43 : decode cX6_stands 43 = .ok (.aload_n 0, 1) := by decide +kernel
theorem dX6_stands_44 : decode cX6_stands 44 = .ok (.iload_n 1, 1) := by decide +kernel
theorem dX6_stands_45 : decode cX6_stands 45 = .ok (.invokevirtual 134, 3) := by decide +kernel
theorem dX6_stands_48 : decode cX6_stands 48 = .ok (.goto 27, 3) := by decide +kernel
theorem dX6_stands_51 : decode cX6_stands 51 = .ok (.iload_n 2, 1) := by decide +kernel
theorem dX6_stands_52 : decode cX6_stands 52 = .ok (.iconst 2, 1) := by decide +kernel
theorem dX6_stands_53 : decode cX6_stands 53 = .ok (.if_icmp .ne 11, 3) := by decide +kernel
theorem dX6_stands_56 : decode cX6_stands 56 = .ok (.aload_n 0, 1) := by decide +kernel
theorem dX6_stands_57 : decode cX6_stands 57 = .ok (.iload_n 1, 1) := by decide +kernel
theorem dX6_stands_58 : decode cX6_stands 58 = .ok (.invokevirtual 131, 3) := by decide +kernel
theorem dX6_stands_61 : decode cX6_stands 61 = .ok (.goto 14, 3) := by decide +kernel
theorem dX6_stands_64 : decode cX6_stands 64 = .ok (.aload_n 0, 1) := by decide +kernel
theorem dX6_stands_65 : decode cX6_stands 65 = .ok (.iload_n 1, 1) := by decide +kernel
theorem dX6_stands_66 : decode cX6_stands 66 = .ok (.aload_n 0, 1) := by decide +kernel
theorem dX6_stands_67 : decode cX6_stands 67 = .ok (.getfield 19, 3) := by decide +kernel
theorem dX6_stands_70 : decode cX6_stands 70 = .ok (.iconst 0, 1) := by decide +kernel
theorem dX6_stands_71 : decode cX6_stands 71 = .ok (.iaload, 1) := by decide +kernel
theorem dX6_stands_72 : decode cX6_stands 72 = .ok (.invokevirtual 146, 3) := by decide +kernel
theorem dX6_stands_75 : decode cX6_stands 75 = .ok (.istore_n 3, 1) := by decide +kernel
theorem dX6_stands_76 : decode cX6_stands 76 = .ok (.iload_n 2, 1) := by decide +kernel
theorem dX6_stands_77 : decode cX6_stands 77 = .ok (.ifCond .ne 11, 3) := by decide +kernel
theorem dX6_stands_80 : decode cX6_stands 80 = .ok (.aload_n 0, 1) := by decide +kernel
theorem dX6_stands_81 : decode cX6_stands 81 = .ok (.iload_n 1, 1) := by decide +kernel
theorem dX6_stands_82 : decode cX6_stands 82 = .ok (.invokevirtual 140, 3) := by decide +kernel
theorem dX6_stands_85 : decode cX6_stands 85 = .ok (.goto 12, 3) := by decide +kernel
theorem dX6_stands_88 : decode cX6_stands 88 = .ok (.iload_n 3, 1) := by decide +kernel
theorem dX6_stands_89 : decode cX6_stands 89 = .ok (.ifCond .eq 7, 3) := by decide +kernel
theorem dX6_stands_92 : decode cX6_stands 92 = .ok (.iconst 1, 1) := by decide +kernel
theorem dX6_stands_93 : decode cX6_stands 93 = .ok (.goto 4, 3) := by decide +kernel
theorem dX6_stands_96 : decode cX6_stands 96 = .ok (.iconst 0, 1) := by decide +kernel
theorem dX6_stands_97 : decode cX6_stands 97 = .ok (.ireturn, 1) := by decide +kernel
theorem dX6_clean_0 : decode cX6_clean 0 = .ok (.aload_n 0, 1) := by decide +kernel
theorem dX6_clean_1 : decode cX6_clean 1 = .ok (.invokevirtual 158, 3) := by decide +kernel
theorem dX6_clean_4 : decode cX6_clean 4 = .ok (.aload_n 0, 1) := by decide +kernel
theorem dX6_clean_5 : decode cX6_clean 5 = .ok (.aload_n 0, 1) := by decide +kernel
theorem dX6_clean_6 : decode cX6_clean 6 = .ok (.getfield 19, 3) := by decide +kernel
theorem dX6_clean_9 : decode cX6_clean 9 = .ok (.iconst 0, 1) := by decide +kernel
theorem dX6_clean_10 : decode cX6_clean 10 = .ok (.iaload, 1) := by decide +kernel
theorem dX6_clean_11 : decode cX6_clean 11 = .ok (.invokevirtual 182, 3) := by decide +kernel
theorem dX6_clean_14 : decode cX6_clean 14 = .ok (.ireturn, 1) := by decide +kernel
theorem dX6_pooled_0 : decode cX6_pooled 0 = .ok (.aload_n 0, 1) := by decide +kernel
theorem dX6_pooled_1 : decode cX6_pooled 1 = .ok (.invokevirtual 158, 3) := by decide +kernel
theorem dX6_pooled_4 : decode cX6_pooled 4 = .ok (.iconst 0, 1) := by decide +kernel
theorem dX6_pooled_5 : decode cX6_pooled 5 = .ok (.istore_n 1, 1) := by decide +kernel
theorem dX6_pooled_6 : decode cX6_pooled 6 = .ok (.iconst 0, 1) := by decide +kernel
theorem dX6_pooled_7 : decode cX6_pooled 7 = .ok (.istore_n 2, 1) := by decide +kernel
theorem dX6_pooled_8 : decode cX6_pooled 8 = .ok (.iload_n 2, 1) := by decide +kernel
theorem dX6_pooled_9 : decode cX6_pooled 9 = .ok (.aload_n 0, 1) := by decide +kernel
theorem dX6_pooled_10 : decode cX6_pooled 10 = .ok (.getfield 13, 3) := by decide +kernel
theorem dX6_pooled_13 : decode cX6_pooled 13 = .ok (.iconst 3, 1) := by decide +kernel
theorem dX6_pooled_14 : decode cX6_pooled 14 = .ok (.iaload, 1) := by decide +kernel
theorem dX6_pooled_15 : decode cX6_pooled 15 = .ok (.if_icmp .ge 48, 3) := by decide +kernel
theorem dX6_pooled_18 : decode cX6_pooled 18 = .ok (.iload_n 1, 1) := by decide +kernel
theorem dX6_pooled_19 : decode cX6_pooled 19 = .ok (.aload_n 0, 1) := by decide +kernel
theorem dX6_pooled_20 : decode cX6_pooled 20 = .ok (.getfield 13, 3) := by decide +kernel
theorem dX6_pooled_23 : decode cX6_pooled 23 = .ok (.iconst 4, 1) := by decide +kernel
theorem dX6_pooled_24 : decode cX6_pooled 24 = .ok (.iload_n 2, 1) := by decide +kernel
theorem dX6_pooled_25 : decode cX6_pooled 25 = .ok (.iadd, 1) := by decide +kernel
theorem dX6_pooled_26 : decode cX6_pooled 26 = .ok (.iaload, 1) := by decide +kernel
theorem dX6_pooled_27 : decode cX6_pooled 27 = .ok (.iconst 1, 1) := by decide +kernel
theorem dX6_pooled_28 : decode cX6_pooled 28 = .ok (.if_icmp .ne 26, 3) := by decide +kernel
theorem dX6_pooled_31 : decode cX6_pooled 31 = .ok (.aload_n 0, 1) := by decide +kernel
theorem dX6_pooled_32 : decode cX6_pooled 32 = .ok (.getfield 37, 3) := by decide +kernel
theorem dX6_pooled_35 : decode cX6_pooled 35 = .ok (.iload_n 2, 1) := by decide +kernel
theorem dX6_pooled_36 : decode cX6_pooled 36 = .ok (.iaload, 1) := by decide +kernel
theorem dX6_pooled_37 : decode cX6_pooled 37 = .ok (.ifCond .lt 17, 3) := by decide +kernel
theorem dX6_pooled_40 : decode cX6_pooled 40 = .ok (.aload_n 0, 1) := by decide +kernel
theorem dX6_pooled_41 : decode cX6_pooled 41 = .ok (.iload_n 2, 1) := by decide +kernel
theorem dX6_pooled_42 : decode cX6_pooled 42 = .ok (.invokevirtual 134, 3) := by decide +kernel
theorem dX6_pooled_45 : decode cX6_pooled 45 = .ok (.ifCond .ne 9, 3) := by decide +kernel
theorem dX6_pooled_48 : decode cX6_pooled 48 = .ok (.iconst 1, 1) := by decide +kernel
theorem dX6_pooled_49 : decode cX6_pooled 49 = .ok (.iload_n 2, 1) := by decide +kernel
theorem dX6_pooled_50 : decode cX6_pooled 50 = .ok (.ishl, 1) := by decide +kernel
theorem dX6_pooled_51 : decode cX6_pooled 51 = .ok (.goto 4, 3) := by decide +kernel
theorem dX6_pooled_54 : decode cX6_pooled 54 = .ok (.iconst 0, 1) := by decide +kernel
theorem dX6_pooled_55 : decode cX6_pooled 55 = .ok (.ior, 1) := by decide +kernel
theorem dX6_pooled_56 : decode cX6_pooled 56 = .ok (.istore_n 1, 1) := by decide +kernel
theorem dX6_pooled_57 : decode cX6_pooled 57 = .ok (.iinc 2 1, 3) := by decide +kernel
theorem dX6_pooled_60 : decode cX6_pooled 60 = .ok (.goto (-52), 3) := by decide +kernel
theorem dX6_pooled_63 : decode cX6_pooled 63 = .ok (.iload_n 1, 1) := by decide +kernel
theorem dX6_pooled_64 : decode cX6_pooled 64 = .ok (.ireturn, 1) := by decide +kernel
theorem dX6_room_0 : decode cX6_room 0 = .ok (.aload_n 0, 1) := by decide +kernel
theorem dX6_room_1 : decode cX6_room 1 = .ok (.iload_n 1, 1) := by decide +kernel
theorem dX6_room_2 : decode cX6_room 2 = .ok (.invokevirtual 150, 3) := by decide +kernel
theorem dX6_room_5 : decode cX6_room 5 = .ok (.ifCond .ne 5, 3) := by decide +kernel
theorem dX6_room_8 : decode cX6_room 8 = .ok (.iconst (-1), 1) := by decide +kernel
theorem dX6_room_9 : decode cX6_room 9 = .ok (.ireturn, 1) := by decide +kernel
theorem dX6_room_10 : decode cX6_room 10 = .ok (.aload_n 0, 1) := by decide +kernel
theorem dX6_room_11 : decode cX6_room 11 = .ok (.invokevirtual 158, 3) := by decide +kernel
theorem dX6_room_14 : decode cX6_room 14 = .ok (.aload_n 0, 1) := by decide +kernel
theorem dX6_room_15 : decode cX6_room 15 = .ok (.getfield 37, 3) := by decide +kernel
theorem dX6_room_18 : decode cX6_room 18 = .ok (.iload_n 1, 1) := by decide +kernel
theorem dX6_room_19 : decode cX6_room 19 = .ok (.iaload, 1) := by decide +kernel
theorem dX6_room_20 : decode cX6_room 20 = .ok (.ifCond .ge 16, 3) := by decide +kernel
theorem dX6_room_23 : decode cX6_room 23 = .ok (.aload_n 0, 1) := by decide +kernel
theorem dX6_room_24 : decode cX6_room 24 = .ok (.getfield 19, 3) := by decide +kernel
theorem dX6_room_27 : decode cX6_room 27 = .ok (.iconst 1, 1) := by decide +kernel
theorem dX6_room_28 : decode cX6_room 28 = .ok (.iaload, 1) := by decide +kernel
theorem dX6_room_29 : decode cX6_room 29 = .ok (.iload_n 1, 1) := by decide +kernel
theorem dX6_room_30 : decode cX6_room 30 = .ok (.invokestatic 167, 3) := by decide +kernel
theorem dX6_room_33 : decode cX6_room 33 = .ok (.ifCond .eq 6, 3) := by decide +kernel
theorem dX6_room_36 : decode cX6_room 36 = .ok (.bipush (-2), 2) := by decide +kernel
theorem dX6_room_38 : decode cX6_room 38 = .ok (.ireturn, 1) := by decide +kernel
theorem dX6_room_39 : decode cX6_room 39 = .ok (.iconst 0, 1) := by decide +kernel
theorem dX6_room_40 : decode cX6_room 40 = .ok (.istore_n 2, 1) := by decide +kernel
theorem dX6_room_41 : decode cX6_room 41 = .ok (.iconst 0, 1) := by decide +kernel
theorem dX6_room_42 : decode cX6_room 42 = .ok (.istore_n 3, 1) := by decide +kernel
theorem dX6_room_43 : decode cX6_room 43 = .ok (.iload_n 3, 1) := by decide +kernel
theorem dX6_room_44 : decode cX6_room 44 = .ok (.aload_n 0, 1) := by decide +kernel
theorem dX6_room_45 : decode cX6_room 45 = .ok (.getfield 13, 3) := by decide +kernel
theorem dX6_room_48 : decode cX6_room 48 = .ok (.iconst 0, 1) := by decide +kernel
theorem dX6_room_49 : decode cX6_room 49 = .ok (.iaload, 1) := by decide +kernel
theorem dX6_room_50 : decode cX6_room 50 = .ok (.if_icmp .ge 28, 3) := by decide +kernel
theorem dX6_room_53 : decode cX6_room 53 = .ok (.iload_n 2, 1) := by decide +kernel
theorem dX6_room_54 : decode cX6_room 54 = .ok (.aload_n 0, 1) := by decide +kernel
theorem dX6_room_55 : decode cX6_room 55 = .ok (.iload_n 1, 1) := by decide +kernel
theorem dX6_room_56 : decode cX6_room 56 = .ok (.iload_n 3, 1) := by decide +kernel
theorem dX6_room_57 : decode cX6_room 57 = .ok (.invokevirtual 170, 3) := by decide +kernel
theorem dX6_room_60 : decode cX6_room 60 = .ok (.ifCond .eq 9, 3) := by decide +kernel
theorem dX6_room_63 : decode cX6_room 63 = .ok (.iconst 1, 1) := by decide +kernel
theorem dX6_room_64 : decode cX6_room 64 = .ok (.iload_n 3, 1) := by decide +kernel
theorem dX6_room_65 : decode cX6_room 65 = .ok (.ishl, 1) := by decide +kernel
theorem dX6_room_66 : decode cX6_room 66 = .ok (.goto 4, 3) := by decide +kernel
theorem dX6_room_69 : decode cX6_room 69 = .ok (.iconst 0, 1) := by decide +kernel
theorem dX6_room_70 : decode cX6_room 70 = .ok (.ior, 1) := by decide +kernel
theorem dX6_room_71 : decode cX6_room 71 = .ok (.istore_n 2, 1) := by decide +kernel
theorem dX6_room_72 : decode cX6_room 72 = .ok (.iinc 3 1, 3) := by decide +kernel
theorem dX6_room_75 : decode cX6_room 75 = .ok (.goto (-32), 3) := by decide +kernel
theorem dX6_room_78 : decode cX6_room 78 = .ok (.iload_n 2, 1) := by decide +kernel
theorem dX6_room_79 : decode cX6_room 79 = .ok (.ireturn, 1) := by decide +kernel
theorem dX6_place_0 : decode cX6_place 0 = .ok (.aload_n 0, 1) := by decide +kernel
theorem dX6_place_1 : decode cX6_place 1 = .ok (.iload_n 1, 1) := by decide +kernel
theorem dX6_place_2 : decode cX6_place 2 = .ok (.invokevirtual 150, 3) := by decide +kernel
theorem dX6_place_5 : decode cX6_place 5 = .ok (.ifCond .eq 13, 3) := by decide +kernel
theorem dX6_place_8 : decode cX6_place 8 = .ok (.iload_n 2, 1) := by decide +kernel
theorem dX6_place_9 : decode cX6_place 9 = .ok (.i2l, 1) := by decide +kernel
theorem dX6_place_10 : decode cX6_place 10 = .ok (.lconst 0, 1) := by decide +kernel
theorem dX6_place_11 : decode cX6_place 11 = .ok (.lconst 1, 1) := by decide +kernel
theorem dX6_place_12 : decode cX6_place 12 = .ok (.invokestatic 70, 3) := by decide +kernel
theorem dX6_place_15 : decode cX6_place 15 = .ok (.ifCond .ne 5, 3) := by decide +kernel
theorem dX6_place_18 : decode cX6_place 18 = .ok (.iconst (-1), 1) := by decide +kernel
theorem dX6_place_19 : decode cX6_place 19 = .ok (.ireturn, 1) := by decide +kernel
theorem dX6_place_20 : decode cX6_place 20 = .ok (.aload_n 0, 1) := by decide +kernel
theorem dX6_place_21 : decode cX6_place 21 = .ok (.getfield 19, 3) := by decide +kernel
theorem dX6_place_24 : decode cX6_place 24 = .ok (.iconst 1, 1) := by decide +kernel
theorem dX6_place_25 : decode cX6_place 25 = .ok (.iaload, 1) := by decide +kernel
theorem dX6_place_26 : decode cX6_place 26 = .ok (.iload_n 1, 1) := by decide +kernel
theorem dX6_place_27 : decode cX6_place 27 = .ok (.invokestatic 167, 3) := by decide +kernel
theorem dX6_place_30 : decode cX6_place 30 = .ok (.ifCond .eq 6, 3) := by decide +kernel
theorem dX6_place_33 : decode cX6_place 33 = .ok (.bipush (-2), 2) := by decide +kernel
theorem dX6_place_35 : decode cX6_place 35 = .ok (.ireturn, 1) := by decide +kernel
theorem dX6_place_36 : decode cX6_place 36 = .ok (.aload_n 0, 1) := by decide +kernel
theorem dX6_place_37 : decode cX6_place 37 = .ok (.invokevirtual 158, 3) := by decide +kernel
theorem dX6_place_40 : decode cX6_place 40 = .ok (.bipush (-4), 2) := by decide +kernel
theorem dX6_place_42 : decode cX6_place 42 = .ok (.istore_n 3, 1) := by decide +kernel
theorem dX6_place_43 : decode cX6_place 43 = .ok (.bipush (-4), 2) := by decide +kernel
theorem dX6_place_45 : decode cX6_place 45 = .ok (.istore 4, 2) := by decide +kernel
theorem dX6_place_47 : decode cX6_place 47 = .ok (.iconst 0, 1) := by decide +kernel
theorem dX6_place_48 : decode cX6_place 48 = .ok (.istore 5, 2) := by decide +kernel
theorem dX6_place_50 : decode cX6_place 50 = .ok (.iload 5, 2) := by decide +kernel
theorem dX6_place_52 : decode cX6_place 52 = .ok (.iconst 2, 1) := by decide +kernel
theorem dX6_place_53 : decode cX6_place 53 = .ok (.aload_n 0, 1) := by decide +kernel
theorem dX6_place_54 : decode cX6_place 54 = .ok (.getfield 13, 3) := by decide +kernel
theorem dX6_place_57 : decode cX6_place 57 = .ok (.iconst 0, 1) := by decide +kernel
theorem dX6_place_58 : decode cX6_place 58 = .ok (.iaload, 1) := by decide +kernel
theorem dX6_place_59 : decode cX6_place 59 = .ok (.imul, 1) := by decide +kernel
