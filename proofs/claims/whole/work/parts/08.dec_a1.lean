theorem dX2_inBits_36 : decode cX2_inBits 36 = .ok (.ireturn, 1) := by decide +kernel
theorem dX2_countIn_0 : decode cX2_countIn 0 = .ok (.aload_n 0, 1) := by decide +kernel
theorem dX2_countIn_1 : decode cX2_countIn 1 = .ok (.invokevirtual 55, 3) := by decide +kernel
theorem dX2_countIn_4 : decode cX2_countIn 4 = .ok (.invokestatic 59, 3) := by decide +kernel
theorem dX2_countIn_7 : decode cX2_countIn 7 = .ok (.ireturn, 1) := by decide +kernel
theorem dX2_ownerOf_0 : decode cX2_ownerOf 0 = .ok (.iconst 0, 1) := by decide +kernel
theorem dX2_ownerOf_1 : decode cX2_ownerOf 1 = .ok (.istore_n 2, 1) := by decide +kernel
theorem dX2_ownerOf_2 : decode cX2_ownerOf 2 = .ok (.iload_n 2, 1) := by decide +kernel
theorem dX2_ownerOf_3 : decode cX2_ownerOf 3 = .ok (.aload_n 0, 1) := by decide +kernel
theorem dX2_ownerOf_4 : decode cX2_ownerOf 4 = .ok (.getfield 21, 3) := by decide +kernel
theorem dX2_ownerOf_7 : decode cX2_ownerOf 7 = .ok (.getfield 48, 3) := by decide +kernel
theorem dX2_ownerOf_10 : decode cX2_ownerOf 10 = .ok (.if_icmp .ge 49, 3) := by decide +kernel
theorem dX2_ownerOf_13 : decode cX2_ownerOf 13 = .ok (.aload_n 0, 1) := by decide +kernel
theorem dX2_ownerOf_14 : decode cX2_ownerOf 14 = .ok (.iload_n 2, 1) := by decide +kernel
theorem dX2_ownerOf_15 : decode cX2_ownerOf 15 = .ok (.invokevirtual 51, 3) := by decide +kernel
theorem dX2_ownerOf_18 : decode cX2_ownerOf 18 = .ok (.ifCond .eq 35, 3) := by decide +kernel
theorem dX2_ownerOf_21 : decode cX2_ownerOf 21 = .ok (.iload_n 1, 1) := by decide +kernel
theorem dX2_ownerOf_22 : decode cX2_ownerOf 22 = .ok (.aload_n 0, 1) := by decide +kernel
theorem dX2_ownerOf_23 : decode cX2_ownerOf 23 = .ok (.getfield 9, 3) := by decide +kernel
theorem dX2_ownerOf_26 : decode cX2_ownerOf 26 = .ok (.iload_n 2, 1) := by decide +kernel
theorem dX2_ownerOf_27 : decode cX2_ownerOf 27 = .ok (.iaload, 1) := by decide +kernel
theorem dX2_ownerOf_28 : decode cX2_ownerOf 28 = .ok (.if_icmp .lt 25, 3) := by decide +kernel
theorem dX2_ownerOf_31 : decode cX2_ownerOf 31 = .ok (.iload_n 1, 1) := by decide +kernel
theorem dX2_ownerOf_32 : decode cX2_ownerOf 32 = .ok (.aload_n 0, 1) := by decide +kernel
theorem dX2_ownerOf_33 : decode cX2_ownerOf 33 = .ok (.getfield 9, 3) := by decide +kernel
theorem dX2_ownerOf_36 : decode cX2_ownerOf 36 = .ok (.iload_n 2, 1) := by decide +kernel
theorem dX2_ownerOf_37 : decode cX2_ownerOf 37 = .ok (.iaload, 1) := by decide +kernel
theorem dX2_ownerOf_38 : decode cX2_ownerOf 38 = .ok (.aload_n 0, 1) := by decide +kernel
theorem dX2_ownerOf_39 : decode cX2_ownerOf 39 = .ok (.getfield 21, 3) := by decide +kernel
theorem dX2_ownerOf_42 : decode cX2_ownerOf 42 = .ok (.getfield 65, 3) := by decide +kernel
theorem dX2_ownerOf_45 : decode cX2_ownerOf 45 = .ok (.iload_n 2, 1) := by decide +kernel
theorem dX2_ownerOf_46 : decode cX2_ownerOf 46 = .ok (.iaload, 1) := by decide +kernel
theorem dX2_ownerOf_47 : decode cX2_ownerOf 47 = .ok (.iadd, 1) := by decide +kernel
theorem dX2_ownerOf_48 : decode cX2_ownerOf 48 = .ok (.if_icmp .ge 5, 3) := by decide +kernel
theorem dX2_ownerOf_51 : decode cX2_ownerOf 51 = .ok (.iload_n 2, 1) := by decide +kernel
theorem dX2_ownerOf_52 : decode cX2_ownerOf 52 = .ok (.ireturn, 1) := by decide +kernel
theorem dX2_ownerOf_53 : decode cX2_ownerOf 53 = .ok (.iinc 2 1, 3) := by decide +kernel
theorem dX2_ownerOf_56 : decode cX2_ownerOf 56 = .ok (.goto (-54), 3) := by decide +kernel
theorem dX2_ownerOf_59 : decode cX2_ownerOf 59 = .ok (.bipush (-4), 2) := by decide +kernel
theorem dX2_ownerOf_61 : decode cX2_ownerOf 61 = .ok (.ireturn, 1) := by decide +kernel
theorem dX2_fits_0 : decode cX2_fits 0 = .ok (.iload_n 2, 1) := by decide +kernel
theorem dX2_fits_1 : decode cX2_fits 1 = .ok (.aload_n 0, 1) := by decide +kernel
theorem dX2_fits_2 : decode cX2_fits 2 = .ok (.getfield 21, 3) := by decide +kernel
theorem dX2_fits_5 : decode cX2_fits 5 = .ok (.getfield 65, 3) := by decide +kernel
theorem dX2_fits_8 : decode cX2_fits 8 = .ok (.iload_n 1, 1) := by decide +kernel
theorem dX2_fits_9 : decode cX2_fits 9 = .ok (.iaload, 1) := by decide +kernel
theorem dX2_fits_10 : decode cX2_fits 10 = .ok (.iadd, 1) := by decide +kernel
theorem dX2_fits_11 : decode cX2_fits 11 = .ok (.istore_n 3, 1) := by decide +kernel
theorem dX2_fits_12 : decode cX2_fits 12 = .ok (.iload_n 2, 1) := by decide +kernel
theorem dX2_fits_13 : decode cX2_fits 13 = .ok (.ifCond .lt 14, 3) := by decide +kernel
theorem dX2_fits_16 : decode cX2_fits 16 = .ok (.iload_n 3, 1) := by decide +kernel
theorem dX2_fits_17 : decode cX2_fits 17 = .ok (.aload_n 0, 1) := by decide +kernel
theorem dX2_fits_18 : decode cX2_fits 18 = .ok (.getfield 21, 3) := by decide +kernel
theorem dX2_fits_21 : decode cX2_fits 21 = .ok (.getfield 68, 3) := by decide +kernel
theorem dX2_fits_24 : decode cX2_fits 24 = .ok (.if_icmp .le 5, 3) := by decide +kernel
theorem dX2_fits_27 : decode cX2_fits 27 = .ok (.iconst 0, 1) := by decide +kernel
theorem dX2_fits_28 : decode cX2_fits 28 = .ok (.ireturn, 1) := by decide +kernel
theorem dX2_fits_29 : decode cX2_fits 29 = .ok (.iconst 0, 1) := by decide +kernel
theorem dX2_fits_30 : decode cX2_fits 30 = .ok (.istore 4, 2) := by decide +kernel
theorem dX2_fits_32 : decode cX2_fits 32 = .ok (.iload 4, 2) := by decide +kernel
theorem dX2_fits_34 : decode cX2_fits 34 = .ok (.aload_n 0, 1) := by decide +kernel
theorem dX2_fits_35 : decode cX2_fits 35 = .ok (.getfield 21, 3) := by decide +kernel
theorem dX2_fits_38 : decode cX2_fits 38 = .ok (.getfield 48, 3) := by decide +kernel
theorem dX2_fits_41 : decode cX2_fits 41 = .ok (.if_icmp .ge 59, 3) := by decide +kernel
theorem dX2_fits_44 : decode cX2_fits 44 = .ok (.iload 4, 2) := by decide +kernel
theorem dX2_fits_46 : decode cX2_fits 46 = .ok (.iload_n 1, 1) := by decide +kernel
theorem dX2_fits_47 : decode cX2_fits 47 = .ok (.if_icmp .eq 47, 3) := by decide +kernel
theorem dX2_fits_50 : decode cX2_fits 50 = .ok (.aload_n 0, 1) := by decide +kernel
theorem dX2_fits_51 : decode cX2_fits 51 = .ok (.iload 4, 2) := by decide +kernel
theorem dX2_fits_53 : decode cX2_fits 53 = .ok (.invokevirtual 51, 3) := by decide +kernel
theorem dX2_fits_56 : decode cX2_fits 56 = .ok (.ifCond .eq 38, 3) := by decide +kernel
theorem dX2_fits_59 : decode cX2_fits 59 = .ok (.aload_n 0, 1) := by decide +kernel
theorem dX2_fits_60 : decode cX2_fits 60 = .ok (.getfield 9, 3) := by decide +kernel
theorem dX2_fits_63 : decode cX2_fits 63 = .ok (.iload 4, 2) := by decide +kernel
theorem dX2_fits_65 : decode cX2_fits 65 = .ok (.iaload, 1) := by decide +kernel
theorem dX2_fits_66 : decode cX2_fits 66 = .ok (.iload_n 3, 1) := by decide +kernel
theorem dX2_fits_67 : decode cX2_fits 67 = .ok (.if_icmp .ge 27, 3) := by decide +kernel
theorem dX2_fits_70 : decode cX2_fits 70 = .ok (.iload_n 2, 1) := by decide +kernel
theorem dX2_fits_71 : decode cX2_fits 71 = .ok (.aload_n 0, 1) := by decide +kernel
theorem dX2_fits_72 : decode cX2_fits 72 = .ok (.getfield 9, 3) := by decide +kernel
theorem dX2_fits_75 : decode cX2_fits 75 = .ok (.iload 4, 2) := by decide +kernel
theorem dX2_fits_77 : decode cX2_fits 77 = .ok (.iaload, 1) := by decide +kernel
theorem dX2_fits_78 : decode cX2_fits 78 = .ok (.aload_n 0, 1) := by decide +kernel
theorem dX2_fits_79 : decode cX2_fits 79 = .ok (.getfield 21, 3) := by decide +kernel
theorem dX2_fits_82 : decode cX2_fits 82 = .ok (.getfield 65, 3) := by decide +kernel
theorem dX2_fits_85 : decode cX2_fits 85 = .ok (.iload 4, 2) := by decide +kernel
theorem dX2_fits_87 : decode cX2_fits 87 = .ok (.iaload, 1) := by decide +kernel
theorem dX2_fits_88 : decode cX2_fits 88 = .ok (.iadd, 1) := by decide +kernel
theorem dX2_fits_89 : decode cX2_fits 89 = .ok (.if_icmp .ge 5, 3) := by decide +kernel
theorem dX2_fits_92 : decode cX2_fits 92 = .ok (.iconst 0, 1) := by decide +kernel
theorem dX2_fits_93 : decode cX2_fits 93 = .ok (.ireturn, 1) := by decide +kernel
theorem dX2_fits_94 : decode cX2_fits 94 = .ok (.iinc 4 1, 3) := by decide +kernel
theorem dX2_fits_97 : decode cX2_fits 97 = .ok (.goto (-65), 3) := by decide +kernel
theorem dX2_fits_100 : decode cX2_fits 100 = .ok (.iconst 1, 1) := by decide +kernel
theorem dX2_fits_101 : decode cX2_fits 101 = .ok (.ireturn, 1) := by decide +kernel
theorem dX2_looksIn_0 : decode cX2_looksIn 0 = .ok (.aload_n 0, 1) := by decide +kernel
theorem dX2_looksIn_1 : decode cX2_looksIn 1 = .ok (.getfield 18, 3) := by decide +kernel
theorem dX2_looksIn_4 : decode cX2_looksIn 4 = .ok (.iload_n 1, 1) := by decide +kernel
theorem dX2_looksIn_5 : decode cX2_looksIn 5 = .ok (.iaload, 1) := by decide +kernel
theorem dX2_looksIn_6 : decode cX2_looksIn 6 = .ok (.iconst 1, 1) := by decide +kernel
theorem dX2_looksIn_7 : decode cX2_looksIn 7 = .ok (.if_icmp .ne 7, 3) := by decide +kernel
theorem dX2_looksIn_10 : decode cX2_looksIn 10 = .ok (.iconst 1, 1) := by decide +kernel
theorem dX2_looksIn_11 : decode cX2_looksIn 11 = .ok (.goto 4, 3) := by decide +kernel
theorem dX2_looksIn_14 : decode cX2_looksIn 14 = .ok (.iconst 0, 1) := by decide +kernel
theorem dX2_looksIn_15 : decode cX2_looksIn 15 = .ok (.istore_n 2, 1) := by decide +kernel
theorem dX2_looksIn_16 : decode cX2_looksIn 16 = .ok (.aload_n 0, 1) := by decide +kernel
theorem dX2_looksIn_17 : decode cX2_looksIn 17 = .ok (.getfield 18, 3) := by decide +kernel
theorem dX2_looksIn_20 : decode cX2_looksIn 20 = .ok (.iload_n 1, 1) := by decide +kernel
theorem dX2_looksIn_21 : decode cX2_looksIn 21 = .ok (.iaload, 1) := by decide +kernel
theorem dX2_looksIn_22 : decode cX2_looksIn 22 = .ok (.iconst 2, 1) := by decide +kernel
theorem dX2_looksIn_23 : decode cX2_looksIn 23 = .ok (.if_icmp .eq 13, 3) := by decide +kernel
theorem dX2_looksIn_26 : decode cX2_looksIn 26 = .ok (.aload_n 0, 1) := by decide +kernel
theorem dX2_looksIn_27 : decode cX2_looksIn 27 = .ok (.getfield 15, 3) := by decide +kernel
theorem dX2_looksIn_30 : decode cX2_looksIn 30 = .ok (.iload_n 1, 1) := by decide +kernel
theorem dX2_looksIn_31 : decode cX2_looksIn 31 = .ok (.iaload, 1) := by decide +kernel
theorem dX2_looksIn_32 : decode cX2_looksIn 32 = .ok (.iload_n 2, 1) := by decide +kernel
theorem dX2_looksIn_33 : decode cX2_looksIn 33 = .ok (.if_icmp .ne 7, 3) := by decide +kernel
theorem dX2_looksIn_36 : decode cX2_looksIn 36 = .ok (.iconst 1, 1) := by decide +kernel
theorem dX2_looksIn_37 : decode cX2_looksIn 37 = .ok (.goto 4, 3) := by decide +kernel
theorem dX2_looksIn_40 : decode cX2_looksIn 40 = .ok (.iconst 0, 1) := by decide +kernel
theorem dX2_looksIn_41 : decode cX2_looksIn 41 = .ok (.ireturn, 1) := by decide +kernel
theorem dX2_shadowOf_0 : decode cX2_shadowOf 0 = .ok (.aload_n 0, 1) := by decide +kernel
theorem dX2_shadowOf_1 : decode cX2_shadowOf 1 = .ok (.getfield 21, 3) := by decide +kernel
theorem dX2_shadowOf_4 : decode cX2_shadowOf 4 = .ok (.getfield 71, 3) := by decide +kernel
theorem dX2_shadowOf_7 : decode cX2_shadowOf 7 = .ok (.iload_n 1, 1) := by decide +kernel
theorem dX2_shadowOf_8 : decode cX2_shadowOf 8 = .ok (.iaload, 1) := by decide +kernel
theorem dX2_shadowOf_9 : decode cX2_shadowOf 9 = .ok (.iconst 2, 1) := by decide +kernel
theorem dX2_shadowOf_10 : decode cX2_shadowOf 10 = .ok (.if_icmp .ne 15, 3) := by decide +kernel
theorem dX2_shadowOf_13 : decode cX2_shadowOf 13 = .ok (.aload_n 0, 1) := by decide +kernel
theorem dX2_shadowOf_14 : decode cX2_shadowOf 14 = .ok (.getfield 21, 3) := by decide +kernel
theorem dX2_shadowOf_17 : decode cX2_shadowOf 17 = .ok (.getfield 74, 3) := by decide +kernel
theorem dX2_shadowOf_20 : decode cX2_shadowOf 20 = .ok (.iload_n 1, 1) := by decide +kernel
theorem dX2_shadowOf_21 : decode cX2_shadowOf 21 = .ok (.iaload, 1) := by decide +kernel
theorem dX2_shadowOf_22 : decode cX2_shadowOf 22 = .ok (.goto 14, 3) := by decide +kernel
theorem dX2_shadowOf_25 : decode cX2_shadowOf 25 = .ok (.aload_n 0, 1) := by decide +kernel
theorem dX2_shadowOf_26 : decode cX2_shadowOf 26 = .ok (.getfield 21, 3) := by decide +kernel
theorem dX2_shadowOf_29 : decode cX2_shadowOf 29 = .ok (.getfield 74, 3) := by decide +kernel
theorem dX2_shadowOf_32 : decode cX2_shadowOf 32 = .ok (.iload_n 1, 1) := by decide +kernel
theorem dX2_shadowOf_33 : decode cX2_shadowOf 33 = .ok (.iaload, 1) := by decide +kernel
theorem dX2_shadowOf_34 : decode cX2_shadowOf 34 = .ok (.iconst 1, 1) := by decide +kernel
theorem dX2_shadowOf_35 : decode cX2_shadowOf 35 = .ok (.iadd, 1) := by decide +kernel
theorem dX2_shadowOf_36 : decode cX2_shadowOf 36 = .ok (.istore_n 2, 1) := by decide +kernel
theorem dX2_shadowOf_37 : decode cX2_shadowOf 37 = .ok (.iconst 0, 1) := by decide +kernel
theorem dX2_shadowOf_38 : decode cX2_shadowOf 38 = .ok (.istore_n 3, 1) := by decide +kernel
theorem dX2_shadowOf_39 : decode cX2_shadowOf 39 = .ok (.iconst 0, 1) := by decide +kernel
theorem dX2_shadowOf_40 : decode cX2_shadowOf 40 = .ok (.istore 4, 2) := by decide +kernel
theorem dX2_shadowOf_42 : decode cX2_shadowOf 42 = .ok (.iload 4, 2) := by decide +kernel
theorem dX2_shadowOf_44 : decode cX2_shadowOf 44 = .ok (.aload_n 0, 1) := by decide +kernel
theorem dX2_shadowOf_45 : decode cX2_shadowOf 45 = .ok (.getfield 21, 3) := by decide +kernel
theorem dX2_shadowOf_48 : decode cX2_shadowOf 48 = .ok (.getfield 48, 3) := by decide +kernel
theorem dX2_shadowOf_51 : decode cX2_shadowOf 51 = .ok (.if_icmp .ge 36, 3) := by decide +kernel
theorem dX2_shadowOf_54 : decode cX2_shadowOf 54 = .ok (.aload_n 0, 1) := by decide +kernel
theorem dX2_shadowOf_55 : decode cX2_shadowOf 55 = .ok (.getfield 21, 3) := by decide +kernel
theorem dX2_shadowOf_58 : decode cX2_shadowOf 58 = .ok (.getfield 74, 3) := by decide +kernel
theorem dX2_shadowOf_61 : decode cX2_shadowOf 61 = .ok (.iload 4, 2) := by decide +kernel
theorem dX2_shadowOf_63 : decode cX2_shadowOf 63 = .ok (.iaload, 1) := by decide +kernel
theorem dX2_shadowOf_64 : decode cX2_shadowOf 64 = .ok (.iload_n 2, 1) := by decide +kernel
theorem dX2_shadowOf_65 : decode cX2_shadowOf 65 = .ok (.if_icmp .lt 16, 3) := by decide +kernel
theorem dX2_shadowOf_68 : decode cX2_shadowOf 68 = .ok (.aload_n 0, 1) := by decide +kernel
theorem dX2_shadowOf_69 : decode cX2_shadowOf 69 = .ok (.iload_n 1, 1) := by decide +kernel
theorem dX2_shadowOf_70 : decode cX2_shadowOf 70 = .ok (.iload 4, 2) := by decide +kernel
theorem dX2_shadowOf_72 : decode cX2_shadowOf 72 = .ok (.invokevirtual 77, 3) := by decide +kernel
theorem dX2_shadowOf_75 : decode cX2_shadowOf 75 = .ok (.ifCond .eq 6, 3) := by decide +kernel
theorem dX2_shadowOf_78 : decode cX2_shadowOf 78 = .ok (.iinc 3 1, 3) := by decide +kernel
theorem dX2_shadowOf_81 : decode cX2_shadowOf 81 = .ok (.iinc 4 1, 3) := by decide +kernel
theorem dX2_shadowOf_84 : decode cX2_shadowOf 84 = .ok (.goto (-42), 3) := by decide +kernel
theorem dX2_shadowOf_87 : decode cX2_shadowOf 87 = .ok (.aload_n 0, 1) := by decide +kernel
theorem dX2_shadowOf_88 : decode cX2_shadowOf 88 = .ok (.getfield 21, 3) := by decide +kernel
theorem dX2_shadowOf_91 : decode cX2_shadowOf 91 = .ok (.getfield 71, 3) := by decide +kernel
theorem dX2_shadowOf_94 : decode cX2_shadowOf 94 = .ok (.iload_n 1, 1) := by decide +kernel
theorem dX2_shadowOf_95 : decode cX2_shadowOf 95 = .ok (.iaload, 1) := by decide +kernel
theorem dX2_shadowOf_96 : decode cX2_shadowOf 96 = .ok (.iconst 3, 1) := by decide +kernel
theorem dX2_shadowOf_97 : decode cX2_shadowOf 97 = .ok (.if_icmp .ne 9, 3) := by decide +kernel
theorem dX2_shadowOf_100 : decode cX2_shadowOf 100 = .ok (.iload_n 3, 1) := by decide +kernel
theorem dX2_shadowOf_101 : decode cX2_shadowOf 101 = .ok (.iconst 2, 1) := by decide +kernel
theorem dX2_shadowOf_102 : decode cX2_shadowOf 102 = .ok (.idiv, 1) := by decide +kernel
theorem dX2_shadowOf_103 : decode cX2_shadowOf 103 = .ok (.goto 4, 3) := by decide +kernel
theorem dX2_shadowOf_106 : decode cX2_shadowOf 106 = .ok (.iload_n 3, 1) := by decide +kernel
theorem dX2_shadowOf_107 : decode cX2_shadowOf 107 = .ok (.ireturn, 1) := by decide +kernel
theorem dX2_isBetween_0 : decode cX2_isBetween 0 = .ok (.aload_n 0, 1) := by decide +kernel
theorem dX2_isBetween_1 : decode cX2_isBetween 1 = .ok (.getfield 18, 3) := by decide +kernel
theorem dX2_isBetween_4 : decode cX2_isBetween 4 = .ok (.iload_n 1, 1) := by decide +kernel
theorem dX2_isBetween_5 : decode cX2_isBetween 5 = .ok (.iaload, 1) := by decide +kernel
theorem dX2_isBetween_6 : decode cX2_isBetween 6 = .ok (.iconst 2, 1) := by decide +kernel
theorem dX2_isBetween_7 : decode cX2_isBetween 7 = .ok (.if_icmp .ne 5, 3) := by decide +kernel
theorem dX2_isBetween_10 : decode cX2_isBetween 10 = .ok (.iconst 0, 1) := by decide +kernel
theorem dX2_isBetween_11 : decode cX2_isBetween 11 = .ok (.ireturn, 1) := by decide +kernel
theorem dX2_isBetween_12 : decode cX2_isBetween 12 = .ok (.aload_n 0, 1) := by decide +kernel
theorem dX2_isBetween_13 : decode cX2_isBetween 13 = .ok (.getfield 18, 3) := by decide +kernel
theorem dX2_isBetween_16 : decode cX2_isBetween 16 = .ok (.iload_n 2, 1) := by decide +kernel
theorem dX2_isBetween_17 : decode cX2_isBetween 17 = .ok (.iaload, 1) := by decide +kernel
theorem dX2_isBetween_18 : decode cX2_isBetween 18 = .ok (.aload_n 0, 1) := by decide +kernel
theorem dX2_isBetween_19 : decode cX2_isBetween 19 = .ok (.getfield 18, 3) := by decide +kernel
theorem dX2_isBetween_22 : decode cX2_isBetween 22 = .ok (.iload_n 1, 1) := by decide +kernel
theorem dX2_isBetween_23 : decode cX2_isBetween 23 = .ok (.iaload, 1) := by decide +kernel
theorem dX2_isBetween_24 : decode cX2_isBetween 24 = .ok (.if_icmp .eq 19, 3) := by decide +kernel
theorem dX2_isBetween_27 : decode cX2_isBetween 27 = .ok (.aload_n 0, 1) := by decide +kernel
theorem dX2_isBetween_28 : decode cX2_isBetween 28 = .ok (.getfield 18, 3) := by decide +kernel
theorem dX2_isBetween_31 : decode cX2_isBetween 31 = .ok (.iload_n 2, 1) := by decide +kernel
theorem dX2_isBetween_32 : decode cX2_isBetween 32 = .ok (.iaload, 1) := by decide +kernel
theorem dX2_isBetween_33 : decode cX2_isBetween 33 = .ok (.iconst 2, 1) := by decide +kernel
theorem dX2_isBetween_34 : decode cX2_isBetween 34 = .ok (.if_icmp .ne 7, 3) := by decide +kernel
theorem dX2_isBetween_37 : decode cX2_isBetween 37 = .ok (.iconst 1, 1) := by decide +kernel
theorem dX2_isBetween_38 : decode cX2_isBetween 38 = .ok (.goto 4, 3) := by decide +kernel
theorem dX2_isBetween_41 : decode cX2_isBetween 41 = .ok (.iconst 0, 1) := by decide +kernel
theorem dX2_isBetween_42 : decode cX2_isBetween 42 = .ok (.ireturn, 1) := by decide +kernel
theorem dX2_isBetween_43 : decode cX2_isBetween 43 = .ok (.aload_n 0, 1) := by decide +kernel
theorem dX2_isBetween_44 : decode cX2_isBetween 44 = .ok (.getfield 18, 3) := by decide +kernel
theorem dX2_isBetween_47 : decode cX2_isBetween 47 = .ok (.iload_n 1, 1) := by decide +kernel
theorem dX2_isBetween_48 : decode cX2_isBetween 48 = .ok (.iaload, 1) := by decide +kernel
theorem dX2_isBetween_49 : decode cX2_isBetween 49 = .ok (.iconst 1, 1) := by decide +kernel
theorem dX2_isBetween_50 : decode cX2_isBetween 50 = .ok (.if_icmp .ne 26, 3) := by decide +kernel
theorem dX2_isBetween_53 : decode cX2_isBetween 53 = .ok (.aload_n 0, 1) := by decide +kernel
theorem dX2_isBetween_54 : decode cX2_isBetween 54 = .ok (.getfield 9, 3) := by decide +kernel
theorem dX2_isBetween_57 : decode cX2_isBetween 57 = .ok (.iload_n 2, 1) := by decide +kernel
theorem dX2_isBetween_58 : decode cX2_isBetween 58 = .ok (.iaload, 1) := by decide +kernel
theorem dX2_isBetween_59 : decode cX2_isBetween 59 = .ok (.aload_n 0, 1) := by decide +kernel
theorem dX2_isBetween_60 : decode cX2_isBetween 60 = .ok (.getfield 9, 3) := by decide +kernel
theorem dX2_isBetween_63 : decode cX2_isBetween 63 = .ok (.iload_n 1, 1) := by decide +kernel
theorem dX2_isBetween_64 : decode cX2_isBetween 64 = .ok (.iaload, 1) := by decide +kernel
theorem dX2_isBetween_65 : decode cX2_isBetween 65 = .ok (.if_icmp .le 7, 3) := by decide +kernel
theorem dX2_isBetween_68 : decode cX2_isBetween 68 = .ok (.iconst 1, 1) := by decide +kernel
theorem dX2_isBetween_69 : decode cX2_isBetween 69 = .ok (.goto 27, 3) := by decide +kernel
theorem dX2_isBetween_72 : decode cX2_isBetween 72 = .ok (.iconst 0, 1) := by decide +kernel
theorem dX2_isBetween_73 : decode cX2_isBetween 73 = .ok (.goto 23, 3) := by decide +kernel
theorem dX2_isBetween_76 : decode cX2_isBetween 76 = .ok (.aload_n 0, 1) := by decide +kernel
theorem dX2_isBetween_77 : decode cX2_isBetween 77 = .ok (.getfield 9, 3) := by decide +kernel
theorem dX2_isBetween_80 : decode cX2_isBetween 80 = .ok (.iload_n 2, 1) := by decide +kernel
theorem dX2_isBetween_81 : decode cX2_isBetween 81 = .ok (.iaload, 1) := by decide +kernel
theorem dX2_isBetween_82 : decode cX2_isBetween 82 = .ok (.aload_n 0, 1) := by decide +kernel
theorem dX2_isBetween_83 : decode cX2_isBetween 83 = .ok (.getfield 9, 3) := by decide +kernel
theorem dX2_isBetween_86 : decode cX2_isBetween 86 = .ok (.iload_n 1, 1) := by decide +kernel
theorem dX2_isBetween_87 : decode cX2_isBetween 87 = .ok (.iaload, 1) := by decide +kernel
theorem dX2_isBetween_88 : decode cX2_isBetween 88 = .ok (.if_icmp .ge 7, 3) := by decide +kernel
theorem dX2_isBetween_91 : decode cX2_isBetween 91 = .ok (.iconst 1, 1) := by decide +kernel
theorem dX2_isBetween_92 : decode cX2_isBetween 92 = .ok (.goto 4, 3) := by decide +kernel
theorem dX2_isBetween_95 : decode cX2_isBetween 95 = .ok (.iconst 0, 1) := by decide +kernel
theorem dX2_isBetween_96 : decode cX2_isBetween 96 = .ok (.ireturn, 1) := by decide +kernel
theorem dX2_countClean_0 : decode cX2_countClean 0 = .ok (.aload_n 0, 1) := by decide +kernel
theorem dX2_countClean_1 : decode cX2_countClean 1 = .ok (.aload_n 0, 1) := by decide +kernel
theorem dX2_countClean_2 : decode cX2_countClean 2 = .ok (.getfield 35, 3) := by decide +kernel
theorem dX2_countClean_5 : decode cX2_countClean 5 = .ok (.invokevirtual 81, 3) := by decide +kernel
theorem dX2_countClean_8 : decode cX2_countClean 8 = .ok (.invokestatic 59, 3) := by decide +kernel
theorem dX2_countClean_11 : decode cX2_countClean 11 = .ok (.ireturn, 1) := by decide +kernel
theorem dX2_cleanBits_0 : decode cX2_cleanBits 0 = .ok (.aload_n 0, 1) := by decide +kernel
theorem dX2_cleanBits_1 : decode cX2_cleanBits 1 = .ok (.invokevirtual 84, 3) := by decide +kernel
theorem dX2_cleanBits_4 : decode cX2_cleanBits 4 = .ok (.istore_n 2, 1) := by decide +kernel
theorem dX2_cleanBits_5 : decode cX2_cleanBits 5 = .ok (.iconst 0, 1) := by decide +kernel
theorem dX2_cleanBits_6 : decode cX2_cleanBits 6 = .ok (.istore_n 3, 1) := by decide +kernel
theorem dX2_cleanBits_7 : decode cX2_cleanBits 7 = .ok (.iconst 0, 1) := by decide +kernel
theorem dX2_cleanBits_8 : decode cX2_cleanBits 8 = .ok (.istore 4, 2) := by decide +kernel
theorem dX2_cleanBits_10 : decode cX2_cleanBits 10 = .ok (.iload 4, 2) := by decide +kernel
theorem dX2_cleanBits_12 : decode cX2_cleanBits 12 = .ok (.aload_n 0, 1) := by decide +kernel
theorem dX2_cleanBits_13 : decode cX2_cleanBits 13 = .ok (.getfield 21, 3) := by decide +kernel
theorem dX2_cleanBits_16 : decode cX2_cleanBits 16 = .ok (.getfield 48, 3) := by decide +kernel
theorem dX2_cleanBits_19 : decode cX2_cleanBits 19 = .ok (.if_icmp .ge 47, 3) := by decide +kernel
theorem dX2_cleanBits_22 : decode cX2_cleanBits 22 = .ok (.aload_n 0, 1) := by decide +kernel
theorem dX2_cleanBits_23 : decode cX2_cleanBits 23 = .ok (.iload 4, 2) := by decide +kernel
theorem dX2_cleanBits_25 : decode cX2_cleanBits 25 = .ok (.invokevirtual 51, 3) := by decide +kernel
theorem dX2_cleanBits_28 : decode cX2_cleanBits 28 = .ok (.ifCond .eq 32, 3) := by decide +kernel
theorem dX2_cleanBits_31 : decode cX2_cleanBits 31 = .ok (.aload_n 0, 1) := by decide +kernel
theorem dX2_cleanBits_32 : decode cX2_cleanBits 32 = .ok (.getfield 18, 3) := by decide +kernel
theorem dX2_cleanBits_35 : decode cX2_cleanBits 35 = .ok (.iload 4, 2) := by decide +kernel
theorem dX2_cleanBits_37 : decode cX2_cleanBits 37 = .ok (.iaload, 1) := by decide +kernel
theorem dX2_cleanBits_38 : decode cX2_cleanBits 38 = .ok (.iload_n 2, 1) := by decide +kernel
theorem dX2_cleanBits_39 : decode cX2_cleanBits 39 = .ok (.iand, 1) := by decide +kernel
theorem dX2_cleanBits_40 : decode cX2_cleanBits 40 = .ok (.ifCond .ne 20, 3) := by decide +kernel
theorem dX2_cleanBits_43 : decode cX2_cleanBits 43 = .ok (.aload_n 0, 1) := by decide +kernel
theorem dX2_cleanBits_44 : decode cX2_cleanBits 44 = .ok (.iload 4, 2) := by decide +kernel
theorem dX2_cleanBits_46 : decode cX2_cleanBits 46 = .ok (.iload_n 1, 1) := by decide +kernel
theorem dX2_cleanBits_47 : decode cX2_cleanBits 47 = .ok (.invokevirtual 87, 3) := by decide +kernel
theorem dX2_cleanBits_50 : decode cX2_cleanBits 50 = .ok (.ifCond .eq 10, 3) := by decide +kernel
theorem dX2_cleanBits_53 : decode cX2_cleanBits 53 = .ok (.iload_n 3, 1) := by decide +kernel
theorem dX2_cleanBits_54 : decode cX2_cleanBits 54 = .ok (.iconst 1, 1) := by decide +kernel
theorem dX2_cleanBits_55 : decode cX2_cleanBits 55 = .ok (.iload 4, 2) := by decide +kernel
theorem dX2_cleanBits_57 : decode cX2_cleanBits 57 = .ok (.ishl, 1) := by decide +kernel
theorem dX2_cleanBits_58 : decode cX2_cleanBits 58 = .ok (.ior, 1) := by decide +kernel
theorem dX2_cleanBits_59 : decode cX2_cleanBits 59 = .ok (.istore_n 3, 1) := by decide +kernel
theorem dX2_cleanBits_60 : decode cX2_cleanBits 60 = .ok (.iinc 4 1, 3) := by decide +kernel
theorem dX2_cleanBits_63 : decode cX2_cleanBits 63 = .ok (.goto (-53), 3) := by decide +kernel
theorem dX2_cleanBits_66 : decode cX2_cleanBits 66 = .ok (.iload_n 3, 1) := by decide +kernel
theorem dX2_cleanBits_67 : decode cX2_cleanBits 67 = .ok (.ireturn, 1) := by decide +kernel
theorem dX2_struckSides_0 : decode cX2_struckSides 0 = .ok (.iconst 0, 1) := by decide +kernel
theorem dX2_struckSides_1 : decode cX2_struckSides 1 = .ok (.istore_n 1, 1) := by decide +kernel
theorem dX2_struckSides_2 : decode cX2_struckSides 2 = .ok (.iconst 0, 1) := by decide +kernel
theorem dX2_struckSides_3 : decode cX2_struckSides 3 = .ok (.istore_n 2, 1) := by decide +kernel
theorem dX2_struckSides_4 : decode cX2_struckSides 4 = .ok (.iload_n 2, 1) := by decide +kernel
theorem dX2_struckSides_5 : decode cX2_struckSides 5 = .ok (.aload_n 0, 1) := by decide +kernel
theorem dX2_struckSides_6 : decode cX2_struckSides 6 = .ok (.getfield 21, 3) := by decide +kernel
theorem dX2_struckSides_9 : decode cX2_struckSides 9 = .ok (.getfield 48, 3) := by decide +kernel
theorem dX2_struckSides_12 : decode cX2_struckSides 12 = .ok (.if_icmp .ge 41, 3) := by decide +kernel
theorem dX2_struckSides_15 : decode cX2_struckSides 15 = .ok (.aload_n 0, 1) := by decide +kernel
theorem dX2_struckSides_16 : decode cX2_struckSides 16 = .ok (.iload_n 2, 1) := by decide +kernel
theorem dX2_struckSides_17 : decode cX2_struckSides 17 = .ok (.invokevirtual 51, 3) := by decide +kernel
theorem dX2_struckSides_20 : decode cX2_struckSides 20 = .ok (.ifCond .eq 27, 3) := by decide +kernel
theorem dX2_struckSides_23 : decode cX2_struckSides 23 = .ok (.aload_n 0, 1) := by decide +kernel
theorem dX2_struckSides_24 : decode cX2_struckSides 24 = .ok (.getfield 21, 3) := by decide +kernel
theorem dX2_struckSides_27 : decode cX2_struckSides 27 = .ok (.iload_n 2, 1) := by decide +kernel
theorem dX2_struckSides_28 : decode cX2_struckSides 28 = .ok (.invokevirtual 90, 3) := by decide +kernel
theorem dX2_struckSides_31 : decode cX2_struckSides 31 = .ok (.ifCond .eq 16, 3) := by decide +kernel
theorem dX2_struckSides_34 : decode cX2_struckSides 34 = .ok (.iload_n 1, 1) := by decide +kernel
theorem dX2_struckSides_35 : decode cX2_struckSides 35 = .ok (.iconst 5, 1) := by decide +kernel
theorem dX2_struckSides_36 : decode cX2_struckSides 36 = .ok (.aload_n 0, 1) := by decide +kernel
theorem dX2_struckSides_37 : decode cX2_struckSides 37 = .ok (.getfield 18, 3) := by decide +kernel
theorem dX2_struckSides_40 : decode cX2_struckSides 40 = .ok (.iload_n 2, 1) := by decide +kernel
theorem dX2_struckSides_41 : decode cX2_struckSides 41 = .ok (.iaload, 1) := by decide +kernel
theorem dX2_struckSides_42 : decode cX2_struckSides 42 = .ok (.iconst (-1), 1) := by decide +kernel
theorem dX2_struckSides_43 : decode cX2_struckSides 43 = .ok (.ixor, 1) := by decide +kernel
theorem dX2_struckSides_44 : decode cX2_struckSides 44 = .ok (.iand, 1) := by decide +kernel
theorem dX2_struckSides_45 : decode cX2_struckSides 45 = .ok (.ior, 1) := by decide +kernel
theorem dX2_struckSides_46 : decode cX2_struckSides 46 = .ok (.istore_n 1, 1) := by decide +kernel
theorem dX2_struckSides_47 : decode cX2_struckSides 47 = .ok (.iinc 2 1, 3) := by decide +kernel
theorem dX2_struckSides_50 : decode cX2_struckSides 50 = .ok (.goto (-46), 3) := by decide +kernel
theorem dX2_struckSides_53 : decode cX2_struckSides 53 = .ok (.iload_n 1, 1) := by decide +kernel
theorem dX2_struckSides_54 : decode cX2_struckSides 54 = .ok (.ireturn, 1) := by decide +kernel
theorem dX2_comesClean_0 : decode cX2_comesClean 0 = .ok (.aload_n 0, 1) := by decide +kernel
theorem dX2_comesClean_1 : decode cX2_comesClean 1 = .ok (.getfield 21, 3) := by decide +kernel
theorem dX2_comesClean_4 : decode cX2_comesClean 4 = .ok (.getfield 71, 3) := by decide +kernel
theorem dX2_comesClean_7 : decode cX2_comesClean 7 = .ok (.iload_n 1, 1) := by decide +kernel
theorem dX2_comesClean_8 : decode cX2_comesClean 8 = .ok (.iaload, 1) := by decide +kernel
theorem dX2_comesClean_9 : decode cX2_comesClean 9 = .ok (.istore_n 3, 1) := by decide +kernel
theorem dX2_comesClean_10 : decode cX2_comesClean 10 = .ok (.aload_n 0, 1) := by decide +kernel
theorem dX2_comesClean_11 : decode cX2_comesClean 11 = .ok (.iload_n 1, 1) := by decide +kernel
theorem dX2_comesClean_12 : decode cX2_comesClean 12 = .ok (.invokevirtual 93, 3) := by decide +kernel
theorem dX2_comesClean_15 : decode cX2_comesClean 15 = .ok (.istore 4, 2) := by decide +kernel
theorem dX2_comesClean_17 : decode cX2_comesClean 17 = .ok (.aload_n 0, 1) := by decide +kernel
theorem dX2_comesClean_18 : decode cX2_comesClean 18 = .ok (.getfield 21, 3) := by decide +kernel
theorem dX2_comesClean_21 : decode cX2_comesClean 21 = .ok (.iload_n 1, 1) := by decide +kernel
theorem dX2_comesClean_22 : decode cX2_comesClean 22 = .ok (.invokevirtual 90, 3) := by decide +kernel
theorem dX2_comesClean_25 : decode cX2_comesClean 25 = .ok (.ifCond .ne 26, 3) := by decide +kernel
theorem dX2_comesClean_28 : decode cX2_comesClean 28 = .ok (.iload_n 3, 1) := by decide +kernel
theorem dX2_comesClean_29 : decode cX2_comesClean 29 = .ok (.iconst 1, 1) := by decide +kernel
theorem dX2_comesClean_30 : decode cX2_comesClean 30 = .ok (.if_icmp .ne 8, 3) := by decide +kernel
theorem dX2_comesClean_33 : decode cX2_comesClean 33 = .ok (.iload 4, 2) := by decide +kernel
theorem dX2_comesClean_35 : decode cX2_comesClean 35 = .ok (.ifCond .eq 16, 3) := by decide +kernel
theorem dX2_comesClean_38 : decode cX2_comesClean 38 = .ok (.iload_n 3, 1) := by decide +kernel
theorem dX2_comesClean_39 : decode cX2_comesClean 39 = .ok (.iconst 2, 1) := by decide +kernel
theorem dX2_comesClean_40 : decode cX2_comesClean 40 = .ok (.if_icmp .ne 13, 3) := by decide +kernel
theorem dX2_comesClean_43 : decode cX2_comesClean 43 = .ok (.aload_n 0, 1) := by decide +kernel
theorem dX2_comesClean_44 : decode cX2_comesClean 44 = .ok (.iload_n 1, 1) := by decide +kernel
theorem dX2_comesClean_45 : decode cX2_comesClean 45 = .ok (.invokevirtual 96, 3) := by decide +kernel
theorem dX2_comesClean_48 : decode cX2_comesClean 48 = .ok (.ifCond .eq 5, 3) := by decide +kernel
theorem dX2_comesClean_51 : decode cX2_comesClean 51 = .ok (.iconst 0, 1) := by decide +kernel
theorem dX2_comesClean_52 : decode cX2_comesClean 52 = .ok (.ireturn, 1) := by decide +kernel
theorem dX2_comesClean_53 : decode cX2_comesClean 53 = .ok (.iload_n 3, 1) := by decide +kernel
theorem dX2_comesClean_54 : decode cX2_comesClean 54 = .ok (.ifCond .ne 22, 3) := by decide +kernel
theorem dX2_comesClean_57 : decode cX2_comesClean 57 = .ok (.iload 4, 2) := by decide +kernel
theorem dX2_comesClean_59 : decode cX2_comesClean 59 = .ok (.ifCond .ne 17, 3) := by decide +kernel
theorem dX2_comesClean_62 : decode cX2_comesClean 62 = .ok (.aload_n 0, 1) := by decide +kernel
theorem dX2_comesClean_63 : decode cX2_comesClean 63 = .ok (.getfield 21, 3) := by decide +kernel
theorem dX2_comesClean_66 : decode cX2_comesClean 66 = .ok (.getfield 99, 3) := by decide +kernel
theorem dX2_comesClean_69 : decode cX2_comesClean 69 = .ok (.iload_n 1, 1) := by decide +kernel
theorem dX2_comesClean_70 : decode cX2_comesClean 70 = .ok (.iaload, 1) := by decide +kernel
theorem dX2_comesClean_71 : decode cX2_comesClean 71 = .ok (.iconst 1, 1) := by decide +kernel
theorem dX2_comesClean_72 : decode cX2_comesClean 72 = .ok (.iadd, 1) := by decide +kernel
theorem dX2_comesClean_73 : decode cX2_comesClean 73 = .ok (.goto 12, 3) := by decide +kernel
theorem dX2_comesClean_76 : decode cX2_comesClean 76 = .ok (.aload_n 0, 1) := by decide +kernel
theorem dX2_comesClean_77 : decode cX2_comesClean 77 = .ok (.getfield 21, 3) := by decide +kernel
theorem dX2_comesClean_80 : decode cX2_comesClean 80 = .ok (.getfield 99, 3) := by decide +kernel
theorem dX2_comesClean_83 : decode cX2_comesClean 83 = .ok (.iload_n 1, 1) := by decide +kernel
theorem dX2_comesClean_84 : decode cX2_comesClean 84 = .ok (.iaload, 1) := by decide +kernel
theorem dX2_comesClean_85 : decode cX2_comesClean 85 = .ok (.istore 5, 2) := by decide +kernel
theorem dX2_comesClean_87 : decode cX2_comesClean 87 = .ok (.iload_n 2, 1) := by decide +kernel
theorem dX2_comesClean_88 : decode cX2_comesClean 88 = .ok (.aload_n 0, 1) := by decide +kernel
theorem dX2_comesClean_89 : decode cX2_comesClean 89 = .ok (.iload_n 1, 1) := by decide +kernel
theorem dX2_comesClean_90 : decode cX2_comesClean 90 = .ok (.invokevirtual 102, 3) := by decide +kernel
theorem dX2_comesClean_93 : decode cX2_comesClean 93 = .ok (.isub, 1) := by decide +kernel
theorem dX2_comesClean_94 : decode cX2_comesClean 94 = .ok (.iload 5, 2) := by decide +kernel
theorem dX2_comesClean_96 : decode cX2_comesClean 96 = .ok (.if_icmp .lt 7, 3) := by decide +kernel
theorem dX2_comesClean_99 : decode cX2_comesClean 99 = .ok (.iconst 1, 1) := by decide +kernel
theorem dX2_comesClean_100 : decode cX2_comesClean 100 = .ok (.goto 4, 3) := by decide +kernel
theorem dX2_comesClean_103 : decode cX2_comesClean 103 = .ok (.iconst 0, 1) := by decide +kernel
theorem dX2_comesClean_104 : decode cX2_comesClean 104 = .ok (.ireturn, 1) := by decide +kernel
theorem dX2_touchesSpoon_0 : decode cX2_touchesSpoon 0 = .ok (.aload_n 0, 1) := by decide +kernel
theorem dX2_touchesSpoon_1 : decode cX2_touchesSpoon 1 = .ok (.getfield 9, 3) := by decide +kernel
theorem dX2_touchesSpoon_4 : decode cX2_touchesSpoon 4 = .ok (.iload_n 1, 1) := by decide +kernel
theorem dX2_touchesSpoon_5 : decode cX2_touchesSpoon 5 = .ok (.iaload, 1) := by decide +kernel
theorem dX2_touchesSpoon_6 : decode cX2_touchesSpoon 6 = .ok (.aload_n 0, 1) := by decide +kernel
theorem dX2_touchesSpoon_7 : decode cX2_touchesSpoon 7 = .ok (.getfield 21, 3) := by decide +kernel
theorem dX2_touchesSpoon_10 : decode cX2_touchesSpoon 10 = .ok (.getfield 65, 3) := by decide +kernel
theorem dX2_touchesSpoon_13 : decode cX2_touchesSpoon 13 = .ok (.iload_n 1, 1) := by decide +kernel
theorem dX2_touchesSpoon_14 : decode cX2_touchesSpoon 14 = .ok (.iaload, 1) := by decide +kernel
theorem dX2_touchesSpoon_15 : decode cX2_touchesSpoon 15 = .ok (.iadd, 1) := by decide +kernel
theorem dX2_touchesSpoon_16 : decode cX2_touchesSpoon 16 = .ok (.istore_n 2, 1) := by decide +kernel
theorem dX2_touchesSpoon_17 : decode cX2_touchesSpoon 17 = .ok (.iconst 0, 1) := by decide +kernel
theorem dX2_touchesSpoon_18 : decode cX2_touchesSpoon 18 = .ok (.istore_n 3, 1) := by decide +kernel
theorem dX2_touchesSpoon_19 : decode cX2_touchesSpoon 19 = .ok (.iload_n 3, 1) := by decide +kernel
theorem dX2_touchesSpoon_20 : decode cX2_touchesSpoon 20 = .ok (.aload_n 0, 1) := by decide +kernel
theorem dX2_touchesSpoon_21 : decode cX2_touchesSpoon 21 = .ok (.getfield 21, 3) := by decide +kernel
theorem dX2_touchesSpoon_24 : decode cX2_touchesSpoon 24 = .ok (.getfield 48, 3) := by decide +kernel
theorem dX2_touchesSpoon_27 : decode cX2_touchesSpoon 27 = .ok (.if_icmp .ge 72, 3) := by decide +kernel
theorem dX2_touchesSpoon_30 : decode cX2_touchesSpoon 30 = .ok (.iload_n 3, 1) := by decide +kernel
theorem dX2_touchesSpoon_31 : decode cX2_touchesSpoon 31 = .ok (.iload_n 1, 1) := by decide +kernel
theorem dX2_touchesSpoon_32 : decode cX2_touchesSpoon 32 = .ok (.if_icmp .eq 61, 3) := by decide +kernel
theorem dX2_touchesSpoon_35 : decode cX2_touchesSpoon 35 = .ok (.aload_n 0, 1) := by decide +kernel
theorem dX2_touchesSpoon_36 : decode cX2_touchesSpoon 36 = .ok (.iload_n 3, 1) := by decide +kernel
theorem dX2_touchesSpoon_37 : decode cX2_touchesSpoon 37 = .ok (.invokevirtual 51, 3) := by decide +kernel
theorem dX2_touchesSpoon_40 : decode cX2_touchesSpoon 40 = .ok (.ifCond .eq 53, 3) := by decide +kernel
theorem dX2_touchesSpoon_43 : decode cX2_touchesSpoon 43 = .ok (.aload_n 0, 1) := by decide +kernel
theorem dX2_touchesSpoon_44 : decode cX2_touchesSpoon 44 = .ok (.getfield 21, 3) := by decide +kernel
theorem dX2_touchesSpoon_47 : decode cX2_touchesSpoon 47 = .ok (.getfield 71, 3) := by decide +kernel
theorem dX2_touchesSpoon_50 : decode cX2_touchesSpoon 50 = .ok (.iload_n 3, 1) := by decide +kernel
theorem dX2_touchesSpoon_51 : decode cX2_touchesSpoon 51 = .ok (.iaload, 1) := by decide +kernel
theorem dX2_touchesSpoon_52 : decode cX2_touchesSpoon 52 = .ok (.iconst 2, 1) := by decide +kernel
theorem dX2_touchesSpoon_53 : decode cX2_touchesSpoon 53 = .ok (.if_icmp .ne 40, 3) := by decide +kernel
theorem dX2_touchesSpoon_56 : decode cX2_touchesSpoon 56 = .ok (.aload_n 0, 1) := by decide +kernel
theorem dX2_touchesSpoon_57 : decode cX2_touchesSpoon 57 = .ok (.getfield 9, 3) := by decide +kernel
theorem dX2_touchesSpoon_60 : decode cX2_touchesSpoon 60 = .ok (.iload_n 3, 1) := by decide +kernel
theorem dX2_touchesSpoon_61 : decode cX2_touchesSpoon 61 = .ok (.iaload, 1) := by decide +kernel
theorem dX2_touchesSpoon_62 : decode cX2_touchesSpoon 62 = .ok (.iload_n 2, 1) := by decide +kernel
theorem dX2_touchesSpoon_63 : decode cX2_touchesSpoon 63 = .ok (.if_icmp .eq 28, 3) := by decide +kernel
theorem dX2_touchesSpoon_66 : decode cX2_touchesSpoon 66 = .ok (.aload_n 0, 1) := by decide +kernel
theorem dX2_touchesSpoon_67 : decode cX2_touchesSpoon 67 = .ok (.getfield 9, 3) := by decide +kernel
theorem dX2_touchesSpoon_70 : decode cX2_touchesSpoon 70 = .ok (.iload_n 3, 1) := by decide +kernel
theorem dX2_touchesSpoon_71 : decode cX2_touchesSpoon 71 = .ok (.iaload, 1) := by decide +kernel
theorem dX2_touchesSpoon_72 : decode cX2_touchesSpoon 72 = .ok (.aload_n 0, 1) := by decide +kernel
theorem dX2_touchesSpoon_73 : decode cX2_touchesSpoon 73 = .ok (.getfield 21, 3) := by decide +kernel
theorem dX2_touchesSpoon_76 : decode cX2_touchesSpoon 76 = .ok (.getfield 65, 3) := by decide +kernel
theorem dX2_touchesSpoon_79 : decode cX2_touchesSpoon 79 = .ok (.iload_n 3, 1) := by decide +kernel
theorem dX2_touchesSpoon_80 : decode cX2_touchesSpoon 80 = .ok (.iaload, 1) := by decide +kernel
theorem dX2_touchesSpoon_81 : decode cX2_touchesSpoon 81 = .ok (.iadd, 1) := by decide +kernel
theorem dX2_touchesSpoon_82 : decode cX2_touchesSpoon 82 = .ok (.aload_n 0, 1) := by decide +kernel
theorem dX2_touchesSpoon_83 : decode cX2_touchesSpoon 83 = .ok (.getfield 9, 3) := by decide +kernel
theorem dX2_touchesSpoon_86 : decode cX2_touchesSpoon 86 = .ok (.iload_n 1, 1) := by decide +kernel
theorem dX2_touchesSpoon_87 : decode cX2_touchesSpoon 87 = .ok (.iaload, 1) := by decide +kernel
theorem dX2_touchesSpoon_88 : decode cX2_touchesSpoon 88 = .ok (.if_icmp .ne 5, 3) := by decide +kernel
theorem dX2_touchesSpoon_91 : decode cX2_touchesSpoon 91 = .ok (.iconst 1, 1) := by decide +kernel
theorem dX2_touchesSpoon_92 : decode cX2_touchesSpoon 92 = .ok (.ireturn, 1) := by decide +kernel
theorem dX2_touchesSpoon_93 : decode cX2_touchesSpoon 93 = .ok (.iinc 3 1, 3) := by decide +kernel
theorem dX2_touchesSpoon_96 : decode cX2_touchesSpoon 96 = .ok (.goto (-77), 3) := by decide +kernel
theorem dX2_touchesSpoon_99 : decode cX2_touchesSpoon 99 = .ok (.iconst 0, 1) := by decide +kernel
theorem dX2_touchesSpoon_100 : decode cX2_touchesSpoon 100 = .ok (.ireturn, 1) := by decide +kernel
