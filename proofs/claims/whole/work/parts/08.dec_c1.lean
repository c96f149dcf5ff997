theorem dX5_byHand_61 : decode cX5_byHand 61 = .ok (.iand, 1) := by decide +kernel
theorem dX5_byHand_62 : decode cX5_byHand 62 = .ok (.iconst 1, 1) := by decide +kernel
theorem dX5_byHand_63 : decode cX5_byHand 63 = .ok (.if_icmp .ne 25, 3) := by decide +kernel
theorem dX5_byHand_66 : decode cX5_byHand 66 = .ok (.aload_n 0, 1) := by decide +kernel
theorem dX5_byHand_67 : decode cX5_byHand 67 = .ok (.iload 5, 2) := by decide +kernel
theorem dX5_byHand_69 : decode cX5_byHand 69 = .ok (.invokevirtual 200, 3) := by decide +kernel
theorem dX5_byHand_72 : decode cX5_byHand 72 = .ok (.istore 6, 2) := by decide +kernel
theorem dX5_byHand_74 : decode cX5_byHand 74 = .ok (.iload 6, 2) := by decide +kernel
theorem dX5_byHand_76 : decode cX5_byHand 76 = .ok (.iload 4, 2) := by decide +kernel
theorem dX5_byHand_78 : decode cX5_byHand 78 = .ok (.if_icmp .le 10, 3) := by decide +kernel
theorem dX5_byHand_81 : decode cX5_byHand 81 = .ok (.iload 6, 2) := by decide +kernel
theorem dX5_byHand_83 : decode cX5_byHand 83 = .ok (.istore 4, 2) := by decide +kernel
theorem dX5_byHand_85 : decode cX5_byHand 85 = .ok (.iload 5, 2) := by decide +kernel
theorem dX5_byHand_87 : decode cX5_byHand 87 = .ok (.istore_n 3, 1) := by decide +kernel
theorem dX5_byHand_88 : decode cX5_byHand 88 = .ok (.iinc 5 1, 3) := by decide +kernel
theorem dX5_byHand_91 : decode cX5_byHand 91 = .ok (.goto (-47), 3) := by decide +kernel
theorem dX5_byHand_94 : decode cX5_byHand 94 = .ok (.iload_n 1, 1) := by decide +kernel
theorem dX5_byHand_95 : decode cX5_byHand 95 = .ok (.ifCond .ne 7, 3) := by decide +kernel
theorem dX5_byHand_98 : decode cX5_byHand 98 = .ok (.iload_n 3, 1) := by decide +kernel
theorem dX5_byHand_99 : decode cX5_byHand 99 = .ok (.goto 5, 3) := by decide +kernel
theorem dX5_byHand_102 : decode cX5_byHand 102 = .ok (.iload 4, 2) := by decide +kernel
theorem dX5_byHand_104 : decode cX5_byHand 104 = .ok (.ireturn, 1) := by decide +kernel
theorem dX5_countCleanWithout_0 : decode cX5_countCleanWithout 0 = .ok (.aload_n 0, 1) := by decide +kernel
theorem dX5_countCleanWithout_1 : decode cX5_countCleanWithout 1 = .ok (.getfield 36, 3) := by decide +kernel
theorem dX5_countCleanWithout_4 : decode cX5_countCleanWithout 4 = .ok (.aload_n 0, 1) := by decide +kernel
theorem dX5_countCleanWithout_5 : decode cX5_countCleanWithout 5 = .ok (.getfield 32, 3) := by decide +kernel
theorem dX5_countCleanWithout_8 : decode cX5_countCleanWithout 8 = .ok (.invokevirtual 94, 3) := by decide +kernel
theorem dX5_countCleanWithout_11 : decode cX5_countCleanWithout 11 = .ok (.aload_n 0, 1) := by decide +kernel
theorem dX5_countCleanWithout_12 : decode cX5_countCleanWithout 12 = .ok (.getfield 36, 3) := by decide +kernel
theorem dX5_countCleanWithout_15 : decode cX5_countCleanWithout 15 = .ok (.iload_n 1, 1) := by decide +kernel
theorem dX5_countCleanWithout_16 : decode cX5_countCleanWithout 16 = .ok (.invokevirtual 162, 3) := by decide +kernel
theorem dX5_countCleanWithout_19 : decode cX5_countCleanWithout 19 = .ok (.aload_n 0, 1) := by decide +kernel
theorem dX5_countCleanWithout_20 : decode cX5_countCleanWithout 20 = .ok (.getfield 36, 3) := by decide +kernel
theorem dX5_countCleanWithout_23 : decode cX5_countCleanWithout 23 = .ok (.invokevirtual 194, 3) := by decide +kernel
theorem dX5_countCleanWithout_26 : decode cX5_countCleanWithout 26 = .ok (.ireturn, 1) := by decide +kernel
theorem dX5_order_0 : decode cX5_order 0 = .ok (.iload_n 1, 1) := by decide +kernel
theorem dX5_order_1 : decode cX5_order 1 = .ok (.iconst (-1), 1) := by decide +kernel
theorem dX5_order_2 : decode cX5_order 2 = .ok (.if_icmp .ge 5, 3) := by decide +kernel
theorem dX5_order_5 : decode cX5_order 5 = .ok (.iconst (-1), 1) := by decide +kernel
theorem dX5_order_6 : decode cX5_order 6 = .ok (.ireturn, 1) := by decide +kernel
theorem dX5_order_7 : decode cX5_order 7 = .ok (.aload_n 0, 1) := by decide +kernel
theorem dX5_order_8 : decode cX5_order 8 = .ok (.getfield 42, 3) := by decide +kernel
theorem dX5_order_11 : decode cX5_order 11 = .ok (.aload_n 0, 1) := by decide +kernel
theorem dX5_order_12 : decode cX5_order 12 = .ok (.getfield 32, 3) := by decide +kernel
theorem dX5_order_15 : decode cX5_order 15 = .ok (.getfield 165, 3) := by decide +kernel
theorem dX5_order_18 : decode cX5_order 18 = .ok (.aload_n 0, 1) := by decide +kernel
theorem dX5_order_19 : decode cX5_order 19 = .ok (.getfield 32, 3) := by decide +kernel
theorem dX5_order_22 : decode cX5_order 22 = .ok (.getfield 173, 3) := by decide +kernel
theorem dX5_order_25 : decode cX5_order 25 = .ok (.invokevirtual 203, 3) := by decide +kernel
theorem dX5_order_28 : decode cX5_order 28 = .ok (.iload_n 1, 1) := by decide +kernel
theorem dX5_order_29 : decode cX5_order 29 = .ok (.iconst (-1), 1) := by decide +kernel
theorem dX5_order_30 : decode cX5_order 30 = .ok (.if_icmp .ne 11, 3) := by decide +kernel
theorem dX5_order_33 : decode cX5_order 33 = .ok (.aload_n 0, 1) := by decide +kernel
theorem dX5_order_34 : decode cX5_order 34 = .ok (.getfield 42, 3) := by decide +kernel
theorem dX5_order_37 : decode cX5_order 37 = .ok (.getfield 207, 3) := by decide +kernel
theorem dX5_order_40 : decode cX5_order 40 = .ok (.ireturn, 1) := by decide +kernel
theorem dX5_order_41 : decode cX5_order 41 = .ok (.iload_n 1, 1) := by decide +kernel
theorem dX5_order_42 : decode cX5_order 42 = .ok (.aload_n 0, 1) := by decide +kernel
theorem dX5_order_43 : decode cX5_order 43 = .ok (.getfield 42, 3) := by decide +kernel
theorem dX5_order_46 : decode cX5_order 46 = .ok (.getfield 210, 3) := by decide +kernel
theorem dX5_order_49 : decode cX5_order 49 = .ok (.if_icmp .ge 21, 3) := by decide +kernel
theorem dX5_order_52 : decode cX5_order 52 = .ok (.iload_n 1, 1) := by decide +kernel
theorem dX5_order_53 : decode cX5_order 53 = .ok (.bipush 7, 2) := by decide +kernel
theorem dX5_order_55 : decode cX5_order 55 = .ok (.if_icmp .ge 15, 3) := by decide +kernel
theorem dX5_order_58 : decode cX5_order 58 = .ok (.aload_n 0, 1) := by decide +kernel
theorem dX5_order_59 : decode cX5_order 59 = .ok (.getfield 42, 3) := by decide +kernel
theorem dX5_order_62 : decode cX5_order 62 = .ok (.getfield 211, 3) := by decide +kernel
theorem dX5_order_65 : decode cX5_order 65 = .ok (.iload_n 1, 1) := by decide +kernel
theorem dX5_order_66 : decode cX5_order 66 = .ok (.iaload, 1) := by decide +kernel
theorem dX5_order_67 : decode cX5_order 67 = .ok (.goto 5, 3) := by decide +kernel
theorem dX5_order_70 : decode cX5_order 70 = .ok (.bipush (-4), 2) := by decide +kernel
theorem dX5_order_72 : decode cX5_order 72 = .ok (.ireturn, 1) := by decide +kernel
theorem dX5_ways_0 : decode cX5_ways 0 = .ok (.iload_n 1, 1) := by decide +kernel
theorem dX5_ways_1 : decode cX5_ways 1 = .ok (.invokestatic 145, 3) := by decide +kernel
theorem dX5_ways_4 : decode cX5_ways 4 = .ok (.ifCond .ne 5, 3) := by decide +kernel
theorem dX5_ways_7 : decode cX5_ways 7 = .ok (.iconst (-1), 1) := by decide +kernel
theorem dX5_ways_8 : decode cX5_ways 8 = .ok (.ireturn, 1) := by decide +kernel
theorem dX5_ways_9 : decode cX5_ways 9 = .ok (.iload_n 1, 1) := by decide +kernel
theorem dX5_ways_10 : decode cX5_ways 10 = .ok (.ifCond .ne 27, 3) := by decide +kernel
theorem dX5_ways_13 : decode cX5_ways 13 = .ok (.aload_n 0, 1) := by decide +kernel
theorem dX5_ways_14 : decode cX5_ways 14 = .ok (.getfield 42, 3) := by decide +kernel
theorem dX5_ways_17 : decode cX5_ways 17 = .ok (.aload_n 0, 1) := by decide +kernel
theorem dX5_ways_18 : decode cX5_ways 18 = .ok (.getfield 32, 3) := by decide +kernel
theorem dX5_ways_21 : decode cX5_ways 21 = .ok (.getfield 165, 3) := by decide +kernel
theorem dX5_ways_24 : decode cX5_ways 24 = .ok (.aload_n 0, 1) := by decide +kernel
theorem dX5_ways_25 : decode cX5_ways 25 = .ok (.getfield 32, 3) := by decide +kernel
theorem dX5_ways_28 : decode cX5_ways 28 = .ok (.getfield 173, 3) := by decide +kernel
theorem dX5_ways_31 : decode cX5_ways 31 = .ok (.invokevirtual 214, 3) := by decide +kernel
theorem dX5_ways_34 : decode cX5_ways 34 = .ok (.goto 24, 3) := by decide +kernel
theorem dX5_ways_37 : decode cX5_ways 37 = .ok (.aload_n 0, 1) := by decide +kernel
theorem dX5_ways_38 : decode cX5_ways 38 = .ok (.getfield 42, 3) := by decide +kernel
theorem dX5_ways_41 : decode cX5_ways 41 = .ok (.aload_n 0, 1) := by decide +kernel
theorem dX5_ways_42 : decode cX5_ways 42 = .ok (.getfield 32, 3) := by decide +kernel
theorem dX5_ways_45 : decode cX5_ways 45 = .ok (.getfield 165, 3) := by decide +kernel
theorem dX5_ways_48 : decode cX5_ways 48 = .ok (.aload_n 0, 1) := by decide +kernel
theorem dX5_ways_49 : decode cX5_ways 49 = .ok (.getfield 32, 3) := by decide +kernel
theorem dX5_ways_52 : decode cX5_ways 52 = .ok (.getfield 173, 3) := by decide +kernel
theorem dX5_ways_55 : decode cX5_ways 55 = .ok (.invokevirtual 217, 3) := by decide +kernel
theorem dX5_ways_58 : decode cX5_ways 58 = .ok (.ireturn, 1) := by decide +kernel
theorem dX5_weakest_0 : decode cX5_weakest 0 = .ok (.aload_n 0, 1) := by decide +kernel
theorem dX5_weakest_1 : decode cX5_weakest 1 = .ok (.getfield 32, 3) := by decide +kernel
theorem dX5_weakest_4 : decode cX5_weakest 4 = .ok (.invokevirtual 197, 3) := by decide +kernel
theorem dX5_weakest_7 : decode cX5_weakest 7 = .ok (.istore_n 1, 1) := by decide +kernel
theorem dX5_weakest_8 : decode cX5_weakest 8 = .ok (.iload_n 1, 1) := by decide +kernel
theorem dX5_weakest_9 : decode cX5_weakest 9 = .ok (.ifCond .ne 6, 3) := by decide +kernel
theorem dX5_weakest_12 : decode cX5_weakest 12 = .ok (.bipush (-4), 2) := by decide +kernel
theorem dX5_weakest_14 : decode cX5_weakest 14 = .ok (.ireturn, 1) := by decide +kernel
theorem dX5_weakest_15 : decode cX5_weakest 15 = .ok (.iconst 1, 1) := by decide +kernel
theorem dX5_weakest_16 : decode cX5_weakest 16 = .ok (.istore_n 2, 1) := by decide +kernel
theorem dX5_weakest_17 : decode cX5_weakest 17 = .ok (.iload_n 2, 1) := by decide +kernel
theorem dX5_weakest_18 : decode cX5_weakest 18 = .ok (.bipush 9, 2) := by decide +kernel
theorem dX5_weakest_20 : decode cX5_weakest 20 = .ok (.if_icmp .gt 23, 3) := by decide +kernel
theorem dX5_weakest_23 : decode cX5_weakest 23 = .ok (.aload_n 0, 1) := by decide +kernel
theorem dX5_weakest_24 : decode cX5_weakest 24 = .ok (.getfield 32, 3) := by decide +kernel
theorem dX5_weakest_27 : decode cX5_weakest 27 = .ok (.iload_n 2, 1) := by decide +kernel
theorem dX5_weakest_28 : decode cX5_weakest 28 = .ok (.invokevirtual 188, 3) := by decide +kernel
theorem dX5_weakest_31 : decode cX5_weakest 31 = .ok (.iload_n 1, 1) := by decide +kernel
theorem dX5_weakest_32 : decode cX5_weakest 32 = .ok (.if_icmp .ne 5, 3) := by decide +kernel
theorem dX5_weakest_35 : decode cX5_weakest 35 = .ok (.iload_n 2, 1) := by decide +kernel
theorem dX5_weakest_36 : decode cX5_weakest 36 = .ok (.ireturn, 1) := by decide +kernel
theorem dX5_weakest_37 : decode cX5_weakest 37 = .ok (.iinc 2 1, 3) := by decide +kernel
theorem dX5_weakest_40 : decode cX5_weakest 40 = .ok (.goto (-23), 3) := by decide +kernel
theorem dX5_weakest_43 : decode cX5_weakest 43 = .ok (.bipush (-4), 2) := by decide +kernel
theorem dX5_weakest_45 : decode cX5_weakest 45 = .ok (.ireturn, 1) := by decide +kernel
theorem dX5_seen_0 : decode cX5_seen 0 = .ok (.aload_n 0, 1) := by decide +kernel
theorem dX5_seen_1 : decode cX5_seen 1 = .ok (.getfield 23, 3) := by decide +kernel
theorem dX5_seen_4 : decode cX5_seen 4 = .ok (.iload_n 1, 1) := by decide +kernel
theorem dX5_seen_5 : decode cX5_seen 5 = .ok (.invokevirtual 110, 3) := by decide +kernel
theorem dX5_seen_8 : decode cX5_seen 8 = .ok (.ifCond .eq 10, 3) := by decide +kernel
theorem dX5_seen_11 : decode cX5_seen 11 = .ok (.iload_n 2, 1) := by decide +kernel
theorem dX5_seen_12 : decode cX5_seen 12 = .ok (.invokestatic 145, 3) := by decide +kernel
theorem dX5_seen_15 : decode cX5_seen 15 = .ok (.ifCond .ne 5, 3) := by decide +kernel
theorem dX5_seen_18 : decode cX5_seen 18 = .ok (.iconst (-1), 1) := by decide +kernel
theorem dX5_seen_19 : decode cX5_seen 19 = .ok (.ireturn, 1) := by decide +kernel
theorem dX5_seen_20 : decode cX5_seen 20 = .ok (.aload_n 0, 1) := by decide +kernel
theorem dX5_seen_21 : decode cX5_seen 21 = .ok (.getfield 32, 3) := by decide +kernel
theorem dX5_seen_24 : decode cX5_seen 24 = .ok (.iload_n 1, 1) := by decide +kernel
theorem dX5_seen_25 : decode cX5_seen 25 = .ok (.invokevirtual 126, 3) := by decide +kernel
theorem dX5_seen_28 : decode cX5_seen 28 = .ok (.ifCond .eq 15, 3) := by decide +kernel
theorem dX5_seen_31 : decode cX5_seen 31 = .ok (.aload_n 0, 1) := by decide +kernel
theorem dX5_seen_32 : decode cX5_seen 32 = .ok (.getfield 100, 3) := by decide +kernel
theorem dX5_seen_35 : decode cX5_seen 35 = .ok (.iload_n 1, 1) := by decide +kernel
theorem dX5_seen_36 : decode cX5_seen 36 = .ok (.ishr, 1) := by decide +kernel
theorem dX5_seen_37 : decode cX5_seen 37 = .ok (.iconst 1, 1) := by decide +kernel
theorem dX5_seen_38 : decode cX5_seen 38 = .ok (.iand, 1) := by decide +kernel
theorem dX5_seen_39 : decode cX5_seen 39 = .ok (.iconst 1, 1) := by decide +kernel
theorem dX5_seen_40 : decode cX5_seen 40 = .ok (.if_icmp .ne 6, 3) := by decide +kernel
theorem dX5_seen_43 : decode cX5_seen 43 = .ok (.bipush (-2), 2) := by decide +kernel
theorem dX5_seen_45 : decode cX5_seen 45 = .ok (.ireturn, 1) := by decide +kernel
theorem dX5_seen_46 : decode cX5_seen 46 = .ok (.aload_n 0, 1) := by decide +kernel
theorem dX5_seen_47 : decode cX5_seen 47 = .ok (.dup, 1) := by decide +kernel
theorem dX5_seen_48 : decode cX5_seen 48 = .ok (.getfield 100, 3) := by decide +kernel
theorem dX5_seen_51 : decode cX5_seen 51 = .ok (.iconst 1, 1) := by decide +kernel
theorem dX5_seen_52 : decode cX5_seen 52 = .ok (.iload_n 1, 1) := by decide +kernel
theorem dX5_seen_53 : decode cX5_seen 53 = .ok (.ishl, 1) := by decide +kernel
theorem dX5_seen_54 : decode cX5_seen 54 = .ok (.ior, 1) := by decide +kernel
theorem dX5_seen_55 : decode cX5_seen 55 = .ok (.putfield 100, 3) := by decide +kernel
theorem dX5_seen_58 : decode cX5_seen 58 = .ok (.aload_n 0, 1) := by decide +kernel
theorem dX5_seen_59 : decode cX5_seen 59 = .ok (.dup, 1) := by decide +kernel
theorem dX5_seen_60 : decode cX5_seen 60 = .ok (.getfield 103, 3) := by decide +kernel
theorem dX5_seen_63 : decode cX5_seen 63 = .ok (.iload_n 2, 1) := by decide +kernel
theorem dX5_seen_64 : decode cX5_seen 64 = .ok (.iload_n 1, 1) := by decide +kernel
theorem dX5_seen_65 : decode cX5_seen 65 = .ok (.ishl, 1) := by decide +kernel
theorem dX5_seen_66 : decode cX5_seen 66 = .ok (.ior, 1) := by decide +kernel
theorem dX5_seen_67 : decode cX5_seen 67 = .ok (.putfield 103, 3) := by decide +kernel
theorem dX5_seen_70 : decode cX5_seen 70 = .ok (.aload_n 0, 1) := by decide +kernel
theorem dX5_seen_71 : decode cX5_seen 71 = .ok (.getfield 100, 3) := by decide +kernel
theorem dX5_seen_74 : decode cX5_seen 74 = .ok (.invokestatic 168, 3) := by decide +kernel
theorem dX5_seen_77 : decode cX5_seen 77 = .ok (.ireturn, 1) := by decide +kernel
theorem dX5_forget_0 : decode cX5_forget 0 = .ok (.aload_n 0, 1) := by decide +kernel
theorem dX5_forget_1 : decode cX5_forget 1 = .ok (.getfield 100, 3) := by decide +kernel
theorem dX5_forget_4 : decode cX5_forget 4 = .ok (.invokestatic 168, 3) := by decide +kernel
theorem dX5_forget_7 : decode cX5_forget 7 = .ok (.istore_n 1, 1) := by decide +kernel
theorem dX5_forget_8 : decode cX5_forget 8 = .ok (.aload_n 0, 1) := by decide +kernel
theorem dX5_forget_9 : decode cX5_forget 9 = .ok (.iconst 0, 1) := by decide +kernel
theorem dX5_forget_10 : decode cX5_forget 10 = .ok (.putfield 100, 3) := by decide +kernel
theorem dX5_forget_13 : decode cX5_forget 13 = .ok (.aload_n 0, 1) := by decide +kernel
theorem dX5_forget_14 : decode cX5_forget 14 = .ok (.iconst 0, 1) := by decide +kernel
theorem dX5_forget_15 : decode cX5_forget 15 = .ok (.putfield 103, 3) := by decide +kernel
theorem dX5_forget_18 : decode cX5_forget 18 = .ok (.iload_n 1, 1) := by decide +kernel
theorem dX5_forget_19 : decode cX5_forget 19 = .ok (.ireturn, 1) := by decide +kernel
theorem dX5_strong_0 : decode cX5_strong 0 = .ok (.aload_n 0, 1) := by decide +kernel
theorem dX5_strong_1 : decode cX5_strong 1 = .ok (.getfield 100, 3) := by decide +kernel
theorem dX5_strong_4 : decode cX5_strong 4 = .ok (.aload_n 0, 1) := by decide +kernel
theorem dX5_strong_5 : decode cX5_strong 5 = .ok (.getfield 32, 3) := by decide +kernel
theorem dX5_strong_8 : decode cX5_strong 8 = .ok (.invokevirtual 197, 3) := by decide +kernel
theorem dX5_strong_11 : decode cX5_strong 11 = .ok (.iand, 1) := by decide +kernel
theorem dX5_strong_12 : decode cX5_strong 12 = .ok (.istore_n 1, 1) := by decide +kernel
theorem dX5_strong_13 : decode cX5_strong 13 = .ok (.iconst 0, 1) := by decide +kernel
theorem dX5_strong_14 : decode cX5_strong 14 = .ok (.istore_n 2, 1) := by decide +kernel
theorem dX5_strong_15 : decode cX5_strong 15 = .ok (.iconst 1, 1) := by decide +kernel
theorem dX5_strong_16 : decode cX5_strong 16 = .ok (.istore_n 3, 1) := by decide +kernel
theorem dX5_strong_17 : decode cX5_strong 17 = .ok (.iload_n 3, 1) := by decide +kernel
theorem dX5_strong_18 : decode cX5_strong 18 = .ok (.bipush 9, 2) := by decide +kernel
theorem dX5_strong_20 : decode cX5_strong 20 = .ok (.if_icmp .gt 34, 3) := by decide +kernel
theorem dX5_strong_23 : decode cX5_strong 23 = .ok (.aload_n 0, 1) := by decide +kernel
theorem dX5_strong_24 : decode cX5_strong 24 = .ok (.getfield 32, 3) := by decide +kernel
theorem dX5_strong_27 : decode cX5_strong 27 = .ok (.iload_n 3, 1) := by decide +kernel
theorem dX5_strong_28 : decode cX5_strong 28 = .ok (.invokevirtual 188, 3) := by decide +kernel
theorem dX5_strong_31 : decode cX5_strong 31 = .ok (.iload_n 1, 1) := by decide +kernel
theorem dX5_strong_32 : decode cX5_strong 32 = .ok (.iand, 1) := by decide +kernel
theorem dX5_strong_33 : decode cX5_strong 33 = .ok (.aload_n 0, 1) := by decide +kernel
theorem dX5_strong_34 : decode cX5_strong 34 = .ok (.getfield 103, 3) := by decide +kernel
theorem dX5_strong_37 : decode cX5_strong 37 = .ok (.iload_n 1, 1) := by decide +kernel
theorem dX5_strong_38 : decode cX5_strong 38 = .ok (.iand, 1) := by decide +kernel
theorem dX5_strong_39 : decode cX5_strong 39 = .ok (.if_icmp .ne 9, 3) := by decide +kernel
theorem dX5_strong_42 : decode cX5_strong 42 = .ok (.iload_n 2, 1) := by decide +kernel
theorem dX5_strong_43 : decode cX5_strong 43 = .ok (.iconst 1, 1) := by decide +kernel
theorem dX5_strong_44 : decode cX5_strong 44 = .ok (.iload_n 3, 1) := by decide +kernel
theorem dX5_strong_45 : decode cX5_strong 45 = .ok (.ishl, 1) := by decide +kernel
theorem dX5_strong_46 : decode cX5_strong 46 = .ok (.ior, 1) := by decide +kernel
theorem dX5_strong_47 : decode cX5_strong 47 = .ok (.istore_n 2, 1) := by decide +kernel
theorem dX5_strong_48 : decode cX5_strong 48 = .ok (.iinc 3 1, 3) := by decide +kernel
theorem dX5_strong_51 : decode cX5_strong 51 = .ok (.goto (-34), 3) := by decide +kernel
theorem dX5_strong_54 : decode cX5_strong 54 = .ok (.iload_n 2, 1) := by decide +kernel
theorem dX5_strong_55 : decode cX5_strong 55 = .ok (.ireturn, 1) := by decide +kernel
theorem dX5_run_0 : decode cX5_run 0 = .ok (.iload_n 1, 1) := by decide +kernel
theorem dX5_run_1 : decode cX5_run 1 = .ok (.invokestatic 220, 3) := by decide +kernel
theorem dX5_run_4 : decode cX5_run 4 = .ok (.ifCond .eq 21, 3) := by decide +kernel
theorem dX5_run_7 : decode cX5_run 7 = .ok (.iload_n 2, 1) := by decide +kernel
theorem dX5_run_8 : decode cX5_run 8 = .ok (.iconst 1, 1) := by decide +kernel
theorem dX5_run_9 : decode cX5_run 9 = .ok (.if_icmp .lt 16, 3) := by decide +kernel
theorem dX5_run_12 : decode cX5_run 12 = .ok (.iload_n 2, 1) := by decide +kernel
theorem dX5_run_13 : decode cX5_run 13 = .ok (.bipush 24, 2) := by decide +kernel
theorem dX5_run_15 : decode cX5_run 15 = .ok (.if_icmp .gt 10, 3) := by decide +kernel
theorem dX5_run_18 : decode cX5_run 18 = .ok (.iload_n 3, 1) := by decide +kernel
theorem dX5_run_19 : decode cX5_run 19 = .ok (.invokestatic 145, 3) := by decide +kernel
theorem dX5_run_22 : decode cX5_run 22 = .ok (.ifCond .ne 5, 3) := by decide +kernel
theorem dX5_run_25 : decode cX5_run 25 = .ok (.iconst (-1), 1) := by decide +kernel
theorem dX5_run_26 : decode cX5_run 26 = .ok (.ireturn, 1) := by decide +kernel
theorem dX5_run_27 : decode cX5_run 27 = .ok (.aload_n 0, 1) := by decide +kernel
theorem dX5_run_28 : decode cX5_run 28 = .ok (.iload_n 1, 1) := by decide +kernel
theorem dX5_run_29 : decode cX5_run 29 = .ok (.iload_n 2, 1) := by decide +kernel
theorem dX5_run_30 : decode cX5_run 30 = .ok (.invokevirtual 223, 3) := by decide +kernel
theorem dX5_run_33 : decode cX5_run 33 = .ok (.istore 4, 2) := by decide +kernel
theorem dX5_run_35 : decode cX5_run 35 = .ok (.iload_n 3, 1) := by decide +kernel
theorem dX5_run_36 : decode cX5_run 36 = .ok (.ifCond .ne 8, 3) := by decide +kernel
theorem dX5_run_39 : decode cX5_run 39 = .ok (.iload 4, 2) := by decide +kernel
theorem dX5_run_41 : decode cX5_run 41 = .ok (.goto 9, 3) := by decide +kernel
theorem dX5_run_44 : decode cX5_run 44 = .ok (.aload_n 0, 1) := by decide +kernel
theorem dX5_run_45 : decode cX5_run 45 = .ok (.iload 4, 2) := by decide +kernel
theorem dX5_run_47 : decode cX5_run 47 = .ok (.invokevirtual 226, 3) := by decide +kernel
theorem dX5_run_50 : decode cX5_run 50 = .ok (.ireturn, 1) := by decide +kernel
theorem dX5_cheapestHour_0 : decode cX5_cheapestHour 0 = .ok (.iload_n 1, 1) := by decide +kernel
theorem dX5_cheapestHour_1 : decode cX5_cheapestHour 1 = .ok (.bipush 24, 2) := by decide +kernel
theorem dX5_cheapestHour_3 : decode cX5_cheapestHour 3 = .ok (.irem, 1) := by decide +kernel
theorem dX5_cheapestHour_4 : decode cX5_cheapestHour 4 = .ok (.istore_n 3, 1) := by decide +kernel
theorem dX5_cheapestHour_5 : decode cX5_cheapestHour 5 = .ok (.iconst 1, 1) := by decide +kernel
theorem dX5_cheapestHour_6 : decode cX5_cheapestHour 6 = .ok (.istore 4, 2) := by decide +kernel
theorem dX5_cheapestHour_8 : decode cX5_cheapestHour 8 = .ok (.iload 4, 2) := by decide +kernel
theorem dX5_cheapestHour_10 : decode cX5_cheapestHour 10 = .ok (.iload_n 2, 1) := by decide +kernel
theorem dX5_cheapestHour_11 : decode cX5_cheapestHour 11 = .ok (.if_icmp .ge 35, 3) := by decide +kernel
theorem dX5_cheapestHour_14 : decode cX5_cheapestHour 14 = .ok (.iload_n 1, 1) := by decide +kernel
theorem dX5_cheapestHour_15 : decode cX5_cheapestHour 15 = .ok (.iload 4, 2) := by decide +kernel
theorem dX5_cheapestHour_17 : decode cX5_cheapestHour 17 = .ok (.iadd, 1) := by decide +kernel
theorem dX5_cheapestHour_18 : decode cX5_cheapestHour 18 = .ok (.bipush 24, 2) := by decide +kernel
theorem dX5_cheapestHour_20 : decode cX5_cheapestHour 20 = .ok (.irem, 1) := by decide +kernel
theorem dX5_cheapestHour_21 : decode cX5_cheapestHour 21 = .ok (.istore 5, 2) := by decide +kernel
theorem dX5_cheapestHour_23 : decode cX5_cheapestHour 23 = .ok (.aload_n 0, 1) := by decide +kernel
theorem dX5_cheapestHour_24 : decode cX5_cheapestHour 24 = .ok (.iload 5, 2) := by decide +kernel
theorem dX5_cheapestHour_26 : decode cX5_cheapestHour 26 = .ok (.invokevirtual 226, 3) := by decide +kernel
theorem dX5_cheapestHour_29 : decode cX5_cheapestHour 29 = .ok (.aload_n 0, 1) := by decide +kernel
theorem dX5_cheapestHour_30 : decode cX5_cheapestHour 30 = .ok (.iload_n 3, 1) := by decide +kernel
theorem dX5_cheapestHour_31 : decode cX5_cheapestHour 31 = .ok (.invokevirtual 226, 3) := by decide +kernel
theorem dX5_cheapestHour_34 : decode cX5_cheapestHour 34 = .ok (.if_icmp .ge 6, 3) := by decide +kernel
theorem dX5_cheapestHour_37 : decode cX5_cheapestHour 37 = .ok (.iload 5, 2) := by decide +kernel
theorem dX5_cheapestHour_39 : decode cX5_cheapestHour 39 = .ok (.istore_n 3, 1) := by decide +kernel
theorem dX5_cheapestHour_40 : decode cX5_cheapestHour 40 = .ok (.iinc 4 1, 3) := by decide +kernel
theorem dX5_cheapestHour_43 : decode cX5_cheapestHour 43 = .ok (.goto (-35), 3) := by decide +kernel
theorem dX5_cheapestHour_46 : decode cX5_cheapestHour 46 = .ok (.iload_n 3, 1) := by decide +kernel
theorem dX5_cheapestHour_47 : decode cX5_cheapestHour 47 = .ok (.ireturn, 1) := by decide +kernel
theorem dX5_costAt_0 : decode cX5_costAt 0 = .ok (.iload_n 1, 1) := by decide +kernel
theorem dX5_costAt_1 : decode cX5_costAt 1 = .ok (.invokestatic 220, 3) := by decide +kernel
theorem dX5_costAt_4 : decode cX5_costAt 4 = .ok (.ifCond .eq 15, 3) := by decide +kernel
theorem dX5_costAt_7 : decode cX5_costAt 7 = .ok (.aload_n 0, 1) := by decide +kernel
theorem dX5_costAt_8 : decode cX5_costAt 8 = .ok (.getfield 23, 3) := by decide +kernel
theorem dX5_costAt_11 : decode cX5_costAt 11 = .ok (.getfield 229, 3) := by decide +kernel
theorem dX5_costAt_14 : decode cX5_costAt 14 = .ok (.iload_n 1, 1) := by decide +kernel
theorem dX5_costAt_15 : decode cX5_costAt 15 = .ok (.iaload, 1) := by decide +kernel
theorem dX5_costAt_16 : decode cX5_costAt 16 = .ok (.goto 4, 3) := by decide +kernel
theorem dX5_costAt_19 : decode cX5_costAt 19 = .ok (.iconst 0, 1) := by decide +kernel
theorem dX5_costAt_20 : decode cX5_costAt 20 = .ok (.ireturn, 1) := by decide +kernel
theorem dX5_half_0 : decode cX5_half 0 = .ok (.iload_n 1, 1) := by decide +kernel
theorem dX5_half_1 : decode cX5_half 1 = .ok (.invokestatic 220, 3) := by decide +kernel
theorem dX5_half_4 : decode cX5_half 4 = .ok (.ifCond .eq 14, 3) := by decide +kernel
theorem dX5_half_7 : decode cX5_half 7 = .ok (.iload_n 2, 1) := by decide +kernel
theorem dX5_half_8 : decode cX5_half 8 = .ok (.iconst 1, 1) := by decide +kernel
theorem dX5_half_9 : decode cX5_half 9 = .ok (.if_icmp .lt 9, 3) := by decide +kernel
theorem dX5_half_12 : decode cX5_half 12 = .ok (.iload_n 2, 1) := by decide +kernel
theorem dX5_half_13 : decode cX5_half 13 = .ok (.bipush 24, 2) := by decide +kernel
theorem dX5_half_15 : decode cX5_half 15 = .ok (.if_icmp .le 5, 3) := by decide +kernel
theorem dX5_half_18 : decode cX5_half 18 = .ok (.iconst (-1), 1) := by decide +kernel
theorem dX5_half_19 : decode cX5_half 19 = .ok (.ireturn, 1) := by decide +kernel
theorem dX5_half_20 : decode cX5_half 20 = .ok (.aload_n 0, 1) := by decide +kernel
theorem dX5_half_21 : decode cX5_half 21 = .ok (.getfield 32, 3) := by decide +kernel
theorem dX5_half_24 : decode cX5_half 24 = .ok (.invokevirtual 194, 3) := by decide +kernel
theorem dX5_half_27 : decode cX5_half 27 = .ok (.istore_n 3, 1) := by decide +kernel
theorem dX5_half_28 : decode cX5_half 28 = .ok (.iload_n 3, 1) := by decide +kernel
theorem dX5_half_29 : decode cX5_half 29 = .ok (.ifCond .ne 5, 3) := by decide +kernel
theorem dX5_half_32 : decode cX5_half 32 = .ok (.iconst 0, 1) := by decide +kernel
theorem dX5_half_33 : decode cX5_half 33 = .ok (.ireturn, 1) := by decide +kernel
theorem dX5_half_34 : decode cX5_half 34 = .ok (.aload_n 0, 1) := by decide +kernel
theorem dX5_half_35 : decode cX5_half 35 = .ok (.getfield 42, 3) := by decide +kernel
theorem dX5_half_38 : decode cX5_half 38 = .ok (.aload_n 0, 1) := by decide +kernel
theorem dX5_half_39 : decode cX5_half 39 = .ok (.getfield 32, 3) := by decide +kernel
theorem dX5_half_42 : decode cX5_half 42 = .ok (.getfield 165, 3) := by decide +kernel
theorem dX5_half_45 : decode cX5_half 45 = .ok (.aload_n 0, 1) := by decide +kernel
theorem dX5_half_46 : decode cX5_half 46 = .ok (.getfield 32, 3) := by decide +kernel
theorem dX5_half_49 : decode cX5_half 49 = .ok (.getfield 173, 3) := by decide +kernel
theorem dX5_half_52 : decode cX5_half 52 = .ok (.invokevirtual 203, 3) := by decide +kernel
theorem dX5_half_55 : decode cX5_half 55 = .ok (.aload_n 0, 1) := by decide +kernel
theorem dX5_half_56 : decode cX5_half 56 = .ok (.getfield 42, 3) := by decide +kernel
theorem dX5_half_59 : decode cX5_half 59 = .ok (.getfield 207, 3) := by decide +kernel
theorem dX5_half_62 : decode cX5_half 62 = .ok (.ifCond .ne 5, 3) := by decide +kernel
theorem dX5_half_65 : decode cX5_half 65 = .ok (.iconst 1, 1) := by decide +kernel
theorem dX5_half_66 : decode cX5_half 66 = .ok (.ireturn, 1) := by decide +kernel
theorem dX5_half_67 : decode cX5_half 67 = .ok (.aload_n 0, 1) := by decide +kernel
theorem dX5_half_68 : decode cX5_half 68 = .ok (.aload_n 0, 1) := by decide +kernel
theorem dX5_half_69 : decode cX5_half 69 = .ok (.iload_n 1, 1) := by decide +kernel
theorem dX5_half_70 : decode cX5_half 70 = .ok (.iload_n 2, 1) := by decide +kernel
theorem dX5_half_71 : decode cX5_half 71 = .ok (.invokevirtual 223, 3) := by decide +kernel
theorem dX5_half_74 : decode cX5_half 74 = .ok (.invokevirtual 226, 3) := by decide +kernel
theorem dX5_half_77 : decode cX5_half 77 = .ok (.istore 4, 2) := by decide +kernel
theorem dX5_half_79 : decode cX5_half 79 = .ok (.aload_n 0, 1) := by decide +kernel
theorem dX5_half_80 : decode cX5_half 80 = .ok (.aload_n 0, 1) := by decide +kernel
theorem dX5_half_81 : decode cX5_half 81 = .ok (.iload_n 1, 1) := by decide +kernel
theorem dX5_half_82 : decode cX5_half 82 = .ok (.iload_n 2, 1) := by decide +kernel
theorem dX5_half_83 : decode cX5_half 83 = .ok (.iadd, 1) := by decide +kernel
theorem dX5_half_84 : decode cX5_half 84 = .ok (.iload_n 2, 1) := by decide +kernel
theorem dX5_half_85 : decode cX5_half 85 = .ok (.invokevirtual 223, 3) := by decide +kernel
theorem dX5_half_88 : decode cX5_half 88 = .ok (.invokevirtual 226, 3) := by decide +kernel
theorem dX5_half_91 : decode cX5_half 91 = .ok (.istore 5, 2) := by decide +kernel
theorem dX5_half_93 : decode cX5_half 93 = .ok (.iload 4, 2) := by decide +kernel
theorem dX5_half_95 : decode cX5_half 95 = .ok (.aload_n 0, 1) := by decide +kernel
theorem dX5_half_96 : decode cX5_half 96 = .ok (.getfield 42, 3) := by decide +kernel
theorem dX5_half_99 : decode cX5_half 99 = .ok (.getfield 207, 3) := by decide +kernel
theorem dX5_half_102 : decode cX5_half 102 = .ok (.imul, 1) := by decide +kernel
theorem dX5_half_103 : decode cX5_half 103 = .ok (.iload 5, 2) := by decide +kernel
theorem dX5_half_105 : decode cX5_half 105 = .ok (.iload_n 3, 1) := by decide +kernel
theorem dX5_half_106 : decode cX5_half 106 = .ok (.imul, 1) := by decide +kernel
theorem dX5_half_107 : decode cX5_half 107 = .ok (.if_icmp .ge 7, 3) := by decide +kernel
theorem dX5_half_110 : decode cX5_half 110 = .ok (.iconst 1, 1) := by decide +kernel
theorem dX5_half_111 : decode cX5_half 111 = .ok (.goto 4, 3) := by decide +kernel
theorem dX5_half_114 : decode cX5_half 114 = .ok (.iconst 0, 1) := by decide +kernel
theorem dX5_half_115 : decode cX5_half 115 = .ok (.ireturn, 1) := by decide +kernel
theorem dX5_isClean_0 : decode cX5_isClean 0 = .ok (.iload_n 1, 1) := by decide +kernel
theorem dX5_isClean_1 : decode cX5_isClean 1 = .ok (.invokestatic 232, 3) := by decide +kernel
theorem dX5_isClean_4 : decode cX5_isClean 4 = .ok (.ifCond .eq 33, 3) := by decide +kernel
theorem dX5_isClean_7 : decode cX5_isClean 7 = .ok (.iload_n 2, 1) := by decide +kernel
theorem dX5_isClean_8 : decode cX5_isClean 8 = .ok (.invokestatic 232, 3) := by decide +kernel
theorem dX5_isClean_11 : decode cX5_isClean 11 = .ok (.ifCond .eq 26, 3) := by decide +kernel
theorem dX5_isClean_14 : decode cX5_isClean 14 = .ok (.iload_n 3, 1) := by decide +kernel
theorem dX5_isClean_15 : decode cX5_isClean 15 = .ok (.invokestatic 232, 3) := by decide +kernel
theorem dX5_isClean_18 : decode cX5_isClean 18 = .ok (.ifCond .eq 19, 3) := by decide +kernel
theorem dX5_isClean_21 : decode cX5_isClean 21 = .ok (.iload 4, 2) := by decide +kernel
theorem dX5_isClean_23 : decode cX5_isClean 23 = .ok (.invokestatic 232, 3) := by decide +kernel
theorem dX5_isClean_26 : decode cX5_isClean 26 = .ok (.ifCond .eq 11, 3) := by decide +kernel
theorem dX5_isClean_29 : decode cX5_isClean 29 = .ok (.iload 5, 2) := by decide +kernel
theorem dX5_isClean_31 : decode cX5_isClean 31 = .ok (.invokestatic 145, 3) := by decide +kernel
theorem dX5_isClean_34 : decode cX5_isClean 34 = .ok (.ifCond .ne 5, 3) := by decide +kernel
theorem dX5_isClean_37 : decode cX5_isClean 37 = .ok (.iconst (-1), 1) := by decide +kernel
theorem dX5_isClean_38 : decode cX5_isClean 38 = .ok (.ireturn, 1) := by decide +kernel
theorem dX5_isClean_39 : decode cX5_isClean 39 = .ok (.iload_n 1, 1) := by decide +kernel
theorem dX5_isClean_40 : decode cX5_isClean 40 = .ok (.iload_n 2, 1) := by decide +kernel
theorem dX5_isClean_41 : decode cX5_isClean 41 = .ok (.imul, 1) := by decide +kernel
theorem dX5_isClean_42 : decode cX5_isClean 42 = .ok (.bipush 10, 2) := by decide +kernel
theorem dX5_isClean_44 : decode cX5_isClean 44 = .ok (.imul, 1) := by decide +kernel
theorem dX5_isClean_45 : decode cX5_isClean 45 = .ok (.istore 6, 2) := by decide +kernel
theorem dX5_isClean_47 : decode cX5_isClean 47 = .ok (.iload 6, 2) := by decide +kernel
theorem dX5_isClean_49 : decode cX5_isClean 49 = .ok (.bipush 10, 2) := by decide +kernel
theorem dX5_isClean_51 : decode cX5_isClean 51 = .ok (.iload_n 1, 1) := by decide +kernel
theorem dX5_isClean_52 : decode cX5_isClean 52 = .ok (.isub, 1) := by decide +kernel
theorem dX5_isClean_53 : decode cX5_isClean 53 = .ok (.iload_n 3, 1) := by decide +kernel
theorem dX5_isClean_54 : decode cX5_isClean 54 = .ok (.imul, 1) := by decide +kernel
theorem dX5_isClean_55 : decode cX5_isClean 55 = .ok (.iload 4, 2) := by decide +kernel
theorem dX5_isClean_57 : decode cX5_isClean 57 = .ok (.imul, 1) := by decide +kernel
theorem dX5_isClean_58 : decode cX5_isClean 58 = .ok (.iadd, 1) := by decide +kernel
theorem dX5_isClean_59 : decode cX5_isClean 59 = .ok (.istore 7, 2) := by decide +kernel
theorem dX5_isClean_61 : decode cX5_isClean 61 = .ok (.iload 7, 2) := by decide +kernel
theorem dX5_isClean_63 : decode cX5_isClean 63 = .ok (.ifCond .ne 6, 3) := by decide +kernel
theorem dX5_isClean_66 : decode cX5_isClean 66 = .ok (.bipush (-4), 2) := by decide +kernel
theorem dX5_isClean_68 : decode cX5_isClean 68 = .ok (.ireturn, 1) := by decide +kernel
theorem dX5_isClean_69 : decode cX5_isClean 69 = .ok (.iload 6, 2) := by decide +kernel
theorem dX5_isClean_71 : decode cX5_isClean 71 = .ok (.iload 7, 2) := by decide +kernel
theorem dX5_isClean_73 : decode cX5_isClean 73 = .ok (.invokestatic 235, 3) := by decide +kernel
theorem dX5_isClean_76 : decode cX5_isClean 76 = .ok (.istore 8, 2) := by decide +kernel
theorem dX5_isClean_78 : decode cX5_isClean 78 = .ok (.iload 8, 2) := by decide +kernel
theorem dX5_isClean_80 : decode cX5_isClean 80 = .ok (.ifCond .ne 6, 3) := by decide +kernel
theorem dX5_isClean_83 : decode cX5_isClean 83 = .ok (.bipush (-4), 2) := by decide +kernel
theorem dX5_isClean_85 : decode cX5_isClean 85 = .ok (.ireturn, 1) := by decide +kernel
theorem dX5_isClean_86 : decode cX5_isClean 86 = .ok (.iload 5, 2) := by decide +kernel
theorem dX5_isClean_88 : decode cX5_isClean 88 = .ok (.ifCond .ne 8, 3) := by decide +kernel
theorem dX5_isClean_91 : decode cX5_isClean 91 = .ok (.iload 6, 2) := by decide +kernel
theorem dX5_isClean_93 : decode cX5_isClean 93 = .ok (.goto 5, 3) := by decide +kernel
theorem dX5_isClean_96 : decode cX5_isClean 96 = .ok (.iload 7, 2) := by decide +kernel
theorem dX5_isClean_98 : decode cX5_isClean 98 = .ok (.iload 8, 2) := by decide +kernel
theorem dX5_isClean_100 : decode cX5_isClean 100 = .ok (.idiv, 1) := by decide +kernel
theorem dX5_isClean_101 : decode cX5_isClean 101 = .ok (.ireturn, 1) := by decide +kernel
theorem dX5_commonDivisor_0 : decode cX5_commonDivisor 0 = .ok (.iload_n 0, 1) := by decide +kernel
theorem dX5_commonDivisor_1 : decode cX5_commonDivisor 1 = .ok (.istore_n 2, 1) := by decide +kernel
theorem dX5_commonDivisor_2 : decode cX5_commonDivisor 2 = .ok (.iload_n 1, 1) := by decide +kernel
theorem dX5_commonDivisor_3 : decode cX5_commonDivisor 3 = .ok (.istore_n 3, 1) := by decide +kernel
theorem dX5_commonDivisor_4 : decode cX5_commonDivisor 4 = .ok (.iconst 0, 1) := by decide +kernel
theorem dX5_commonDivisor_5 : decode cX5_commonDivisor 5 = .ok (.istore 4, 2) := by decide +kernel
theorem dX5_commonDivisor_7 : decode cX5_commonDivisor 7 = .ok (.iload 4, 2) := by decide +kernel
theorem dX5_commonDivisor_9 : decode cX5_commonDivisor 9 = .ok (.bipush 40, 2) := by decide +kernel
theorem dX5_commonDivisor_11 : decode cX5_commonDivisor 11 = .ok (.if_icmp .ge 23, 3) := by decide +kernel
theorem dX5_commonDivisor_14 : decode cX5_commonDivisor 14 = .ok (.iload_n 3, 1) := by decide +kernel
theorem dX5_commonDivisor_15 : decode cX5_commonDivisor 15 = .ok (.ifCond .eq 19, 3) := by decide +kernel
theorem dX5_commonDivisor_18 : decode cX5_commonDivisor 18 = .ok (.iload_n 2, 1) := by decide +kernel
theorem dX5_commonDivisor_19 : decode cX5_commonDivisor 19 = .ok (.iload_n 3, 1) := by decide +kernel
theorem dX5_commonDivisor_20 : decode cX5_commonDivisor 20 = .ok (.irem, 1) := by decide +kernel
theorem dX5_commonDivisor_21 : decode cX5_commonDivisor 21 = .ok (.istore 5, 2) := by decide +kernel
theorem dX5_commonDivisor_23 : decode cX5_commonDivisor 23 = .ok (.iload_n 3, 1) := by decide +kernel
theorem dX5_commonDivisor_24 : decode cX5_commonDivisor 24 = .ok (.istore_n 2, 1) := by decide +kernel
theorem dX5_commonDivisor_25 : decode cX5_commonDivisor 25 = .ok (.iload 5, 2) := by decide +kernel
theorem dX5_commonDivisor_27 : decode cX5_commonDivisor 27 = .ok (.istore_n 3, 1) := by decide +kernel
theorem dX5_commonDivisor_28 : decode cX5_commonDivisor 28 = .ok (.iinc 4 1, 3) := by decide +kernel
theorem dX5_commonDivisor_31 : decode cX5_commonDivisor 31 = .ok (.goto (-24), 3) := by decide +kernel
theorem dX5_commonDivisor_34 : decode cX5_commonDivisor 34 = .ok (.iload_n 2, 1) := by decide +kernel
theorem dX5_commonDivisor_35 : decode cX5_commonDivisor 35 = .ok (.ireturn, 1) := by decide +kernel
theorem dX5_day_0 : decode cX5_day 0 = .ok (.iload_n 1, 1) := by decide +kernel
theorem dX5_day_1 : decode cX5_day 1 = .ok (.ifCond .lt 28, 3) := by decide +kernel
theorem dX5_day_4 : decode cX5_day 4 = .ok (.iload_n 1, 1) := by decide +kernel
theorem dX5_day_5 : decode cX5_day 5 = .ok (.sipush 9999, 3) := by decide +kernel
theorem dX5_day_8 : decode cX5_day 8 = .ok (.if_icmp .gt 21, 3) := by decide +kernel
theorem dX5_day_11 : decode cX5_day 11 = .ok (.iload_n 2, 1) := by decide +kernel
theorem dX5_day_12 : decode cX5_day 12 = .ok (.iconst 1, 1) := by decide +kernel
theorem dX5_day_13 : decode cX5_day 13 = .ok (.if_icmp .lt 16, 3) := by decide +kernel
theorem dX5_day_16 : decode cX5_day 16 = .ok (.iload_n 2, 1) := by decide +kernel
theorem dX5_day_17 : decode cX5_day 17 = .ok (.bipush 30, 2) := by decide +kernel
theorem dX5_day_19 : decode cX5_day 19 = .ok (.if_icmp .gt 10, 3) := by decide +kernel
theorem dX5_day_22 : decode cX5_day 22 = .ok (.iload_n 3, 1) := by decide +kernel
theorem dX5_day_23 : decode cX5_day 23 = .ok (.invokestatic 145, 3) := by decide +kernel
theorem dX5_day_26 : decode cX5_day 26 = .ok (.ifCond .ne 5, 3) := by decide +kernel
theorem dX5_day_29 : decode cX5_day 29 = .ok (.iconst (-1), 1) := by decide +kernel
theorem dX5_day_30 : decode cX5_day 30 = .ok (.ireturn, 1) := by decide +kernel
theorem dX5_day_31 : decode cX5_day 31 = .ok (.aload_n 0, 1) := by decide +kernel
theorem dX5_day_32 : decode cX5_day 32 = .ok (.getfield 36, 3) := by decide +kernel
theorem dX5_day_35 : decode cX5_day 35 = .ok (.aload_n 0, 1) := by decide +kernel
theorem dX5_day_36 : decode cX5_day 36 = .ok (.getfield 32, 3) := by decide +kernel
theorem dX5_day_39 : decode cX5_day 39 = .ok (.invokevirtual 94, 3) := by decide +kernel
theorem dX5_day_42 : decode cX5_day 42 = .ok (.aload_n 0, 1) := by decide +kernel
theorem dX5_day_43 : decode cX5_day 43 = .ok (.getfield 36, 3) := by decide +kernel
theorem dX5_day_46 : decode cX5_day 46 = .ok (.invokevirtual 238, 3) := by decide +kernel
theorem dX5_day_49 : decode cX5_day 49 = .ok (.iconst 0, 1) := by decide +kernel
theorem dX5_day_50 : decode cX5_day 50 = .ok (.istore 4, 2) := by decide +kernel
theorem dX5_day_52 : decode cX5_day 52 = .ok (.iload 4, 2) := by decide +kernel
theorem dX5_day_54 : decode cX5_day 54 = .ok (.iload_n 2, 1) := by decide +kernel
theorem dX5_day_55 : decode cX5_day 55 = .ok (.if_icmp .ge 23, 3) := by decide +kernel
theorem dX5_day_58 : decode cX5_day 58 = .ok (.aload_n 0, 1) := by decide +kernel
theorem dX5_day_59 : decode cX5_day 59 = .ok (.aload_n 0, 1) := by decide +kernel
theorem dX5_day_60 : decode cX5_day 60 = .ok (.getfield 36, 3) := by decide +kernel
theorem dX5_day_63 : decode cX5_day 63 = .ok (.iload_n 1, 1) := by decide +kernel
theorem dX5_day_64 : decode cX5_day 64 = .ok (.iload 4, 2) := by decide +kernel
theorem dX5_day_66 : decode cX5_day 66 = .ok (.invokestatic 241, 3) := by decide +kernel
theorem dX5_day_69 : decode cX5_day 69 = .ok (.invokevirtual 244, 3) := by decide +kernel
theorem dX5_day_72 : decode cX5_day 72 = .ok (.iinc 4 1, 3) := by decide +kernel
theorem dX5_day_75 : decode cX5_day 75 = .ok (.goto (-23), 3) := by decide +kernel
theorem dX5_day_78 : decode cX5_day 78 = .ok (.iload_n 3, 1) := by decide +kernel
theorem dX5_day_79 : decode cX5_day 79 = .ok (.ifCond .ne 13, 3) := by decide +kernel
theorem dX5_day_82 : decode cX5_day 82 = .ok (.aload_n 0, 1) := by decide +kernel
theorem dX5_day_83 : decode cX5_day 83 = .ok (.getfield 36, 3) := by decide +kernel
theorem dX5_day_86 : decode cX5_day 86 = .ok (.invokevirtual 197, 3) := by decide +kernel
theorem dX5_day_89 : decode cX5_day 89 = .ok (.goto 17, 3) := by decide +kernel
theorem dX5_day_92 : decode cX5_day 92 = .ok (.aload_n 0, 1) := by decide +kernel
theorem dX5_day_93 : decode cX5_day 93 = .ok (.getfield 36, 3) := by decide +kernel
theorem dX5_day_96 : decode cX5_day 96 = .ok (.aload_n 0, 1) := by decide +kernel
theorem dX5_day_97 : decode cX5_day 97 = .ok (.getfield 36, 3) := by decide +kernel
theorem dX5_day_100 : decode cX5_day 100 = .ok (.getfield 173, 3) := by decide +kernel
theorem dX5_day_103 : decode cX5_day 103 = .ok (.invokevirtual 188, 3) := by decide +kernel
theorem dX5_day_106 : decode cX5_day 106 = .ok (.ireturn, 1) := by decide +kernel
theorem dX5_drawOf_0 : decode cX5_drawOf 0 = .ok (.ldc2_w 248, 3) := by decide +kernel
theorem dX5_drawOf_3 : decode cX5_drawOf 3 = .ok (.iload_n 0, 1) := by decide +kernel
theorem dX5_drawOf_4 : decode cX5_drawOf 4 = .ok (.i2l, 1) := by decide +kernel
theorem dX5_drawOf_5 : decode cX5_drawOf 5 = .ok (.lmul, 1) := by decide +kernel
theorem dX5_drawOf_6 : decode cX5_drawOf 6 = .ok (.ldc2_w 250, 3) := by decide +kernel
theorem dX5_drawOf_9 : decode cX5_drawOf 9 = .ok (.iload_n 1, 1) := by decide +kernel
theorem dX5_drawOf_10 : decode cX5_drawOf 10 = .ok (.i2l, 1) := by decide +kernel
theorem dX5_drawOf_11 : decode cX5_drawOf 11 = .ok (.lmul, 1) := by decide +kernel
theorem dX5_drawOf_12 : decode cX5_drawOf 12 = .ok (.ladd, 1) := by decide +kernel
theorem dX5_drawOf_13 : decode cX5_drawOf 13 = .ok (.lconst 1, 1) := by decide +kernel
theorem dX5_drawOf_14 : decode cX5_drawOf 14 = .ok (.ladd, 1) := by decide +kernel
theorem dX5_drawOf_15 : decode cX5_drawOf 15 = .ok (.lstore_n 2, 1) := by decide +kernel
theorem dX5_drawOf_16 : decode cX5_drawOf 16 = .ok (.lload_n 2, 1) := by decide +kernel
theorem dX5_drawOf_17 : decode cX5_drawOf 17 = .ok (.lload_n 2, 1) := by decide +kernel
theorem dX5_drawOf_18 : decode cX5_drawOf 18 = .ok (.lmul, 1) := by decide +kernel
theorem dX5_drawOf_19 : decode cX5_drawOf 19 = .ok (.ldc2_w 252, 3) := by decide +kernel
theorem dX5_drawOf_22 : decode cX5_drawOf 22 = .ok (.lrem, 1) := by decide +kernel
theorem dX5_drawOf_23 : decode cX5_drawOf 23 = .ok (.ldc2_w 254, 3) := by decide +kernel
theorem dX5_drawOf_26 : decode cX5_drawOf 26 = .ok (.ldiv, 1) := by decide +kernel
theorem dX5_drawOf_27 : decode cX5_drawOf 27 = .ok (.l2i, 1) := by decide +kernel
theorem dX5_drawOf_28 : decode cX5_drawOf 28 = .ok (.ireturn, 1) := by decide +kernel
theorem dX5_drawInto_0 : decode cX5_drawInto 0 = .ok (.aload_n 0, 1) := by decide +kernel
theorem dX5_drawInto_1 : decode cX5_drawInto 1 = .ok (.getfield 23, 3) := by decide +kernel
theorem dX5_drawInto_4 : decode cX5_drawInto 4 = .ok (.getfield 87, 3) := by decide +kernel
theorem dX5_drawInto_7 : decode cX5_drawInto 7 = .ok (.ifCond .eq 13, 3) := by decide +kernel
theorem dX5_drawInto_10 : decode cX5_drawInto 10 = .ok (.aload_n 0, 1) := by decide +kernel
theorem dX5_drawInto_11 : decode cX5_drawInto 11 = .ok (.getfield 23, 3) := by decide +kernel
theorem dX5_drawInto_14 : decode cX5_drawInto 14 = .ok (.getfield 191, 3) := by decide +kernel
theorem dX5_drawInto_17 : decode cX5_drawInto 17 = .ok (.ifCond .ne 4, 3) := by decide +kernel
theorem dX5_drawInto_20 : decode cX5_drawInto 20 = .ok (.return_, 1) := by decide +kernel
theorem dX5_drawInto_21 : decode cX5_drawInto 21 = .ok (.iload_n 2, 1) := by decide +kernel
theorem dX5_drawInto_22 : decode cX5_drawInto 22 = .ok (.aload_n 0, 1) := by decide +kernel
theorem dX5_drawInto_23 : decode cX5_drawInto 23 = .ok (.getfield 23, 3) := by decide +kernel
theorem dX5_drawInto_26 : decode cX5_drawInto 26 = .ok (.getfield 87, 3) := by decide +kernel
theorem dX5_drawInto_29 : decode cX5_drawInto 29 = .ok (.irem, 1) := by decide +kernel
theorem dX5_drawInto_30 : decode cX5_drawInto 30 = .ok (.istore_n 3, 1) := by decide +kernel
theorem dX5_drawInto_31 : decode cX5_drawInto 31 = .ok (.iload_n 2, 1) := by decide +kernel
theorem dX5_drawInto_32 : decode cX5_drawInto 32 = .ok (.bipush 8, 2) := by decide +kernel
theorem dX5_drawInto_34 : decode cX5_drawInto 34 = .ok (.idiv, 1) := by decide +kernel
theorem dX5_drawInto_35 : decode cX5_drawInto 35 = .ok (.aload_n 0, 1) := by decide +kernel
theorem dX5_drawInto_36 : decode cX5_drawInto 36 = .ok (.getfield 23, 3) := by decide +kernel
theorem dX5_drawInto_39 : decode cX5_drawInto 39 = .ok (.getfield 191, 3) := by decide +kernel
theorem dX5_drawInto_42 : decode cX5_drawInto 42 = .ok (.irem, 1) := by decide +kernel
theorem dX5_drawInto_43 : decode cX5_drawInto 43 = .ok (.istore 4, 2) := by decide +kernel
theorem dX5_drawInto_45 : decode cX5_drawInto 45 = .ok (.aload_n 1, 1) := by decide +kernel
theorem dX5_drawInto_46 : decode cX5_drawInto 46 = .ok (.iload_n 3, 1) := by decide +kernel
theorem dX5_drawInto_47 : decode cX5_drawInto 47 = .ok (.invokevirtual 135, 3) := by decide +kernel
theorem dX5_drawInto_50 : decode cX5_drawInto 50 = .ok (.ifCond .ne 35, 3) := by decide +kernel
theorem dX5_drawInto_53 : decode cX5_drawInto 53 = .ok (.aload_n 1, 1) := by decide +kernel
theorem dX5_drawInto_54 : decode cX5_drawInto 54 = .ok (.iload_n 3, 1) := by decide +kernel
theorem dX5_drawInto_55 : decode cX5_drawInto 55 = .ok (.invokevirtual 126, 3) := by decide +kernel
theorem dX5_drawInto_58 : decode cX5_drawInto 58 = .ok (.ifCond .ne 27, 3) := by decide +kernel
theorem dX5_drawInto_61 : decode cX5_drawInto 61 = .ok (.aload_n 1, 1) := by decide +kernel
theorem dX5_drawInto_62 : decode cX5_drawInto 62 = .ok (.iload_n 3, 1) := by decide +kernel
theorem dX5_drawInto_63 : decode cX5_drawInto 63 = .ok (.iload 4, 2) := by decide +kernel
theorem dX5_drawInto_65 : decode cX5_drawInto 65 = .ok (.invokevirtual 148, 3) := by decide +kernel
theorem dX5_drawInto_68 : decode cX5_drawInto 68 = .ok (.ifCond .eq 17, 3) := by decide +kernel
theorem dX5_drawInto_71 : decode cX5_drawInto 71 = .ok (.aload_n 1, 1) := by decide +kernel
theorem dX5_drawInto_72 : decode cX5_drawInto 72 = .ok (.iload_n 3, 1) := by decide +kernel
theorem dX5_drawInto_73 : decode cX5_drawInto 73 = .ok (.iload 4, 2) := by decide +kernel
theorem dX5_drawInto_75 : decode cX5_drawInto 75 = .ok (.iload_n 2, 1) := by decide +kernel
theorem dX5_drawInto_76 : decode cX5_drawInto 76 = .ok (.sipush 128, 3) := by decide +kernel
theorem dX5_drawInto_79 : decode cX5_drawInto 79 = .ok (.idiv, 1) := by decide +kernel
theorem dX5_drawInto_80 : decode cX5_drawInto 80 = .ok (.iconst 2, 1) := by decide +kernel
theorem dX5_drawInto_81 : decode cX5_drawInto 81 = .ok (.irem, 1) := by decide +kernel
theorem dX5_drawInto_82 : decode cX5_drawInto 82 = .ok (.invokevirtual 155, 3) := by decide +kernel
theorem dX5_drawInto_85 : decode cX5_drawInto 85 = .ok (.return_, 1) := by decide +kernel
theorem dX5_keep_0 : decode cX5_keep 0 = .ok (.aload_n 0, 1) := by decide +kernel
theorem dX5_keep_1 : decode cX5_keep 1 = .ok (.getfield 55, 3) := by decide +kernel
theorem dX5_keep_4 : decode cX5_keep 4 = .ok (.getfield 97, 3) := by decide +kernel
theorem dX5_keep_7 : decode cX5_keep 7 = .ok (.iconst 2, 1) := by decide +kernel
theorem dX5_keep_8 : decode cX5_keep 8 = .ok (.if_icmp .lt 6, 3) := by decide +kernel
theorem dX5_keep_11 : decode cX5_keep 11 = .ok (.bipush (-3), 2) := by decide +kernel
theorem dX5_keep_13 : decode cX5_keep 13 = .ok (.ireturn, 1) := by decide +kernel
theorem dX5_keep_14 : decode cX5_keep 14 = .ok (.aload_n 0, 1) := by decide +kernel
theorem dX5_keep_15 : decode cX5_keep 15 = .ok (.getfield 55, 3) := by decide +kernel
theorem dX5_keep_18 : decode cX5_keep 18 = .ok (.aload_n 0, 1) := by decide +kernel
theorem dX5_keep_19 : decode cX5_keep 19 = .ok (.getfield 32, 3) := by decide +kernel
theorem dX5_keep_22 : decode cX5_keep 22 = .ok (.invokevirtual 152, 3) := by decide +kernel
theorem dX5_keep_25 : decode cX5_keep 25 = .ok (.aload_n 0, 1) := by decide +kernel
theorem dX5_keep_26 : decode cX5_keep 26 = .ok (.getfield 55, 3) := by decide +kernel
theorem dX5_keep_29 : decode cX5_keep 29 = .ok (.getfield 97, 3) := by decide +kernel
theorem dX5_keep_32 : decode cX5_keep 32 = .ok (.ireturn, 1) := by decide +kernel
theorem dX5_back_0 : decode cX5_back 0 = .ok (.aload_n 0, 1) := by decide +kernel
theorem dX5_back_1 : decode cX5_back 1 = .ok (.getfield 55, 3) := by decide +kernel
theorem dX5_back_4 : decode cX5_back 4 = .ok (.getfield 97, 3) := by decide +kernel
theorem dX5_back_7 : decode cX5_back 7 = .ok (.ifCond .ne 6, 3) := by decide +kernel
theorem dX5_back_10 : decode cX5_back 10 = .ok (.bipush (-2), 2) := by decide +kernel
theorem dX5_back_12 : decode cX5_back 12 = .ok (.ireturn, 1) := by decide +kernel
theorem dX5_back_13 : decode cX5_back 13 = .ok (.aload_n 0, 1) := by decide +kernel
theorem dX5_back_14 : decode cX5_back 14 = .ok (.getfield 55, 3) := by decide +kernel
theorem dX5_back_17 : decode cX5_back 17 = .ok (.aload_n 0, 1) := by decide +kernel
theorem dX5_back_18 : decode cX5_back 18 = .ok (.getfield 32, 3) := by decide +kernel
theorem dX5_back_21 : decode cX5_back 21 = .ok (.invokevirtual 176, 3) := by decide +kernel
theorem dX5_back_24 : decode cX5_back 24 = .ok (.aload_n 0, 1) := by decide +kernel
theorem dX5_back_25 : decode cX5_back 25 = .ok (.getfield 51, 3) := by decide +kernel
theorem dX5_back_28 : decode cX5_back 28 = .ok (.iconst 0, 1) := by decide +kernel
theorem dX5_back_29 : decode cX5_back 29 = .ok (.putfield 97, 3) := by decide +kernel
theorem dX5_back_32 : decode cX5_back 32 = .ok (.aload_n 0, 1) := by decide +kernel
theorem dX5_back_33 : decode cX5_back 33 = .ok (.getfield 55, 3) := by decide +kernel
theorem dX5_back_36 : decode cX5_back 36 = .ok (.getfield 97, 3) := by decide +kernel
theorem dX5_back_39 : decode cX5_back 39 = .ok (.ireturn, 1) := by decide +kernel
theorem dX5_count_0 : decode cX5_count 0 = .ok (.iload_n 1, 1) := by decide +kernel
theorem dX5_count_1 : decode cX5_count 1 = .ok (.tableswitch 147 0 10 #[59, 67, 75, 83, 91, 99, 107, 118, 126, 134, 142], 59) := by decide +kernel
theorem dX5_count_60 : decode cX5_count 60 = .ok (.aload_n 0, 1) := by decide +kernel
theorem dX5_count_61 : decode cX5_count 61 = .ok (.getfield 23, 3) := by decide +kernel
theorem dX5_count_64 : decode cX5_count 64 = .ok (.getfield 87, 3) := by decide +kernel
theorem dX5_count_67 : decode cX5_count 67 = .ok (.ireturn, 1) := by decide +kernel
theorem dX5_count_68 : decode cX5_count 68 = .ok (.aload_n 0, 1) := by decide +kernel
theorem dX5_count_69 : decode cX5_count 69 = .ok (.getfield 23, 3) := by decide +kernel
theorem dX5_count_72 : decode cX5_count 72 = .ok (.getfield 191, 3) := by decide +kernel
theorem dX5_count_75 : decode cX5_count 75 = .ok (.ireturn, 1) := by decide +kernel
theorem dX5_count_76 : decode cX5_count 76 = .ok (.aload_n 0, 1) := by decide +kernel
theorem dX5_count_77 : decode cX5_count 77 = .ok (.getfield 23, 3) := by decide +kernel
theorem dX5_count_80 : decode cX5_count 80 = .ok (.getfield 256, 3) := by decide +kernel
theorem dX5_count_83 : decode cX5_count 83 = .ok (.ireturn, 1) := by decide +kernel
theorem dX5_count_84 : decode cX5_count 84 = .ok (.aload_n 0, 1) := by decide +kernel
theorem dX5_count_85 : decode cX5_count 85 = .ok (.getfield 23, 3) := by decide +kernel
theorem dX5_count_88 : decode cX5_count 88 = .ok (.getfield 259, 3) := by decide +kernel
theorem dX5_count_91 : decode cX5_count 91 = .ok (.ireturn, 1) := by decide +kernel
theorem dX5_count_92 : decode cX5_count 92 = .ok (.aload_n 0, 1) := by decide +kernel
theorem dX5_count_93 : decode cX5_count 93 = .ok (.getfield 32, 3) := by decide +kernel
theorem dX5_count_96 : decode cX5_count 96 = .ok (.getfield 173, 3) := by decide +kernel
theorem dX5_count_99 : decode cX5_count 99 = .ok (.ireturn, 1) := by decide +kernel
theorem dX5_count_100 : decode cX5_count 100 = .ok (.aload_n 0, 1) := by decide +kernel
theorem dX5_count_101 : decode cX5_count 101 = .ok (.getfield 32, 3) := by decide +kernel
theorem dX5_count_104 : decode cX5_count 104 = .ok (.invokevirtual 159, 3) := by decide +kernel
theorem dX5_count_107 : decode cX5_count 107 = .ok (.ireturn, 1) := by decide +kernel
theorem dX5_count_108 : decode cX5_count 108 = .ok (.aload_n 0, 1) := by decide +kernel
theorem dX5_count_109 : decode cX5_count 109 = .ok (.getfield 32, 3) := by decide +kernel
theorem dX5_count_112 : decode cX5_count 112 = .ok (.getfield 165, 3) := by decide +kernel
theorem dX5_count_115 : decode cX5_count 115 = .ok (.invokestatic 168, 3) := by decide +kernel
theorem dX5_count_118 : decode cX5_count 118 = .ok (.ireturn, 1) := by decide +kernel
theorem dX5_count_119 : decode cX5_count 119 = .ok (.aload_n 0, 1) := by decide +kernel
theorem dX5_count_120 : decode cX5_count 120 = .ok (.getfield 100, 3) := by decide +kernel
theorem dX5_count_123 : decode cX5_count 123 = .ok (.invokestatic 168, 3) := by decide +kernel
theorem dX5_count_126 : decode cX5_count 126 = .ok (.ireturn, 1) := by decide +kernel
theorem dX5_count_127 : decode cX5_count 127 = .ok (.aload_n 0, 1) := by decide +kernel
theorem dX5_count_128 : decode cX5_count 128 = .ok (.getfield 51, 3) := by decide +kernel
theorem dX5_count_131 : decode cX5_count 131 = .ok (.getfield 97, 3) := by decide +kernel
theorem dX5_count_134 : decode cX5_count 134 = .ok (.ireturn, 1) := by decide +kernel
theorem dX5_count_135 : decode cX5_count 135 = .ok (.aload_n 0, 1) := by decide +kernel
theorem dX5_count_136 : decode cX5_count 136 = .ok (.getfield 55, 3) := by decide +kernel
theorem dX5_count_139 : decode cX5_count 139 = .ok (.getfield 97, 3) := by decide +kernel
theorem dX5_count_142 : decode cX5_count 142 = .ok (.ireturn, 1) := by decide +kernel
theorem dX5_count_143 : decode cX5_count 143 = .ok (.aload_n 0, 1) := by decide +kernel
theorem dX5_count_144 : decode cX5_count 144 = .ok (.getfield 83, 3) := by decide +kernel
theorem dX5_count_147 : decode cX5_count 147 = .ok (.ireturn, 1) := by decide +kernel
theorem dX5_count_148 : decode cX5_count 148 = .ok (.iconst (-1), 1) := by decide +kernel
theorem dX5_count_149 : decode cX5_count 149 = .ok (.ireturn, 1) := by decide +kernel
theorem dX5_isBit_0 : decode cX5_isBit 0 = .ok (.iload_n 0, 1) := by decide +kernel
theorem dX5_isBit_1 : decode cX5_isBit 1 = .ok (.ifCond .eq 8, 3) := by decide +kernel
theorem dX5_isBit_4 : decode cX5_isBit 4 = .ok (.iload_n 0, 1) := by decide +kernel
theorem dX5_isBit_5 : decode cX5_isBit 5 = .ok (.iconst 1, 1) := by decide +kernel
theorem dX5_isBit_6 : decode cX5_isBit 6 = .ok (.if_icmp .ne 7, 3) := by decide +kernel
theorem dX5_isBit_9 : decode cX5_isBit 9 = .ok (.iconst 1, 1) := by decide +kernel
theorem dX5_isBit_10 : decode cX5_isBit 10 = .ok (.goto 4, 3) := by decide +kernel
theorem dX5_isBit_13 : decode cX5_isBit 13 = .ok (.iconst 0, 1) := by decide +kernel
theorem dX5_isBit_14 : decode cX5_isBit 14 = .ok (.ireturn, 1) := by decide +kernel
theorem dX5_isHour_0 : decode cX5_isHour 0 = .ok (.iload_n 0, 1) := by decide +kernel
theorem dX5_isHour_1 : decode cX5_isHour 1 = .ok (.ifCond .lt 13, 3) := by decide +kernel
theorem dX5_isHour_4 : decode cX5_isHour 4 = .ok (.iload_n 0, 1) := by decide +kernel
theorem dX5_isHour_5 : decode cX5_isHour 5 = .ok (.bipush 24, 2) := by decide +kernel
theorem dX5_isHour_7 : decode cX5_isHour 7 = .ok (.if_icmp .ge 7, 3) := by decide +kernel
theorem dX5_isHour_10 : decode cX5_isHour 10 = .ok (.iconst 1, 1) := by decide +kernel
theorem dX5_isHour_11 : decode cX5_isHour 11 = .ok (.goto 4, 3) := by decide +kernel
theorem dX5_isHour_14 : decode cX5_isHour 14 = .ok (.iconst 0, 1) := by decide +kernel
theorem dX5_isHour_15 : decode cX5_isHour 15 = .ok (.ireturn, 1) := by decide +kernel
theorem dX5_isTenth_0 : decode cX5_isTenth 0 = .ok (.iload_n 0, 1) := by decide +kernel
theorem dX5_isTenth_1 : decode cX5_isTenth 1 = .ok (.ifCond .lt 13, 3) := by decide +kernel
theorem dX5_isTenth_4 : decode cX5_isTenth 4 = .ok (.iload_n 0, 1) := by decide +kernel
theorem dX5_isTenth_5 : decode cX5_isTenth 5 = .ok (.bipush 10, 2) := by decide +kernel
theorem dX5_isTenth_7 : decode cX5_isTenth 7 = .ok (.if_icmp .gt 7, 3) := by decide +kernel
theorem dX5_isTenth_10 : decode cX5_isTenth 10 = .ok (.iconst 1, 1) := by decide +kernel
theorem dX5_isTenth_11 : decode cX5_isTenth 11 = .ok (.goto 4, 3) := by decide +kernel
theorem dX5_isTenth_14 : decode cX5_isTenth 14 = .ok (.iconst 0, 1) := by decide +kernel
theorem dX5_isTenth_15 : decode cX5_isTenth 15 = .ok (.ireturn, 1) := by decide +kernel
